theorem dX12_type_1 : decode cX12_type 1 = .ok (.iconst 0, 1) := by decide +kernel
theorem dX12_type_2 : decode cX12_type 2 = .ok (.sipush 255, 3) := by decide +kernel
theorem dX12_type_5 : decode cX12_type 5 = .ok (.invokestatic 51, 3) := by decide +kernel
theorem dX12_type_8 : decode cX12_type 8 = .ok (.ifCond .ne 5, 3) := by decide +kernel
theorem dX12_type_11 : decode cX12_type 11 = .ok (.iconst (-1), 1) := by decide +kernel
theorem dX12_type_12 : decode cX12_type 12 = .ok (.ireturn, 1) := by decide +kernel
theorem dX12_type_13 : decode cX12_type 13 = .ok (.aload_n 0, 1) := by decide +kernel
theorem dX12_type_14 : decode cX12_type 14 = .ok (.getfield 55, 3) := by decide +kernel
theorem dX12_type_17 : decode cX12_type 17 = .ok (.bipush 120, 2) := by decide +kernel
theorem dX12_type_19 : decode cX12_type 19 = .ok (.if_icmp .ne 6, 3) := by decide +kernel
theorem dX12_type_22 : decode cX12_type 22 = .ok (.bipush (-3), 2) := by decide +kernel
theorem dX12_type_24 : decode cX12_type 24 = .ok (.ireturn, 1) := by decide +kernel
theorem dX12_type_25 : decode cX12_type 25 = .ok (.aload_n 0, 1) := by decide +kernel
theorem dX12_type_26 : decode cX12_type 26 = .ok (.getfield 7, 3) := by decide +kernel
theorem dX12_type_29 : decode cX12_type 29 = .ok (.aload_n 0, 1) := by decide +kernel
theorem dX12_type_30 : decode cX12_type 30 = .ok (.getfield 55, 3) := by decide +kernel
theorem dX12_type_33 : decode cX12_type 33 = .ok (.iload_n 1, 1) := by decide +kernel
theorem dX12_type_34 : decode cX12_type 34 = .ok (.iastore, 1) := by decide +kernel
theorem dX12_type_35 : decode cX12_type 35 = .ok (.aload_n 0, 1) := by decide +kernel
theorem dX12_type_36 : decode cX12_type 36 = .ok (.dup, 1) := by decide +kernel
theorem dX12_type_37 : decode cX12_type 37 = .ok (.getfield 55, 3) := by decide +kernel
theorem dX12_type_40 : decode cX12_type 40 = .ok (.iconst 1, 1) := by decide +kernel
theorem dX12_type_41 : decode cX12_type 41 = .ok (.iadd, 1) := by decide +kernel
theorem dX12_type_42 : decode cX12_type 42 = .ok (.putfield 55, 3) := by decide +kernel
theorem dX12_type_45 : decode cX12_type 45 = .ok (.aload_n 0, 1) := by decide +kernel
theorem dX12_type_46 : decode cX12_type 46 = .ok (.getfield 55, 3) := by decide +kernel
theorem dX12_type_49 : decode cX12_type 49 = .ok (.ireturn, 1) := by decide +kernel
theorem dX12_clear_0 : decode cX12_clear 0 = .ok (.aload_n 0, 1) := by decide +kernel
theorem dX12_clear_1 : decode cX12_clear 1 = .ok (.getfield 55, 3) := by decide +kernel
theorem dX12_clear_4 : decode cX12_clear 4 = .ok (.istore_n 1, 1) := by decide +kernel
theorem dX12_clear_5 : decode cX12_clear 5 = .ok (.aload_n 0, 1) := by decide +kernel
theorem dX12_clear_6 : decode cX12_clear 6 = .ok (.iconst 0, 1) := by decide +kernel
theorem dX12_clear_7 : decode cX12_clear 7 = .ok (.putfield 55, 3) := by decide +kernel
theorem dX12_clear_10 : decode cX12_clear 10 = .ok (.iload_n 1, 1) := by decide +kernel
theorem dX12_clear_11 : decode cX12_clear 11 = .ok (.ireturn, 1) := by decide +kernel
theorem dX12_byteAt_0 : decode cX12_byteAt 0 = .ok (.iload_n 1, 1) := by decide +kernel
theorem dX12_byteAt_1 : decode cX12_byteAt 1 = .ok (.aload_n 0, 1) := by decide +kernel
theorem dX12_byteAt_2 : decode cX12_byteAt 2 = .ok (.getfield 55, 3) := by decide +kernel
theorem dX12_byteAt_5 : decode cX12_byteAt 5 = .ok (.if_icmp .ge 12, 3) := by decide +kernel
theorem dX12_byteAt_8 : decode cX12_byteAt 8 = .ok (.aload_n 0, 1) := by decide +kernel
theorem dX12_byteAt_9 : decode cX12_byteAt 9 = .ok (.getfield 7, 3) := by decide +kernel
theorem dX12_byteAt_12 : decode cX12_byteAt 12 = .ok (.iload_n 1, 1) := by decide +kernel
theorem dX12_byteAt_13 : decode cX12_byteAt 13 = .ok (.iaload, 1) := by decide +kernel
theorem dX12_byteAt_14 : decode cX12_byteAt 14 = .ok (.goto 4, 3) := by decide +kernel
theorem dX12_byteAt_17 : decode cX12_byteAt 17 = .ok (.iconst (-1), 1) := by decide +kernel
theorem dX12_byteAt_18 : decode cX12_byteAt 18 = .ok (.ireturn, 1) := by decide +kernel
set_option maxRecDepth 20000 in
theorem ggX12_isDigit_X12_in : GoodIn wsX12_isDigit wsX12_in := goodIn_r _ [4] (by decide +kernel) (by decide +kernel)
set_option maxRecDepth 20000 in
theorem gX12_isDigit_X12_in : GoodIn wsX12_isDigit (va_wsS RX12 51 yX12_in wsX12_in) := goodIn_app (goodIn_of _ (by decide +kernel)) ggX12_isDigit_X12_in
theorem dX12_isDigit_0 : decode cX12_isDigit 0 = .ok (.iload_n 0, 1) := by decide +kernel
theorem dX12_isDigit_1 : decode cX12_isDigit 1 = .ok (.bipush 48, 2) := by decide +kernel
theorem dX12_isDigit_3 : decode cX12_isDigit 3 = .ok (.bipush 57, 2) := by decide +kernel
theorem dX12_isDigit_5 : decode cX12_isDigit 5 = .ok (.invokestatic 51, 3) := by decide +kernel
theorem dX12_isDigit_8 : decode cX12_isDigit 8 = .ok (.ireturn, 1) := by decide +kernel
set_option maxRecDepth 20000 in
theorem ggX12_isLetter_X12_in : GoodIn wsX12_isLetter wsX12_in := goodIn_r _ [4] (by decide +kernel) (by decide +kernel)
set_option maxRecDepth 20000 in
theorem gX12_isLetter_X12_in : GoodIn wsX12_isLetter (va_wsS RX12 51 yX12_in wsX12_in) := goodIn_app (goodIn_of _ (by decide +kernel)) ggX12_isLetter_X12_in
theorem dX12_isLetter_0 : decode cX12_isLetter 0 = .ok (.iload_n 0, 1) := by decide +kernel
theorem dX12_isLetter_1 : decode cX12_isLetter 1 = .ok (.bipush 97, 2) := by decide +kernel
theorem dX12_isLetter_3 : decode cX12_isLetter 3 = .ok (.bipush 122, 2) := by decide +kernel
theorem dX12_isLetter_5 : decode cX12_isLetter 5 = .ok (.invokestatic 51, 3) := by decide +kernel
theorem dX12_isLetter_8 : decode cX12_isLetter 8 = .ok (.ireturn, 1) := by decide +kernel
set_option maxRecDepth 20000 in
theorem ggX12_token_X12_byteAt : GoodIn wsX12_token wsX12_byteAt := goodIn_r _ [10, 11, 5, 21, 22, 23, 24, 25, 26, 27, 28, 29, 30, 31, 32, 33, 34, 35, 36, 37, 38] (by decide +kernel) (by decide +kernel)
set_option maxRecDepth 20000 in
theorem gX12_token_X12_byteAt : GoodIn wsX12_token (wsV RX12 62 RX12 yX12_byteAt wsX12_byteAt) := goodIn_app (goodIn_of _ (by decide +kernel)) ggX12_token_X12_byteAt
set_option maxRecDepth 20000 in
theorem ggX12_token_X12_isLetter : GoodIn wsX12_token wsX12_isLetter := goodIn_r _ [14, 15, 16, 9, 17] (by decide +kernel) (by decide +kernel)
set_option maxRecDepth 20000 in
theorem gX12_token_X12_isLetter : GoodIn wsX12_token (va_wsS RX12 69 yX12_isLetter wsX12_isLetter) := goodIn_app (goodIn_of _ (by decide +kernel)) ggX12_token_X12_isLetter
set_option maxRecDepth 20000 in
theorem ggX12_token_X12_isDigit : GoodIn wsX12_token wsX12_isDigit := goodIn_r _ [20, 15, 16, 9, 17] (by decide +kernel) (by decide +kernel)
set_option maxRecDepth 20000 in
theorem gX12_token_X12_isDigit : GoodIn wsX12_token (va_wsS RX12 73 yX12_isDigit wsX12_isDigit) := goodIn_app (goodIn_of _ (by decide +kernel)) ggX12_token_X12_isDigit
theorem dX12_token_0 : decode cX12_token 0 = .ok (.aload_n 0, 1) := by decide +kernel
theorem dX12_token_1 : decode cX12_token 1 = .ok (.aload_n 0, 1) := by decide +kernel
theorem dX12_token_2 : decode cX12_token 2 = .ok (.getfield 59, 3) := by decide +kernel
theorem dX12_token_5 : decode cX12_token 5 = .ok (.invokevirtual 62, 3) := by decide +kernel
theorem dX12_token_8 : decode cX12_token 8 = .ok (.bipush 32, 2) := by decide +kernel
theorem dX12_token_10 : decode cX12_token 10 = .ok (.if_icmp .ne 16, 3) := by decide +kernel
theorem dX12_token_13 : decode cX12_token 13 = .ok (.aload_n 0, 1) := by decide +kernel
theorem dX12_token_14 : decode cX12_token 14 = .ok (.dup, 1) := by decide +kernel
theorem dX12_token_15 : decode cX12_token 15 = .ok (.getfield 59, 3) := by decide +kernel
theorem dX12_token_18 : decode cX12_token 18 = .ok (.iconst 1, 1) := by decide +kernel
theorem dX12_token_19 : decode cX12_token 19 = .ok (.iadd, 1) := by decide +kernel
theorem dX12_token_20 : decode cX12_token 20 = .ok (.putfield 59, 3) := by decide +kernel
theorem dX12_token_23 : decode cX12_token 23 = .ok (.goto (-23), 3) := by decide +kernel
theorem dX12_token_26 : decode cX12_token 26 = .ok (.aload_n 0, 1) := by decide +kernel
theorem dX12_token_27 : decode cX12_token 27 = .ok (.aload_n 0, 1) := by decide +kernel
theorem dX12_token_28 : decode cX12_token 28 = .ok (.getfield 59, 3) := by decide +kernel
theorem dX12_token_31 : decode cX12_token 31 = .ok (.putfield 66, 3) := by decide +kernel
theorem dX12_token_34 : decode cX12_token 34 = .ok (.aload_n 0, 1) := by decide +kernel
theorem dX12_token_35 : decode cX12_token 35 = .ok (.aload_n 0, 1) := by decide +kernel
theorem dX12_token_36 : decode cX12_token 36 = .ok (.getfield 59, 3) := by decide +kernel
theorem dX12_token_39 : decode cX12_token 39 = .ok (.invokevirtual 62, 3) := by decide +kernel
theorem dX12_token_42 : decode cX12_token 42 = .ok (.istore_n 1, 1) := by decide +kernel
theorem dX12_token_43 : decode cX12_token 43 = .ok (.aload_n 0, 1) := by decide +kernel
theorem dX12_token_44 : decode cX12_token 44 = .ok (.iload_n 1, 1) := by decide +kernel
theorem dX12_token_45 : decode cX12_token 45 = .ok (.ifCond .ge 7, 3) := by decide +kernel
theorem dX12_token_48 : decode cX12_token 48 = .ok (.iconst 0, 1) := by decide +kernel
theorem dX12_token_49 : decode cX12_token 49 = .ok (.goto 36, 3) := by decide +kernel
theorem dX12_token_52 : decode cX12_token 52 = .ok (.iload_n 1, 1) := by decide +kernel
theorem dX12_token_53 : decode cX12_token 53 = .ok (.invokestatic 69, 3) := by decide +kernel
theorem dX12_token_56 : decode cX12_token 56 = .ok (.ifCond .eq 7, 3) := by decide +kernel
theorem dX12_token_59 : decode cX12_token 59 = .ok (.iconst 1, 1) := by decide +kernel
theorem dX12_token_60 : decode cX12_token 60 = .ok (.goto 25, 3) := by decide +kernel
theorem dX12_token_63 : decode cX12_token 63 = .ok (.iload_n 1, 1) := by decide +kernel
theorem dX12_token_64 : decode cX12_token 64 = .ok (.invokestatic 73, 3) := by decide +kernel
theorem dX12_token_67 : decode cX12_token 67 = .ok (.ifCond .eq 7, 3) := by decide +kernel
theorem dX12_token_70 : decode cX12_token 70 = .ok (.iconst 2, 1) := by decide +kernel
theorem dX12_token_71 : decode cX12_token 71 = .ok (.goto 14, 3) := by decide +kernel
theorem dX12_token_74 : decode cX12_token 74 = .ok (.iload_n 1, 1) := by decide +kernel
theorem dX12_token_75 : decode cX12_token 75 = .ok (.bipush 59, 2) := by decide +kernel
theorem dX12_token_77 : decode cX12_token 77 = .ok (.if_icmp .ne 7, 3) := by decide +kernel
theorem dX12_token_80 : decode cX12_token 80 = .ok (.iconst 3, 1) := by decide +kernel
theorem dX12_token_81 : decode cX12_token 81 = .ok (.goto 4, 3) := by decide +kernel
theorem dX12_token_84 : decode cX12_token 84 = .ok (.iconst 4, 1) := by decide +kernel
theorem dX12_token_85 : decode cX12_token 85 = .ok (.putfield 76, 3) := by decide +kernel
theorem dX12_token_88 : decode cX12_token 88 = .ok (.aload_n 0, 1) := by decide +kernel
theorem dX12_token_89 : decode cX12_token 89 = .ok (.iload_n 1, 1) := by decide +kernel
theorem dX12_token_90 : decode cX12_token 90 = .ok (.putfield 79, 3) := by decide +kernel
theorem dX12_token_93 : decode cX12_token 93 = .ok (.aload_n 0, 1) := by decide +kernel
theorem dX12_token_94 : decode cX12_token 94 = .ok (.dup, 1) := by decide +kernel
theorem dX12_token_95 : decode cX12_token 95 = .ok (.getfield 59, 3) := by decide +kernel
theorem dX12_token_98 : decode cX12_token 98 = .ok (.aload_n 0, 1) := by decide +kernel
theorem dX12_token_99 : decode cX12_token 99 = .ok (.getfield 76, 3) := by decide +kernel
theorem dX12_token_102 : decode cX12_token 102 = .ok (.ifCond .ne 7, 3) := by decide +kernel
theorem dX12_token_105 : decode cX12_token 105 = .ok (.iconst 0, 1) := by decide +kernel
theorem dX12_token_106 : decode cX12_token 106 = .ok (.goto 4, 3) := by decide +kernel
theorem dX12_token_109 : decode cX12_token 109 = .ok (.iconst 1, 1) := by decide +kernel
theorem dX12_token_110 : decode cX12_token 110 = .ok (.iadd, 1) := by decide +kernel
theorem dX12_token_111 : decode cX12_token 111 = .ok (.putfield 59, 3) := by decide +kernel
theorem dX12_token_114 : decode cX12_token 114 = .ok (.aload_n 0, 1) := by decide +kernel
theorem dX12_token_115 : decode cX12_token 115 = .ok (.getfield 76, 3) := by decide +kernel
theorem dX12_token_118 : decode cX12_token 118 = .ok (.iconst 1, 1) := by decide +kernel
theorem dX12_token_119 : decode cX12_token 119 = .ok (.if_icmp .ne 35, 3) := by decide +kernel
theorem dX12_token_122 : decode cX12_token 122 = .ok (.aload_n 0, 1) := by decide +kernel
theorem dX12_token_123 : decode cX12_token 123 = .ok (.aload_n 0, 1) := by decide +kernel
theorem dX12_token_124 : decode cX12_token 124 = .ok (.getfield 59, 3) := by decide +kernel
theorem dX12_token_127 : decode cX12_token 127 = .ok (.invokevirtual 62, 3) := by decide +kernel
theorem dX12_token_130 : decode cX12_token 130 = .ok (.invokestatic 69, 3) := by decide +kernel
theorem dX12_token_133 : decode cX12_token 133 = .ok (.ifCond .eq 21, 3) := by decide +kernel
theorem dX12_token_136 : decode cX12_token 136 = .ok (.aload_n 0, 1) := by decide +kernel
theorem dX12_token_137 : decode cX12_token 137 = .ok (.iconst 0, 1) := by decide +kernel
theorem dX12_token_138 : decode cX12_token 138 = .ok (.putfield 79, 3) := by decide +kernel
theorem dX12_token_141 : decode cX12_token 141 = .ok (.aload_n 0, 1) := by decide +kernel
theorem dX12_token_142 : decode cX12_token 142 = .ok (.dup, 1) := by decide +kernel
theorem dX12_token_143 : decode cX12_token 143 = .ok (.getfield 59, 3) := by decide +kernel
theorem dX12_token_146 : decode cX12_token 146 = .ok (.iconst 1, 1) := by decide +kernel
theorem dX12_token_147 : decode cX12_token 147 = .ok (.iadd, 1) := by decide +kernel
theorem dX12_token_148 : decode cX12_token 148 = .ok (.putfield 59, 3) := by decide +kernel
theorem dX12_token_151 : decode cX12_token 151 = .ok (.goto (-37), 3) := by decide +kernel
theorem dX12_token_154 : decode cX12_token 154 = .ok (.aload_n 0, 1) := by decide +kernel
theorem dX12_token_155 : decode cX12_token 155 = .ok (.getfield 76, 3) := by decide +kernel
theorem dX12_token_158 : decode cX12_token 158 = .ok (.iconst 2, 1) := by decide +kernel
theorem dX12_token_159 : decode cX12_token 159 = .ok (.if_icmp .ne 83, 3) := by decide +kernel
theorem dX12_token_162 : decode cX12_token 162 = .ok (.aload_n 0, 1) := by decide +kernel
theorem dX12_token_163 : decode cX12_token 163 = .ok (.iload_n 1, 1) := by decide +kernel
theorem dX12_token_164 : decode cX12_token 164 = .ok (.bipush 48, 2) := by decide +kernel
theorem dX12_token_166 : decode cX12_token 166 = .ok (.isub, 1) := by decide +kernel
theorem dX12_token_167 : decode cX12_token 167 = .ok (.putfield 79, 3) := by decide +kernel
theorem dX12_token_170 : decode cX12_token 170 = .ok (.aload_n 0, 1) := by decide +kernel
theorem dX12_token_171 : decode cX12_token 171 = .ok (.aload_n 0, 1) := by decide +kernel
theorem dX12_token_172 : decode cX12_token 172 = .ok (.getfield 59, 3) := by decide +kernel
theorem dX12_token_175 : decode cX12_token 175 = .ok (.invokevirtual 62, 3) := by decide +kernel
theorem dX12_token_178 : decode cX12_token 178 = .ok (.invokestatic 73, 3) := by decide +kernel
theorem dX12_token_181 : decode cX12_token 181 = .ok (.ifCond .eq 61, 3) := by decide +kernel
theorem dX12_token_184 : decode cX12_token 184 = .ok (.aload_n 0, 1) := by decide +kernel
theorem dX12_token_185 : decode cX12_token 185 = .ok (.iload_n 1, 1) := by decide +kernel
theorem dX12_token_186 : decode cX12_token 186 = .ok (.bipush 48, 2) := by decide +kernel
theorem dX12_token_188 : decode cX12_token 188 = .ok (.if_icmp .eq 12, 3) := by decide +kernel
theorem dX12_token_191 : decode cX12_token 191 = .ok (.aload_n 0, 1) := by decide +kernel
theorem dX12_token_192 : decode cX12_token 192 = .ok (.getfield 79, 3) := by decide +kernel
theorem dX12_token_195 : decode cX12_token 195 = .ok (.bipush 99, 2) := by decide +kernel
theorem dX12_token_197 : decode cX12_token 197 = .ok (.if_icmp .le 9, 3) := by decide +kernel
theorem dX12_token_200 : decode cX12_token 200 = .ok (.sipush 1000, 3) := by decide +kernel
theorem dX12_token_203 : decode cX12_token 203 = .ok (.goto 23, 3) := by decide +kernel
theorem dX12_token_206 : decode cX12_token 206 = .ok (.bipush 10, 2) := by decide +kernel
theorem dX12_token_208 : decode cX12_token 208 = .ok (.aload_n 0, 1) := by decide +kernel
theorem dX12_token_209 : decode cX12_token 209 = .ok (.getfield 79, 3) := by decide +kernel
theorem dX12_token_212 : decode cX12_token 212 = .ok (.imul, 1) := by decide +kernel
theorem dX12_token_213 : decode cX12_token 213 = .ok (.aload_n 0, 1) := by decide +kernel
theorem dX12_token_214 : decode cX12_token 214 = .ok (.getfield 7, 3) := by decide +kernel
theorem dX12_token_217 : decode cX12_token 217 = .ok (.aload_n 0, 1) := by decide +kernel
theorem dX12_token_218 : decode cX12_token 218 = .ok (.getfield 59, 3) := by decide +kernel
theorem dX12_token_221 : decode cX12_token 221 = .ok (.iaload, 1) := by decide +kernel
theorem dX12_token_222 : decode cX12_token 222 = .ok (.iadd, 1) := by decide +kernel
theorem dX12_token_223 : decode cX12_token 223 = .ok (.bipush 48, 2) := by decide +kernel
theorem dX12_token_225 : decode cX12_token 225 = .ok (.isub, 1) := by decide +kernel
theorem dX12_token_226 : decode cX12_token 226 = .ok (.putfield 79, 3) := by decide +kernel
theorem dX12_token_229 : decode cX12_token 229 = .ok (.aload_n 0, 1) := by decide +kernel
theorem dX12_token_230 : decode cX12_token 230 = .ok (.dup, 1) := by decide +kernel
theorem dX12_token_231 : decode cX12_token 231 = .ok (.getfield 59, 3) := by decide +kernel
theorem dX12_token_234 : decode cX12_token 234 = .ok (.iconst 1, 1) := by decide +kernel
theorem dX12_token_235 : decode cX12_token 235 = .ok (.iadd, 1) := by decide +kernel
theorem dX12_token_236 : decode cX12_token 236 = .ok (.putfield 59, 3) := by decide +kernel
theorem dX12_token_239 : decode cX12_token 239 = .ok (.goto (-69), 3) := by decide +kernel
theorem dX12_token_242 : decode cX12_token 242 = .ok (.return_, 1) := by decide +kernel
set_option maxRecDepth 20000 in
theorem ggX12_number_X12_token : GoodIn wsX12_number wsX12_token := goodIn_r _ [8, 9, 10, 3, 2, 11, 12, 13, 14, 7, 15, 16, 17, 18, 19, 20, 21, 22, 23, 24, 25, 26, 27, 28, 29, 30, 31, 32, 33, 34, 35, 36, 37, 38, 39, 40, 41, 42, 43] (by decide +kernel) (by decide +kernel)
set_option maxRecDepth 20000 in
theorem gX12_number_X12_token : GoodIn wsX12_number (wsV RX12 82 RX12 yX12_token wsX12_token) := goodIn_app (goodIn_of _ (by decide +kernel)) ggX12_number_X12_token
set_option maxRecDepth 20000 in
theorem ggX12_number_X12_in : GoodIn wsX12_number wsX12_in := goodIn_r _ [22] (by decide +kernel) (by decide +kernel)
set_option maxRecDepth 20000 in
theorem gX12_number_X12_in : GoodIn wsX12_number (va_wsS RX12 51 yX12_in wsX12_in) := goodIn_app (goodIn_of _ (by decide +kernel)) ggX12_number_X12_in
theorem dX12_number_0 : decode cX12_number 0 = .ok (.aload_n 0, 1) := by decide +kernel
theorem dX12_number_1 : decode cX12_number 1 = .ok (.invokevirtual 82, 3) := by decide +kernel
theorem dX12_number_4 : decode cX12_number 4 = .ok (.aload_n 0, 1) := by decide +kernel
theorem dX12_number_5 : decode cX12_number 5 = .ok (.getfield 16, 3) := by decide +kernel
theorem dX12_number_8 : decode cX12_number 8 = .ok (.iload_n 1, 1) := by decide +kernel
theorem dX12_number_9 : decode cX12_number 9 = .ok (.aload_n 0, 1) := by decide +kernel
theorem dX12_number_10 : decode cX12_number 10 = .ok (.getfield 79, 3) := by decide +kernel
theorem dX12_number_13 : decode cX12_number 13 = .ok (.iastore, 1) := by decide +kernel
theorem dX12_number_14 : decode cX12_number 14 = .ok (.aload_n 0, 1) := by decide +kernel
theorem dX12_number_15 : decode cX12_number 15 = .ok (.getfield 76, 3) := by decide +kernel
theorem dX12_number_18 : decode cX12_number 18 = .ok (.iconst 2, 1) := by decide +kernel
theorem dX12_number_19 : decode cX12_number 19 = .ok (.if_icmp .ne 19, 3) := by decide +kernel
theorem dX12_number_22 : decode cX12_number 22 = .ok (.aload_n 0, 1) := by decide +kernel
theorem dX12_number_23 : decode cX12_number 23 = .ok (.getfield 79, 3) := by decide +kernel
theorem dX12_number_26 : decode cX12_number 26 = .ok (.iload_n 2, 1) := by decide +kernel
theorem dX12_number_27 : decode cX12_number 27 = .ok (.iload_n 3, 1) := by decide +kernel
theorem dX12_number_28 : decode cX12_number 28 = .ok (.invokestatic 51, 3) := by decide +kernel
theorem dX12_number_31 : decode cX12_number 31 = .ok (.ifCond .eq 7, 3) := by decide +kernel
theorem dX12_number_34 : decode cX12_number 34 = .ok (.iconst 1, 1) := by decide +kernel
theorem dX12_number_35 : decode cX12_number 35 = .ok (.goto 4, 3) := by decide +kernel
theorem dX12_number_38 : decode cX12_number 38 = .ok (.iconst 0, 1) := by decide +kernel
theorem dX12_number_39 : decode cX12_number 39 = .ok (.ireturn, 1) := by decide +kernel
set_option maxRecDepth 20000 in
theorem ggX12_readsItem_X12_number : GoodIn wsX12_readsItem wsX12_number := goodIn_r _ [8, 3, 2, 1, 9, 10, 11, 7, 12, 13, 14, 15, 16, 17, 18, 19, 20, 21, 22, 23, 24, 25, 26, 27, 28, 29, 30, 31, 32, 33, 34, 35, 36, 37, 38, 39, 40, 41, 42, 43, 44, 45, 46, 47] (by decide +kernel) (by decide +kernel)
set_option maxRecDepth 20000 in
theorem gX12_readsItem_X12_number : GoodIn wsX12_readsItem (wsV RX12 85 RX12 yX12_number wsX12_number) := goodIn_app (goodIn_of _ (by decide +kernel)) ggX12_readsItem_X12_number
theorem dX12_readsItem_0 : decode cX12_readsItem 0 = .ok (.aload_n 0, 1) := by decide +kernel
theorem dX12_readsItem_1 : decode cX12_readsItem 1 = .ok (.getfield 76, 3) := by decide +kernel
theorem dX12_readsItem_4 : decode cX12_readsItem 4 = .ok (.iconst 1, 1) := by decide +kernel
theorem dX12_readsItem_5 : decode cX12_readsItem 5 = .ok (.if_icmp .ne 10, 3) := by decide +kernel
theorem dX12_readsItem_8 : decode cX12_readsItem 8 = .ok (.aload_n 0, 1) := by decide +kernel
theorem dX12_readsItem_9 : decode cX12_readsItem 9 = .ok (.getfield 79, 3) := by decide +kernel
theorem dX12_readsItem_12 : decode cX12_readsItem 12 = .ok (.goto 4, 3) := by decide +kernel
theorem dX12_readsItem_15 : decode cX12_readsItem 15 = .ok (.iconst 0, 1) := by decide +kernel
theorem dX12_readsItem_16 : decode cX12_readsItem 16 = .ok (.istore_n 1, 1) := by decide +kernel
theorem dX12_readsItem_17 : decode cX12_readsItem 17 = .ok (.iload_n 1, 1) := by decide +kernel
theorem dX12_readsItem_18 : decode cX12_readsItem 18 = .ok (.bipush 116, 2) := by decide +kernel
theorem dX12_readsItem_20 : decode cX12_readsItem 20 = .ok (.if_icmp .ne 12, 3) := by decide +kernel
theorem dX12_readsItem_23 : decode cX12_readsItem 23 = .ok (.aload_n 0, 1) := by decide +kernel
theorem dX12_readsItem_24 : decode cX12_readsItem 24 = .ok (.getfield 16, 3) := by decide +kernel
theorem dX12_readsItem_27 : decode cX12_readsItem 27 = .ok (.iconst 1, 1) := by decide +kernel
theorem dX12_readsItem_28 : decode cX12_readsItem 28 = .ok (.iaload, 1) := by decide +kernel
theorem dX12_readsItem_29 : decode cX12_readsItem 29 = .ok (.goto 9, 3) := by decide +kernel
theorem dX12_readsItem_32 : decode cX12_readsItem 32 = .ok (.aload_n 0, 1) := by decide +kernel
theorem dX12_readsItem_33 : decode cX12_readsItem 33 = .ok (.getfield 16, 3) := by decide +kernel
theorem dX12_readsItem_36 : decode cX12_readsItem 36 = .ok (.iconst 0, 1) := by decide +kernel
theorem dX12_readsItem_37 : decode cX12_readsItem 37 = .ok (.iaload, 1) := by decide +kernel
theorem dX12_readsItem_38 : decode cX12_readsItem 38 = .ok (.istore_n 2, 1) := by decide +kernel
theorem dX12_readsItem_39 : decode cX12_readsItem 39 = .ok (.iload_n 1, 1) := by decide +kernel
theorem dX12_readsItem_40 : decode cX12_readsItem 40 = .ok (.lookupswitch 188 #[(110, 96), (115, 36), (116, 154)], 36) := by decide +kernel
theorem dX12_readsItem_76 : decode cX12_readsItem 76 = .ok (.iload_n 2, 1) := by decide +kernel
theorem dX12_readsItem_77 : decode cX12_readsItem 77 = .ok (.bipush 8, 2) := by decide +kernel
theorem dX12_readsItem_79 : decode cX12_readsItem 79 = .ok (.if_icmp .eq 43, 3) := by decide +kernel
theorem dX12_readsItem_82 : decode cX12_readsItem 82 = .ok (.aload_n 0, 1) := by decide +kernel
theorem dX12_readsItem_83 : decode cX12_readsItem 83 = .ok (.bipush 6, 2) := by decide +kernel
theorem dX12_readsItem_85 : decode cX12_readsItem 85 = .ok (.iload_n 2, 1) := by decide +kernel
theorem dX12_readsItem_86 : decode cX12_readsItem 86 = .ok (.iadd, 1) := by decide +kernel
theorem dX12_readsItem_87 : decode cX12_readsItem 87 = .ok (.iconst 1, 1) := by decide +kernel
theorem dX12_readsItem_88 : decode cX12_readsItem 88 = .ok (.bipush 30, 2) := by decide +kernel
theorem dX12_readsItem_90 : decode cX12_readsItem 90 = .ok (.invokevirtual 85, 3) := by decide +kernel
theorem dX12_readsItem_93 : decode cX12_readsItem 93 = .ok (.ifCond .eq 29, 3) := by decide +kernel
theorem dX12_readsItem_96 : decode cX12_readsItem 96 = .ok (.aload_n 0, 1) := by decide +kernel
theorem dX12_readsItem_97 : decode cX12_readsItem 97 = .ok (.bipush 14, 2) := by decide +kernel
theorem dX12_readsItem_99 : decode cX12_readsItem 99 = .ok (.iload_n 2, 1) := by decide +kernel
theorem dX12_readsItem_100 : decode cX12_readsItem 100 = .ok (.iadd, 1) := by decide +kernel
theorem dX12_readsItem_101 : decode cX12_readsItem 101 = .ok (.iconst 1, 1) := by decide +kernel
theorem dX12_readsItem_102 : decode cX12_readsItem 102 = .ok (.iconst 4, 1) := by decide +kernel
theorem dX12_readsItem_103 : decode cX12_readsItem 103 = .ok (.invokevirtual 85, 3) := by decide +kernel
theorem dX12_readsItem_106 : decode cX12_readsItem 106 = .ok (.ifCond .eq 16, 3) := by decide +kernel
theorem dX12_readsItem_109 : decode cX12_readsItem 109 = .ok (.aload_n 0, 1) := by decide +kernel
theorem dX12_readsItem_110 : decode cX12_readsItem 110 = .ok (.bipush 22, 2) := by decide +kernel
theorem dX12_readsItem_112 : decode cX12_readsItem 112 = .ok (.iload_n 2, 1) := by decide +kernel
theorem dX12_readsItem_113 : decode cX12_readsItem 113 = .ok (.iadd, 1) := by decide +kernel
theorem dX12_readsItem_114 : decode cX12_readsItem 114 = .ok (.iconst 0, 1) := by decide +kernel
theorem dX12_readsItem_115 : decode cX12_readsItem 115 = .ok (.iconst 3, 1) := by decide +kernel
theorem dX12_readsItem_116 : decode cX12_readsItem 116 = .ok (.invokevirtual 85, 3) := by decide +kernel
theorem dX12_readsItem_119 : decode cX12_readsItem 119 = .ok (.ifCond .ne 5, 3) := by decide +kernel
theorem dX12_readsItem_122 : decode cX12_readsItem 122 = .ok (.iconst 0, 1) := by decide +kernel
theorem dX12_readsItem_123 : decode cX12_readsItem 123 = .ok (.ireturn, 1) := by decide +kernel
theorem dX12_readsItem_124 : decode cX12_readsItem 124 = .ok (.aload_n 0, 1) := by decide +kernel
theorem dX12_readsItem_125 : decode cX12_readsItem 125 = .ok (.getfield 16, 3) := by decide +kernel
theorem dX12_readsItem_128 : decode cX12_readsItem 128 = .ok (.iconst 0, 1) := by decide +kernel
theorem dX12_readsItem_129 : decode cX12_readsItem 129 = .ok (.dup2, 1) := by decide +kernel
theorem dX12_readsItem_130 : decode cX12_readsItem 130 = .ok (.iaload, 1) := by decide +kernel
theorem dX12_readsItem_131 : decode cX12_readsItem 131 = .ok (.iconst 1, 1) := by decide +kernel
theorem dX12_readsItem_132 : decode cX12_readsItem 132 = .ok (.iadd, 1) := by decide +kernel
theorem dX12_readsItem_133 : decode cX12_readsItem 133 = .ok (.iastore, 1) := by decide +kernel
theorem dX12_readsItem_134 : decode cX12_readsItem 134 = .ok (.iconst 1, 1) := by decide +kernel
theorem dX12_readsItem_135 : decode cX12_readsItem 135 = .ok (.ireturn, 1) := by decide +kernel
theorem dX12_readsItem_136 : decode cX12_readsItem 136 = .ok (.aload_n 0, 1) := by decide +kernel
theorem dX12_readsItem_137 : decode cX12_readsItem 137 = .ok (.getfield 16, 3) := by decide +kernel
theorem dX12_readsItem_140 : decode cX12_readsItem 140 = .ok (.iconst 3, 1) := by decide +kernel
theorem dX12_readsItem_141 : decode cX12_readsItem 141 = .ok (.iaload, 1) := by decide +kernel
theorem dX12_readsItem_142 : decode cX12_readsItem 142 = .ok (.iconst 1, 1) := by decide +kernel
theorem dX12_readsItem_143 : decode cX12_readsItem 143 = .ok (.if_icmp .eq 40, 3) := by decide +kernel
theorem dX12_readsItem_146 : decode cX12_readsItem 146 = .ok (.aload_n 0, 1) := by decide +kernel
theorem dX12_readsItem_147 : decode cX12_readsItem 147 = .ok (.iconst 4, 1) := by decide +kernel
theorem dX12_readsItem_148 : decode cX12_readsItem 148 = .ok (.iconst 0, 1) := by decide +kernel
theorem dX12_readsItem_149 : decode cX12_readsItem 149 = .ok (.iload_n 2, 1) := by decide +kernel
theorem dX12_readsItem_150 : decode cX12_readsItem 150 = .ok (.iconst 1, 1) := by decide +kernel
theorem dX12_readsItem_151 : decode cX12_readsItem 151 = .ok (.isub, 1) := by decide +kernel
theorem dX12_readsItem_152 : decode cX12_readsItem 152 = .ok (.invokevirtual 85, 3) := by decide +kernel
theorem dX12_readsItem_155 : decode cX12_readsItem 155 = .ok (.ifCond .eq 28, 3) := by decide +kernel
theorem dX12_readsItem_158 : decode cX12_readsItem 158 = .ok (.aload_n 0, 1) := by decide +kernel
theorem dX12_readsItem_159 : decode cX12_readsItem 159 = .ok (.iconst 5, 1) := by decide +kernel
theorem dX12_readsItem_160 : decode cX12_readsItem 160 = .ok (.iconst 0, 1) := by decide +kernel
theorem dX12_readsItem_161 : decode cX12_readsItem 161 = .ok (.aload_n 0, 1) := by decide +kernel
theorem dX12_readsItem_162 : decode cX12_readsItem 162 = .ok (.getfield 16, 3) := by decide +kernel
theorem dX12_readsItem_165 : decode cX12_readsItem 165 = .ok (.bipush 6, 2) := by decide +kernel
theorem dX12_readsItem_167 : decode cX12_readsItem 167 = .ok (.aload_n 0, 1) := by decide +kernel
theorem dX12_readsItem_168 : decode cX12_readsItem 168 = .ok (.getfield 16, 3) := by decide +kernel
theorem dX12_readsItem_171 : decode cX12_readsItem 171 = .ok (.iconst 4, 1) := by decide +kernel
theorem dX12_readsItem_172 : decode cX12_readsItem 172 = .ok (.iaload, 1) := by decide +kernel
theorem dX12_readsItem_173 : decode cX12_readsItem 173 = .ok (.iadd, 1) := by decide +kernel
theorem dX12_readsItem_174 : decode cX12_readsItem 174 = .ok (.iaload, 1) := by decide +kernel
theorem dX12_readsItem_175 : decode cX12_readsItem 175 = .ok (.iconst 1, 1) := by decide +kernel
theorem dX12_readsItem_176 : decode cX12_readsItem 176 = .ok (.isub, 1) := by decide +kernel
theorem dX12_readsItem_177 : decode cX12_readsItem 177 = .ok (.invokevirtual 85, 3) := by decide +kernel
theorem dX12_readsItem_180 : decode cX12_readsItem 180 = .ok (.ifCond .ne 5, 3) := by decide +kernel
theorem dX12_readsItem_183 : decode cX12_readsItem 183 = .ok (.iconst 0, 1) := by decide +kernel
theorem dX12_readsItem_184 : decode cX12_readsItem 184 = .ok (.ireturn, 1) := by decide +kernel
theorem dX12_readsItem_185 : decode cX12_readsItem 185 = .ok (.aload_n 0, 1) := by decide +kernel
theorem dX12_readsItem_186 : decode cX12_readsItem 186 = .ok (.getfield 16, 3) := by decide +kernel
theorem dX12_readsItem_189 : decode cX12_readsItem 189 = .ok (.iconst 3, 1) := by decide +kernel
theorem dX12_readsItem_190 : decode cX12_readsItem 190 = .ok (.iconst 1, 1) := by decide +kernel
theorem dX12_readsItem_191 : decode cX12_readsItem 191 = .ok (.iastore, 1) := by decide +kernel
theorem dX12_readsItem_192 : decode cX12_readsItem 192 = .ok (.iconst 1, 1) := by decide +kernel
theorem dX12_readsItem_193 : decode cX12_readsItem 193 = .ok (.ireturn, 1) := by decide +kernel
theorem dX12_readsItem_194 : decode cX12_readsItem 194 = .ok (.iload_n 2, 1) := by decide +kernel
theorem dX12_readsItem_195 : decode cX12_readsItem 195 = .ok (.bipush 6, 2) := by decide +kernel
theorem dX12_readsItem_197 : decode cX12_readsItem 197 = .ok (.if_icmp .eq 17, 3) := by decide +kernel
theorem dX12_readsItem_200 : decode cX12_readsItem 200 = .ok (.aload_n 0, 1) := by decide +kernel
theorem dX12_readsItem_201 : decode cX12_readsItem 201 = .ok (.bipush 30, 2) := by decide +kernel
theorem dX12_readsItem_203 : decode cX12_readsItem 203 = .ok (.iload_n 2, 1) := by decide +kernel
theorem dX12_readsItem_204 : decode cX12_readsItem 204 = .ok (.iadd, 1) := by decide +kernel
theorem dX12_readsItem_205 : decode cX12_readsItem 205 = .ok (.iconst 1, 1) := by decide +kernel
theorem dX12_readsItem_206 : decode cX12_readsItem 206 = .ok (.bipush 60, 2) := by decide +kernel
theorem dX12_readsItem_208 : decode cX12_readsItem 208 = .ok (.invokevirtual 85, 3) := by decide +kernel
theorem dX12_readsItem_211 : decode cX12_readsItem 211 = .ok (.ifCond .ne 5, 3) := by decide +kernel
theorem dX12_readsItem_214 : decode cX12_readsItem 214 = .ok (.iconst 0, 1) := by decide +kernel
theorem dX12_readsItem_215 : decode cX12_readsItem 215 = .ok (.ireturn, 1) := by decide +kernel
theorem dX12_readsItem_216 : decode cX12_readsItem 216 = .ok (.aload_n 0, 1) := by decide +kernel
theorem dX12_readsItem_217 : decode cX12_readsItem 217 = .ok (.getfield 16, 3) := by decide +kernel
theorem dX12_readsItem_220 : decode cX12_readsItem 220 = .ok (.iconst 1, 1) := by decide +kernel
theorem dX12_readsItem_221 : decode cX12_readsItem 221 = .ok (.dup2, 1) := by decide +kernel
theorem dX12_readsItem_222 : decode cX12_readsItem 222 = .ok (.iaload, 1) := by decide +kernel
theorem dX12_readsItem_223 : decode cX12_readsItem 223 = .ok (.iconst 1, 1) := by decide +kernel
theorem dX12_readsItem_224 : decode cX12_readsItem 224 = .ok (.iadd, 1) := by decide +kernel
theorem dX12_readsItem_225 : decode cX12_readsItem 225 = .ok (.iastore, 1) := by decide +kernel
theorem dX12_readsItem_226 : decode cX12_readsItem 226 = .ok (.iconst 1, 1) := by decide +kernel
theorem dX12_readsItem_227 : decode cX12_readsItem 227 = .ok (.ireturn, 1) := by decide +kernel
theorem dX12_readsItem_228 : decode cX12_readsItem 228 = .ok (.iconst 0, 1) := by decide +kernel
theorem dX12_readsItem_229 : decode cX12_readsItem 229 = .ok (.ireturn, 1) := by decide +kernel
set_option maxRecDepth 20000 in
theorem ggX12_reads_X12_token : GoodIn wsX12_reads wsX12_token := goodIn_r _ [8, 2, 9, 3, 10, 11, 12, 13, 14, 7, 15, 16, 17, 18, 19, 20, 21, 22, 23, 24, 25, 34, 35, 36, 37, 38, 39, 40, 41, 42, 43, 44, 45, 46, 47, 48, 49, 50, 51] (by decide +kernel) (by decide +kernel)
set_option maxRecDepth 20000 in
theorem gX12_reads_X12_token : GoodIn wsX12_reads (wsV RX12 82 RX12 yX12_token wsX12_token) := goodIn_app (goodIn_of _ (by decide +kernel)) ggX12_reads_X12_token
set_option maxRecDepth 20000 in
theorem ggX12_reads_X12_readsItem : GoodIn wsX12_reads wsX12_readsItem := goodIn_r _ [29, 3, 10, 1, 30, 31, 32, 7, 33, 4, 5, 6, 8, 2, 9, 11, 12, 13, 14, 15, 16, 17, 18, 19, 20, 21, 22, 23, 24, 25, 34, 35, 36, 37, 38, 39, 40, 41, 42, 43, 44, 45, 46, 47, 48, 49, 50, 51] (by decide +kernel) (by decide +kernel)
set_option maxRecDepth 20000 in
theorem gX12_reads_X12_readsItem : GoodIn wsX12_reads (wsV RX12 88 RX12 yX12_readsItem wsX12_readsItem) := goodIn_app (goodIn_of _ (by decide +kernel)) ggX12_reads_X12_readsItem
theorem dX12_reads_0 : decode cX12_reads 0 = .ok (.iconst 0, 1) := by decide +kernel
theorem dX12_reads_1 : decode cX12_reads 1 = .ok (.istore_n 1, 1) := by decide +kernel
theorem dX12_reads_2 : decode cX12_reads 2 = .ok (.iload_n 1, 1) := by decide +kernel
theorem dX12_reads_3 : decode cX12_reads 3 = .ok (.bipush 36, 2) := by decide +kernel
theorem dX12_reads_5 : decode cX12_reads 5 = .ok (.if_icmp .ge 16, 3) := by decide +kernel
theorem dX12_reads_8 : decode cX12_reads 8 = .ok (.aload_n 0, 1) := by decide +kernel
theorem dX12_reads_9 : decode cX12_reads 9 = .ok (.getfield 16, 3) := by decide +kernel
theorem dX12_reads_12 : decode cX12_reads 12 = .ok (.iload_n 1, 1) := by decide +kernel
theorem dX12_reads_13 : decode cX12_reads 13 = .ok (.iconst 0, 1) := by decide +kernel
theorem dX12_reads_14 : decode cX12_reads 14 = .ok (.iastore, 1) := by decide +kernel
theorem dX12_reads_15 : decode cX12_reads 15 = .ok (.iinc 1 1, 3) := by decide +kernel
theorem dX12_reads_18 : decode cX12_reads 18 = .ok (.goto (-16), 3) := by decide +kernel
theorem dX12_reads_21 : decode cX12_reads 21 = .ok (.aload_n 0, 1) := by decide +kernel
theorem dX12_reads_22 : decode cX12_reads 22 = .ok (.iconst 0, 1) := by decide +kernel
theorem dX12_reads_23 : decode cX12_reads 23 = .ok (.putfield 59, 3) := by decide +kernel
theorem dX12_reads_26 : decode cX12_reads 26 = .ok (.aload_n 0, 1) := by decide +kernel
theorem dX12_reads_27 : decode cX12_reads 27 = .ok (.invokevirtual 82, 3) := by decide +kernel
theorem dX12_reads_30 : decode cX12_reads 30 = .ok (.aload_n 0, 1) := by decide +kernel
theorem dX12_reads_31 : decode cX12_reads 31 = .ok (.getfield 76, 3) := by decide +kernel
theorem dX12_reads_34 : decode cX12_reads 34 = .ok (.ifCond .eq 43, 3) := by decide +kernel
theorem dX12_reads_37 : decode cX12_reads 37 = .ok (.aload_n 0, 1) := by decide +kernel
theorem dX12_reads_38 : decode cX12_reads 38 = .ok (.invokevirtual 88, 3) := by decide +kernel
theorem dX12_reads_41 : decode cX12_reads 41 = .ok (.ifCond .ne 5, 3) := by decide +kernel
theorem dX12_reads_44 : decode cX12_reads 44 = .ok (.iconst 0, 1) := by decide +kernel
theorem dX12_reads_45 : decode cX12_reads 45 = .ok (.ireturn, 1) := by decide +kernel
theorem dX12_reads_46 : decode cX12_reads 46 = .ok (.aload_n 0, 1) := by decide +kernel
theorem dX12_reads_47 : decode cX12_reads 47 = .ok (.invokevirtual 82, 3) := by decide +kernel
theorem dX12_reads_50 : decode cX12_reads 50 = .ok (.aload_n 0, 1) := by decide +kernel
theorem dX12_reads_51 : decode cX12_reads 51 = .ok (.getfield 76, 3) := by decide +kernel
theorem dX12_reads_54 : decode cX12_reads 54 = .ok (.iconst 3, 1) := by decide +kernel
theorem dX12_reads_55 : decode cX12_reads 55 = .ok (.if_icmp .eq 5, 3) := by decide +kernel
theorem dX12_reads_58 : decode cX12_reads 58 = .ok (.iconst 0, 1) := by decide +kernel
theorem dX12_reads_59 : decode cX12_reads 59 = .ok (.ireturn, 1) := by decide +kernel
theorem dX12_reads_60 : decode cX12_reads 60 = .ok (.aload_n 0, 1) := by decide +kernel
theorem dX12_reads_61 : decode cX12_reads 61 = .ok (.getfield 16, 3) := by decide +kernel
theorem dX12_reads_64 : decode cX12_reads 64 = .ok (.iconst 2, 1) := by decide +kernel
theorem dX12_reads_65 : decode cX12_reads 65 = .ok (.dup2, 1) := by decide +kernel
theorem dX12_reads_66 : decode cX12_reads 66 = .ok (.iaload, 1) := by decide +kernel
theorem dX12_reads_67 : decode cX12_reads 67 = .ok (.iconst 1, 1) := by decide +kernel
theorem dX12_reads_68 : decode cX12_reads 68 = .ok (.iadd, 1) := by decide +kernel
theorem dX12_reads_69 : decode cX12_reads 69 = .ok (.iastore, 1) := by decide +kernel
theorem dX12_reads_70 : decode cX12_reads 70 = .ok (.aload_n 0, 1) := by decide +kernel
theorem dX12_reads_71 : decode cX12_reads 71 = .ok (.invokevirtual 82, 3) := by decide +kernel
theorem dX12_reads_74 : decode cX12_reads 74 = .ok (.goto (-44), 3) := by decide +kernel
theorem dX12_reads_77 : decode cX12_reads 77 = .ok (.iconst 1, 1) := by decide +kernel
theorem dX12_reads_78 : decode cX12_reads 78 = .ok (.ireturn, 1) := by decide +kernel
theorem dX12_begins_0 : decode cX12_begins 0 = .ok (.iconst 0, 1) := by decide +kernel
theorem dX12_begins_1 : decode cX12_begins 1 = .ok (.istore_n 1, 1) := by decide +kernel
theorem dX12_begins_2 : decode cX12_begins 2 = .ok (.iload_n 1, 1) := by decide +kernel
theorem dX12_begins_3 : decode cX12_begins 3 = .ok (.bipush 36, 2) := by decide +kernel
theorem dX12_begins_5 : decode cX12_begins 5 = .ok (.if_icmp .ge 21, 3) := by decide +kernel
theorem dX12_begins_8 : decode cX12_begins 8 = .ok (.aload_n 0, 1) := by decide +kernel
theorem dX12_begins_9 : decode cX12_begins 9 = .ok (.getfield 13, 3) := by decide +kernel
theorem dX12_begins_12 : decode cX12_begins 12 = .ok (.iload_n 1, 1) := by decide +kernel
theorem dX12_begins_13 : decode cX12_begins 13 = .ok (.aload_n 0, 1) := by decide +kernel
theorem dX12_begins_14 : decode cX12_begins 14 = .ok (.getfield 16, 3) := by decide +kernel
theorem dX12_begins_17 : decode cX12_begins 17 = .ok (.iload_n 1, 1) := by decide +kernel
theorem dX12_begins_18 : decode cX12_begins 18 = .ok (.iaload, 1) := by decide +kernel
theorem dX12_begins_19 : decode cX12_begins 19 = .ok (.iastore, 1) := by decide +kernel
theorem dX12_begins_20 : decode cX12_begins 20 = .ok (.iinc 1 1, 3) := by decide +kernel
theorem dX12_begins_23 : decode cX12_begins 23 = .ok (.goto (-21), 3) := by decide +kernel
theorem dX12_begins_26 : decode cX12_begins 26 = .ok (.aload_n 0, 1) := by decide +kernel
theorem dX12_begins_27 : decode cX12_begins 27 = .ok (.getfield 13, 3) := by decide +kernel
theorem dX12_begins_30 : decode cX12_begins 30 = .ok (.iconst 4, 1) := by decide +kernel
theorem dX12_begins_31 : decode cX12_begins 31 = .ok (.aload_n 0, 1) := by decide +kernel
theorem dX12_begins_32 : decode cX12_begins 32 = .ok (.getfield 13, 3) := by decide +kernel
theorem dX12_begins_35 : decode cX12_begins 35 = .ok (.iconst 3, 1) := by decide +kernel
theorem dX12_begins_36 : decode cX12_begins 36 = .ok (.iaload, 1) := by decide +kernel
theorem dX12_begins_37 : decode cX12_begins 37 = .ok (.iconst 1, 1) := by decide +kernel
theorem dX12_begins_38 : decode cX12_begins 38 = .ok (.if_icmp .ne 12, 3) := by decide +kernel
theorem dX12_begins_41 : decode cX12_begins 41 = .ok (.aload_n 0, 1) := by decide +kernel
theorem dX12_begins_42 : decode cX12_begins 42 = .ok (.getfield 13, 3) := by decide +kernel
theorem dX12_begins_45 : decode cX12_begins 45 = .ok (.iconst 4, 1) := by decide +kernel
theorem dX12_begins_46 : decode cX12_begins 46 = .ok (.iaload, 1) := by decide +kernel
theorem dX12_begins_47 : decode cX12_begins 47 = .ok (.goto 11, 3) := by decide +kernel
theorem dX12_begins_50 : decode cX12_begins 50 = .ok (.aload_n 0, 1) := by decide +kernel
theorem dX12_begins_51 : decode cX12_begins 51 = .ok (.getfield 13, 3) := by decide +kernel
theorem dX12_begins_54 : decode cX12_begins 54 = .ok (.iconst 0, 1) := by decide +kernel
theorem dX12_begins_55 : decode cX12_begins 55 = .ok (.iaload, 1) := by decide +kernel
theorem dX12_begins_56 : decode cX12_begins 56 = .ok (.iconst 1, 1) := by decide +kernel
theorem dX12_begins_57 : decode cX12_begins 57 = .ok (.isub, 1) := by decide +kernel
theorem dX12_begins_58 : decode cX12_begins 58 = .ok (.iastore, 1) := by decide +kernel
theorem dX12_begins_59 : decode cX12_begins 59 = .ok (.iconst 0, 1) := by decide +kernel
theorem dX12_begins_60 : decode cX12_begins 60 = .ok (.istore_n 1, 1) := by decide +kernel
theorem dX12_begins_61 : decode cX12_begins 61 = .ok (.iload_n 1, 1) := by decide +kernel
theorem dX12_begins_62 : decode cX12_begins 62 = .ok (.bipush 56, 2) := by decide +kernel
theorem dX12_begins_64 : decode cX12_begins 64 = .ok (.if_icmp .ge 16, 3) := by decide +kernel
theorem dX12_begins_67 : decode cX12_begins 67 = .ok (.aload_n 0, 1) := by decide +kernel
theorem dX12_begins_68 : decode cX12_begins 68 = .ok (.getfield 19, 3) := by decide +kernel
theorem dX12_begins_71 : decode cX12_begins 71 = .ok (.iload_n 1, 1) := by decide +kernel
theorem dX12_begins_72 : decode cX12_begins 72 = .ok (.iconst 0, 1) := by decide +kernel
theorem dX12_begins_73 : decode cX12_begins 73 = .ok (.iastore, 1) := by decide +kernel
theorem dX12_begins_74 : decode cX12_begins 74 = .ok (.iinc 1 1, 3) := by decide +kernel
theorem dX12_begins_77 : decode cX12_begins 77 = .ok (.goto (-16), 3) := by decide +kernel
theorem dX12_begins_80 : decode cX12_begins 80 = .ok (.aload_n 0, 1) := by decide +kernel
theorem dX12_begins_81 : decode cX12_begins 81 = .ok (.iconst 0, 1) := by decide +kernel
theorem dX12_begins_82 : decode cX12_begins 82 = .ok (.putfield 91, 3) := by decide +kernel
theorem dX12_begins_85 : decode cX12_begins 85 = .ok (.aload_n 0, 1) := by decide +kernel
theorem dX12_begins_86 : decode cX12_begins 86 = .ok (.getfield 25, 3) := by decide +kernel
theorem dX12_begins_89 : decode cX12_begins 89 = .ok (.iconst 0, 1) := by decide +kernel
theorem dX12_begins_90 : decode cX12_begins 90 = .ok (.iconst 0, 1) := by decide +kernel
theorem dX12_begins_91 : decode cX12_begins 91 = .ok (.bastore, 1) := by decide +kernel
theorem dX12_begins_92 : decode cX12_begins 92 = .ok (.aload_n 0, 1) := by decide +kernel
theorem dX12_begins_93 : decode cX12_begins 93 = .ok (.getfield 25, 3) := by decide +kernel
theorem dX12_begins_96 : decode cX12_begins 96 = .ok (.iconst 1, 1) := by decide +kernel
theorem dX12_begins_97 : decode cX12_begins 97 = .ok (.iconst 0, 1) := by decide +kernel
theorem dX12_begins_98 : decode cX12_begins 98 = .ok (.bastore, 1) := by decide +kernel
theorem dX12_begins_99 : decode cX12_begins 99 = .ok (.return_, 1) := by decide +kernel
set_option maxRecDepth 20000 in
theorem ggX12_piece_X12_reads : GoodIn wsX12_piece wsX12_reads := goodIn_r _ [8, 9, 10, 11, 12, 13, 14, 7, 15, 1, 16, 17, 18, 19, 20, 21, 2, 22, 23, 24, 25, 26, 27, 28, 29, 30, 31, 32, 33, 34, 35, 36, 37, 38, 46, 47, 48, 49, 50, 51, 52, 53, 54, 55, 56, 57, 58, 59, 60, 61, 62, 63] (by decide +kernel) (by decide +kernel)
set_option maxRecDepth 20000 in
theorem gX12_piece_X12_reads : GoodIn wsX12_piece (wsV RX12 44 RX12 yX12_reads wsX12_reads) := goodIn_app (goodIn_of _ (by decide +kernel)) ggX12_piece_X12_reads
set_option maxRecDepth 20000 in
theorem ggX12_piece_X12_begins : GoodIn wsX12_piece wsX12_begins := goodIn_r _ [42, 3, 9, 43, 44, 45, 46, 47, 48, 49, 50, 51, 52, 53, 54, 55, 56, 57, 58, 59, 60, 61, 62, 63] (by decide +kernel) (by decide +kernel)
set_option maxRecDepth 20000 in
theorem gX12_piece_X12_begins : GoodIn wsX12_piece (wsV RX12 48 RX12 yX12_begins wsX12_begins) := goodIn_app (goodIn_of _ (by decide +kernel)) ggX12_piece_X12_begins
theorem dX12_piece_0 : decode cX12_piece 0 = .ok (.aload_n 0, 1) := by decide +kernel
theorem dX12_piece_1 : decode cX12_piece 1 = .ok (.invokevirtual 44, 3) := by decide +kernel
theorem dX12_piece_4 : decode cX12_piece 4 = .ok (.ifCond .ne 11, 3) := by decide +kernel
theorem dX12_piece_7 : decode cX12_piece 7 = .ok (.bipush (-10), 2) := by decide +kernel
theorem dX12_piece_9 : decode cX12_piece 9 = .ok (.aload_n 0, 1) := by decide +kernel
theorem dX12_piece_10 : decode cX12_piece 10 = .ok (.getfield 66, 3) := by decide +kernel
theorem dX12_piece_13 : decode cX12_piece 13 = .ok (.isub, 1) := by decide +kernel
theorem dX12_piece_14 : decode cX12_piece 14 = .ok (.ireturn, 1) := by decide +kernel
theorem dX12_piece_15 : decode cX12_piece 15 = .ok (.aload_n 0, 1) := by decide +kernel
theorem dX12_piece_16 : decode cX12_piece 16 = .ok (.invokevirtual 48, 3) := by decide +kernel
theorem dX12_piece_19 : decode cX12_piece 19 = .ok (.aload_n 0, 1) := by decide +kernel
theorem dX12_piece_20 : decode cX12_piece 20 = .ok (.iconst 0, 1) := by decide +kernel
theorem dX12_piece_21 : decode cX12_piece 21 = .ok (.putfield 55, 3) := by decide +kernel
theorem dX12_piece_24 : decode cX12_piece 24 = .ok (.aload_n 0, 1) := by decide +kernel
theorem dX12_piece_25 : decode cX12_piece 25 = .ok (.getfield 13, 3) := by decide +kernel
theorem dX12_piece_28 : decode cX12_piece 28 = .ok (.iconst 2, 1) := by decide +kernel
theorem dX12_piece_29 : decode cX12_piece 29 = .ok (.iaload, 1) := by decide +kernel
theorem dX12_piece_30 : decode cX12_piece 30 = .ok (.ireturn, 1) := by decide +kernel
theorem dX12_minutes_0 : decode cX12_minutes 0 = .ok (.aload_n 0, 1) := by decide +kernel
theorem dX12_minutes_1 : decode cX12_minutes 1 = .ok (.getfield 13, 3) := by decide +kernel
theorem dX12_minutes_4 : decode cX12_minutes 4 = .ok (.bipush 6, 2) := by decide +kernel
theorem dX12_minutes_6 : decode cX12_minutes 6 = .ok (.iload_n 1, 1) := by decide +kernel
theorem dX12_minutes_7 : decode cX12_minutes 7 = .ok (.iadd, 1) := by decide +kernel
theorem dX12_minutes_8 : decode cX12_minutes 8 = .ok (.iaload, 1) := by decide +kernel
theorem dX12_minutes_9 : decode cX12_minutes 9 = .ok (.aload_n 0, 1) := by decide +kernel
theorem dX12_minutes_10 : decode cX12_minutes 10 = .ok (.getfield 13, 3) := by decide +kernel
theorem dX12_minutes_13 : decode cX12_minutes 13 = .ok (.bipush 14, 2) := by decide +kernel
theorem dX12_minutes_15 : decode cX12_minutes 15 = .ok (.iload_n 1, 1) := by decide +kernel
theorem dX12_minutes_16 : decode cX12_minutes 16 = .ok (.iadd, 1) := by decide +kernel
theorem dX12_minutes_17 : decode cX12_minutes 17 = .ok (.iaload, 1) := by decide +kernel
theorem dX12_minutes_18 : decode cX12_minutes 18 = .ok (.imul, 1) := by decide +kernel
theorem dX12_minutes_19 : decode cX12_minutes 19 = .ok (.ireturn, 1) := by decide +kernel
set_option maxRecDepth 20000 in
theorem ggX12_ahead_X12_has : GoodIn wsX12_ahead wsX12_has := goodIn_r _ [4] (by decide +kernel) (by decide +kernel)
set_option maxRecDepth 20000 in
theorem gX12_ahead_X12_has : GoodIn wsX12_ahead (va_wsS RX12 94 yX12_has wsX12_has) := goodIn_app (goodIn_of _ (by decide +kernel)) ggX12_ahead_X12_has
set_option maxRecDepth 20000 in
theorem ggX12_ahead_X12_minutes : GoodIn wsX12_ahead wsX12_minutes := goodIn_r _ [8, 9, 10, 11, 12, 13, 14, 15, 16, 17, 18, 19, 20, 21, 22, 23, 24, 25, 26, 27] (by decide +kernel) (by decide +kernel)
set_option maxRecDepth 20000 in
theorem gX12_ahead_X12_minutes : GoodIn wsX12_ahead (wsV RX12 98 RX12 yX12_minutes wsX12_minutes) := goodIn_app (goodIn_of _ (by decide +kernel)) ggX12_ahead_X12_minutes
theorem dX12_ahead_0 : decode cX12_ahead 0 = .ok (.iconst 0, 1) := by decide +kernel
theorem dX12_ahead_1 : decode cX12_ahead 1 = .ok (.istore_n 3, 1) := by decide +kernel
theorem dX12_ahead_2 : decode cX12_ahead 2 = .ok (.iconst 0, 1) := by decide +kernel
theorem dX12_ahead_3 : decode cX12_ahead 3 = .ok (.istore 4, 2) := by decide +kernel
theorem dX12_ahead_5 : decode cX12_ahead 5 = .ok (.iload 4, 2) := by decide +kernel
theorem dX12_ahead_7 : decode cX12_ahead 7 = .ok (.iload_n 1, 1) := by decide +kernel
theorem dX12_ahead_8 : decode cX12_ahead 8 = .ok (.if_icmp .ge 31, 3) := by decide +kernel
theorem dX12_ahead_11 : decode cX12_ahead 11 = .ok (.iload_n 3, 1) := by decide +kernel
theorem dX12_ahead_12 : decode cX12_ahead 12 = .ok (.iload_n 2, 1) := by decide +kernel
theorem dX12_ahead_13 : decode cX12_ahead 13 = .ok (.iload 4, 2) := by decide +kernel
theorem dX12_ahead_15 : decode cX12_ahead 15 = .ok (.invokestatic 94, 3) := by decide +kernel
theorem dX12_ahead_18 : decode cX12_ahead 18 = .ok (.ifCond .eq 7, 3) := by decide +kernel
theorem dX12_ahead_21 : decode cX12_ahead 21 = .ok (.iconst 0, 1) := by decide +kernel
theorem dX12_ahead_22 : decode cX12_ahead 22 = .ok (.goto 9, 3) := by decide +kernel
theorem dX12_ahead_25 : decode cX12_ahead 25 = .ok (.aload_n 0, 1) := by decide +kernel
theorem dX12_ahead_26 : decode cX12_ahead 26 = .ok (.iload 4, 2) := by decide +kernel
theorem dX12_ahead_28 : decode cX12_ahead 28 = .ok (.invokevirtual 98, 3) := by decide +kernel
theorem dX12_ahead_31 : decode cX12_ahead 31 = .ok (.iadd, 1) := by decide +kernel
theorem dX12_ahead_32 : decode cX12_ahead 32 = .ok (.istore_n 3, 1) := by decide +kernel
theorem dX12_ahead_33 : decode cX12_ahead 33 = .ok (.iinc 4 1, 3) := by decide +kernel
theorem dX12_ahead_36 : decode cX12_ahead 36 = .ok (.goto (-31), 3) := by decide +kernel
theorem dX12_ahead_39 : decode cX12_ahead 39 = .ok (.iload_n 3, 1) := by decide +kernel
theorem dX12_ahead_40 : decode cX12_ahead 40 = .ok (.ireturn, 1) := by decide +kernel
set_option maxRecDepth 20000 in
theorem ggX12_length_X12_ahead : GoodIn wsX12_length wsX12_ahead := goodIn_r _ [7, 8, 9, 6, 10, 11, 12, 13, 14, 1, 15, 16, 17, 18, 19, 20, 21, 22, 23, 24, 25, 26, 27, 28, 29, 30, 31, 32] (by decide +kernel) (by decide +kernel)
set_option maxRecDepth 20000 in
theorem gX12_length_X12_ahead : GoodIn wsX12_length (wsV RX12 101 RX12 yX12_ahead wsX12_ahead) := goodIn_app (goodIn_of _ (by decide +kernel)) ggX12_length_X12_ahead
theorem dX12_length_0 : decode cX12_length 0 = .ok (.aload_n 0, 1) := by decide +kernel
theorem dX12_length_1 : decode cX12_length 1 = .ok (.aload_n 0, 1) := by decide +kernel
theorem dX12_length_2 : decode cX12_length 2 = .ok (.getfield 13, 3) := by decide +kernel
theorem dX12_length_5 : decode cX12_length 5 = .ok (.iconst 0, 1) := by decide +kernel
theorem dX12_length_6 : decode cX12_length 6 = .ok (.iaload, 1) := by decide +kernel
theorem dX12_length_7 : decode cX12_length 7 = .ok (.aload_n 0, 1) := by decide +kernel
theorem dX12_length_8 : decode cX12_length 8 = .ok (.getfield 19, 3) := by decide +kernel
theorem dX12_length_11 : decode cX12_length 11 = .ok (.iconst 3, 1) := by decide +kernel
theorem dX12_length_12 : decode cX12_length 12 = .ok (.iaload, 1) := by decide +kernel
theorem dX12_length_13 : decode cX12_length 13 = .ok (.invokevirtual 101, 3) := by decide +kernel
theorem dX12_length_16 : decode cX12_length 16 = .ok (.ireturn, 1) := by decide +kernel
set_option maxRecDepth 20000 in
theorem ggX12_first_X12_has : GoodIn wsX12_first wsX12_has := goodIn_r _ [5] (by decide +kernel) (by decide +kernel)
set_option maxRecDepth 20000 in
theorem gX12_first_X12_has : GoodIn wsX12_first (va_wsS RX12 94 yX12_has wsX12_has) := goodIn_app (goodIn_of _ (by decide +kernel)) ggX12_first_X12_has
set_option maxRecDepth 20000 in
theorem ggX12_first_X12_ahead : GoodIn wsX12_first wsX12_ahead := goodIn_r _ [9, 2, 3, 4, 5, 10, 11, 12, 13, 14, 15, 16, 17, 18, 19, 20, 21, 22, 23, 24, 25, 26, 27, 28, 29, 30, 31, 32] (by decide +kernel) (by decide +kernel)
set_option maxRecDepth 20000 in
theorem gX12_first_X12_ahead : GoodIn wsX12_first (wsV RX12 101 RX12 yX12_ahead wsX12_ahead) := goodIn_app (goodIn_of _ (by decide +kernel)) ggX12_first_X12_ahead
theorem dX12_first_0 : decode cX12_first 0 = .ok (.aload_n 0, 1) := by decide +kernel
theorem dX12_first_1 : decode cX12_first 1 = .ok (.getfield 19, 3) := by decide +kernel
theorem dX12_first_4 : decode cX12_first 4 = .ok (.iconst 3, 1) := by decide +kernel
theorem dX12_first_5 : decode cX12_first 5 = .ok (.iaload, 1) := by decide +kernel
theorem dX12_first_6 : decode cX12_first 6 = .ok (.iload_n 1, 1) := by decide +kernel
theorem dX12_first_7 : decode cX12_first 7 = .ok (.invokestatic 94, 3) := by decide +kernel
theorem dX12_first_10 : decode cX12_first 10 = .ok (.ifCond .eq 8, 3) := by decide +kernel
theorem dX12_first_13 : decode cX12_first 13 = .ok (.bipush (-9), 2) := by decide +kernel
theorem dX12_first_15 : decode cX12_first 15 = .ok (.goto 14, 3) := by decide +kernel
theorem dX12_first_18 : decode cX12_first 18 = .ok (.aload_n 0, 1) := by decide +kernel
theorem dX12_first_19 : decode cX12_first 19 = .ok (.iload_n 1, 1) := by decide +kernel
theorem dX12_first_20 : decode cX12_first 20 = .ok (.aload_n 0, 1) := by decide +kernel
theorem dX12_first_21 : decode cX12_first 21 = .ok (.getfield 19, 3) := by decide +kernel
theorem dX12_first_24 : decode cX12_first 24 = .ok (.iconst 3, 1) := by decide +kernel
theorem dX12_first_25 : decode cX12_first 25 = .ok (.iaload, 1) := by decide +kernel
theorem dX12_first_26 : decode cX12_first 26 = .ok (.invokevirtual 101, 3) := by decide +kernel
theorem dX12_first_29 : decode cX12_first 29 = .ok (.ireturn, 1) := by decide +kernel
set_option maxRecDepth 20000 in
theorem ggX12_noteBar_X12_ahead : GoodIn wsX12_noteBar wsX12_ahead := goodIn_r _ [6, 7, 8, 5, 9, 10, 11, 12, 13, 1, 14, 15, 16, 17, 18, 19, 20, 21, 22, 23, 24, 25, 26, 27, 28, 29, 30, 31] (by decide +kernel) (by decide +kernel)
set_option maxRecDepth 20000 in
theorem gX12_noteBar_X12_ahead : GoodIn wsX12_noteBar (wsV RX12 101 RX12 yX12_ahead wsX12_ahead) := goodIn_app (goodIn_of _ (by decide +kernel)) ggX12_noteBar_X12_ahead
set_option maxRecDepth 20000 in
theorem ggX12_noteBar_X12_minutes : GoodIn wsX12_noteBar wsX12_minutes := goodIn_r _ [13, 1, 14, 15, 16, 17, 18, 19, 20, 21, 22, 23, 24, 25, 26, 27, 28, 29, 30, 31] (by decide +kernel) (by decide +kernel)
set_option maxRecDepth 20000 in
theorem gX12_noteBar_X12_minutes : GoodIn wsX12_noteBar (wsV RX12 98 RX12 yX12_minutes wsX12_minutes) := goodIn_app (goodIn_of _ (by decide +kernel)) ggX12_noteBar_X12_minutes
theorem dX12_noteBar_0 : decode cX12_noteBar 0 = .ok (.aload_n 0, 1) := by decide +kernel
theorem dX12_noteBar_1 : decode cX12_noteBar 1 = .ok (.getfield 13, 3) := by decide +kernel
theorem dX12_noteBar_4 : decode cX12_noteBar 4 = .ok (.iconst 4, 1) := by decide +kernel
theorem dX12_noteBar_5 : decode cX12_noteBar 5 = .ok (.iaload, 1) := by decide +kernel
theorem dX12_noteBar_6 : decode cX12_noteBar 6 = .ok (.istore_n 2, 1) := by decide +kernel
theorem dX12_noteBar_7 : decode cX12_noteBar 7 = .ok (.aload_n 0, 1) := by decide +kernel
theorem dX12_noteBar_8 : decode cX12_noteBar 8 = .ok (.iload_n 2, 1) := by decide +kernel
theorem dX12_noteBar_9 : decode cX12_noteBar 9 = .ok (.iload_n 1, 1) := by decide +kernel
theorem dX12_noteBar_10 : decode cX12_noteBar 10 = .ok (.invokevirtual 101, 3) := by decide +kernel
theorem dX12_noteBar_13 : decode cX12_noteBar 13 = .ok (.aload_n 0, 1) := by decide +kernel
theorem dX12_noteBar_14 : decode cX12_noteBar 14 = .ok (.iload_n 2, 1) := by decide +kernel
theorem dX12_noteBar_15 : decode cX12_noteBar 15 = .ok (.invokevirtual 98, 3) := by decide +kernel
theorem dX12_noteBar_18 : decode cX12_noteBar 18 = .ok (.iadd, 1) := by decide +kernel
theorem dX12_noteBar_19 : decode cX12_noteBar 19 = .ok (.aload_n 0, 1) := by decide +kernel
theorem dX12_noteBar_20 : decode cX12_noteBar 20 = .ok (.getfield 13, 3) := by decide +kernel
theorem dX12_noteBar_23 : decode cX12_noteBar 23 = .ok (.bipush 6, 2) := by decide +kernel
theorem dX12_noteBar_25 : decode cX12_noteBar 25 = .ok (.iload_n 2, 1) := by decide +kernel
theorem dX12_noteBar_26 : decode cX12_noteBar 26 = .ok (.iadd, 1) := by decide +kernel
theorem dX12_noteBar_27 : decode cX12_noteBar 27 = .ok (.iaload, 1) := by decide +kernel
theorem dX12_noteBar_28 : decode cX12_noteBar 28 = .ok (.isub, 1) := by decide +kernel
theorem dX12_noteBar_29 : decode cX12_noteBar 29 = .ok (.aload_n 0, 1) := by decide +kernel
theorem dX12_noteBar_30 : decode cX12_noteBar 30 = .ok (.getfield 13, 3) := by decide +kernel
theorem dX12_noteBar_33 : decode cX12_noteBar 33 = .ok (.iconst 5, 1) := by decide +kernel
theorem dX12_noteBar_34 : decode cX12_noteBar 34 = .ok (.iaload, 1) := by decide +kernel
theorem dX12_noteBar_35 : decode cX12_noteBar 35 = .ok (.iadd, 1) := by decide +kernel
theorem dX12_noteBar_36 : decode cX12_noteBar 36 = .ok (.ireturn, 1) := by decide +kernel
set_option maxRecDepth 20000 in
theorem ggX12_mayCut_X12_has : GoodIn wsX12_mayCut wsX12_has := goodIn_r _ [6] (by decide +kernel) (by decide +kernel)
set_option maxRecDepth 20000 in
theorem gX12_mayCut_X12_has : GoodIn wsX12_mayCut (va_wsS RX12 94 yX12_has wsX12_has) := goodIn_app (goodIn_of _ (by decide +kernel)) ggX12_mayCut_X12_has
set_option maxRecDepth 20000 in
theorem ggX12_mayCut_X12_first : GoodIn wsX12_mayCut wsX12_first := goodIn_r _ [10, 1, 3, 4, 5, 6, 11, 12, 13, 14, 15, 16, 17, 18, 2, 19, 20, 21, 22, 23, 24, 25, 26, 27, 28, 29, 30, 31, 32, 33, 34, 35, 36] (by decide +kernel) (by decide +kernel)
set_option maxRecDepth 20000 in
theorem gX12_mayCut_X12_first : GoodIn wsX12_mayCut (wsV RX12 105 RX12 yX12_first wsX12_first) := goodIn_app (goodIn_of _ (by decide +kernel)) ggX12_mayCut_X12_first
theorem dX12_mayCut_0 : decode cX12_mayCut 0 = .ok (.aload_n 0, 1) := by decide +kernel
theorem dX12_mayCut_1 : decode cX12_mayCut 1 = .ok (.getfield 19, 3) := by decide +kernel
theorem dX12_mayCut_4 : decode cX12_mayCut 4 = .ok (.iconst 3, 1) := by decide +kernel
theorem dX12_mayCut_5 : decode cX12_mayCut 5 = .ok (.iaload, 1) := by decide +kernel
theorem dX12_mayCut_6 : decode cX12_mayCut 6 = .ok (.iload_n 1, 1) := by decide +kernel
theorem dX12_mayCut_7 : decode cX12_mayCut 7 = .ok (.invokestatic 94, 3) := by decide +kernel
theorem dX12_mayCut_10 : decode cX12_mayCut 10 = .ok (.ifCond .ne 31, 3) := by decide +kernel
theorem dX12_mayCut_13 : decode cX12_mayCut 13 = .ok (.iload_n 1, 1) := by decide +kernel
theorem dX12_mayCut_14 : decode cX12_mayCut 14 = .ok (.aload_n 0, 1) := by decide +kernel
theorem dX12_mayCut_15 : decode cX12_mayCut 15 = .ok (.getfield 13, 3) := by decide +kernel
theorem dX12_mayCut_18 : decode cX12_mayCut 18 = .ok (.iconst 4, 1) := by decide +kernel
theorem dX12_mayCut_19 : decode cX12_mayCut 19 = .ok (.iaload, 1) := by decide +kernel
theorem dX12_mayCut_20 : decode cX12_mayCut 20 = .ok (.if_icmp .eq 21, 3) := by decide +kernel
theorem dX12_mayCut_23 : decode cX12_mayCut 23 = .ok (.aload_n 0, 1) := by decide +kernel
theorem dX12_mayCut_24 : decode cX12_mayCut 24 = .ok (.iload_n 1, 1) := by decide +kernel
theorem dX12_mayCut_25 : decode cX12_mayCut 25 = .ok (.invokevirtual 105, 3) := by decide +kernel
theorem dX12_mayCut_28 : decode cX12_mayCut 28 = .ok (.aload_n 0, 1) := by decide +kernel
theorem dX12_mayCut_29 : decode cX12_mayCut 29 = .ok (.getfield 19, 3) := by decide +kernel
theorem dX12_mayCut_32 : decode cX12_mayCut 32 = .ok (.iconst 0, 1) := by decide +kernel
theorem dX12_mayCut_33 : decode cX12_mayCut 33 = .ok (.iaload, 1) := by decide +kernel
theorem dX12_mayCut_34 : decode cX12_mayCut 34 = .ok (.if_icmp .lt 7, 3) := by decide +kernel
theorem dX12_mayCut_37 : decode cX12_mayCut 37 = .ok (.iconst 1, 1) := by decide +kernel
theorem dX12_mayCut_38 : decode cX12_mayCut 38 = .ok (.goto 4, 3) := by decide +kernel
theorem dX12_mayCut_41 : decode cX12_mayCut 41 = .ok (.iconst 0, 1) := by decide +kernel
theorem dX12_mayCut_42 : decode cX12_mayCut 42 = .ok (.ireturn, 1) := by decide +kernel
set_option maxRecDepth 20000 in
theorem ggX12_allThatMay_X12_mayCut : GoodIn wsX12_allThatMay wsX12_mayCut := goodIn_r _ [6, 7, 1, 8, 9, 5, 10, 11, 12, 13, 14, 15, 16, 17, 18, 19, 20, 21, 22, 23, 24, 25, 26, 27, 28, 29, 30, 31, 32, 33, 34, 35, 36, 37, 38, 39, 40] (by decide +kernel) (by decide +kernel)
set_option maxRecDepth 20000 in
theorem gX12_allThatMay_X12_mayCut : GoodIn wsX12_allThatMay (wsV RX12 108 RX12 yX12_mayCut wsX12_mayCut) := goodIn_app (goodIn_of _ (by decide +kernel)) ggX12_allThatMay_X12_mayCut
theorem dX12_allThatMay_0 : decode cX12_allThatMay 0 = .ok (.iconst 0, 1) := by decide +kernel
theorem dX12_allThatMay_1 : decode cX12_allThatMay 1 = .ok (.istore_n 1, 1) := by decide +kernel
theorem dX12_allThatMay_2 : decode cX12_allThatMay 2 = .ok (.iconst 0, 1) := by decide +kernel
theorem dX12_allThatMay_3 : decode cX12_allThatMay 3 = .ok (.istore_n 2, 1) := by decide +kernel
theorem dX12_allThatMay_4 : decode cX12_allThatMay 4 = .ok (.iload_n 2, 1) := by decide +kernel
theorem dX12_allThatMay_5 : decode cX12_allThatMay 5 = .ok (.aload_n 0, 1) := by decide +kernel
theorem dX12_allThatMay_6 : decode cX12_allThatMay 6 = .ok (.getfield 13, 3) := by decide +kernel
theorem dX12_allThatMay_9 : decode cX12_allThatMay 9 = .ok (.iconst 0, 1) := by decide +kernel
theorem dX12_allThatMay_10 : decode cX12_allThatMay 10 = .ok (.iaload, 1) := by decide +kernel
theorem dX12_allThatMay_11 : decode cX12_allThatMay 11 = .ok (.if_icmp .ge 27, 3) := by decide +kernel
theorem dX12_allThatMay_14 : decode cX12_allThatMay 14 = .ok (.iload_n 1, 1) := by decide +kernel
theorem dX12_allThatMay_15 : decode cX12_allThatMay 15 = .ok (.aload_n 0, 1) := by decide +kernel
theorem dX12_allThatMay_16 : decode cX12_allThatMay 16 = .ok (.iload_n 2, 1) := by decide +kernel
theorem dX12_allThatMay_17 : decode cX12_allThatMay 17 = .ok (.invokevirtual 108, 3) := by decide +kernel
theorem dX12_allThatMay_20 : decode cX12_allThatMay 20 = .ok (.ifCond .eq 9, 3) := by decide +kernel
theorem dX12_allThatMay_23 : decode cX12_allThatMay 23 = .ok (.iconst 1, 1) := by decide +kernel
theorem dX12_allThatMay_24 : decode cX12_allThatMay 24 = .ok (.iload_n 2, 1) := by decide +kernel
theorem dX12_allThatMay_25 : decode cX12_allThatMay 25 = .ok (.ishl, 1) := by decide +kernel
theorem dX12_allThatMay_26 : decode cX12_allThatMay 26 = .ok (.goto 4, 3) := by decide +kernel
theorem dX12_allThatMay_29 : decode cX12_allThatMay 29 = .ok (.iconst 0, 1) := by decide +kernel
theorem dX12_allThatMay_30 : decode cX12_allThatMay 30 = .ok (.ior, 1) := by decide +kernel
theorem dX12_allThatMay_31 : decode cX12_allThatMay 31 = .ok (.istore_n 1, 1) := by decide +kernel
theorem dX12_allThatMay_32 : decode cX12_allThatMay 32 = .ok (.iinc 2 1, 3) := by decide +kernel
theorem dX12_allThatMay_35 : decode cX12_allThatMay 35 = .ok (.goto (-31), 3) := by decide +kernel
theorem dX12_allThatMay_38 : decode cX12_allThatMay 38 = .ok (.iload_n 1, 1) := by decide +kernel
theorem dX12_allThatMay_39 : decode cX12_allThatMay 39 = .ok (.ireturn, 1) := by decide +kernel
set_option maxRecDepth 20000 in
theorem ggX12_section_X12_isSection : GoodIn wsX12_section wsX12_isSection := goodIn_r _ [7, 1, 8, 9, 6, 10, 30, 31, 32, 33, 34, 35, 36, 37, 38, 39, 40, 41, 42, 43, 44, 45, 46, 47] (by decide +kernel) (by decide +kernel)
set_option maxRecDepth 20000 in
theorem gX12_section_X12_isSection : GoodIn wsX12_section (wsV RX12 111 RX12 yX12_isSection wsX12_isSection) := goodIn_app (goodIn_of _ (by decide +kernel)) ggX12_section_X12_isSection
set_option maxRecDepth 20000 in
theorem ggX12_section_X12_first : GoodIn wsX12_section wsX12_first := goodIn_r _ [14, 2, 15, 16, 6, 17, 18, 19, 20, 21, 22, 23, 24, 25, 1, 30, 31, 32, 33, 34, 35, 36, 37, 38, 39, 40, 41, 42, 43, 44, 45, 46, 47] (by decide +kernel) (by decide +kernel)
set_option maxRecDepth 20000 in
theorem gX12_section_X12_first : GoodIn wsX12_section (wsV RX12 105 RX12 yX12_first wsX12_first) := goodIn_app (goodIn_of _ (by decide +kernel)) ggX12_section_X12_first
set_option maxRecDepth 20000 in
theorem ggX12_section_X12_mayCut : GoodIn wsX12_section wsX12_mayCut := goodIn_r _ [29, 2, 1, 15, 16, 6, 17, 11, 12, 13, 14, 18, 19, 20, 21, 22, 23, 24, 25, 30, 31, 32, 33, 34, 35, 36, 37, 38, 39, 40, 41, 42, 43, 44, 45, 46, 47] (by decide +kernel) (by decide +kernel)
set_option maxRecDepth 20000 in
theorem gX12_section_X12_mayCut : GoodIn wsX12_section (wsV RX12 108 RX12 yX12_mayCut wsX12_mayCut) := goodIn_app (goodIn_of _ (by decide +kernel)) ggX12_section_X12_mayCut
theorem dX12_section_0 : decode cX12_section 0 = .ok (.aload_n 0, 1) := by decide +kernel
theorem dX12_section_1 : decode cX12_section 1 = .ok (.iload_n 1, 1) := by decide +kernel
theorem dX12_section_2 : decode cX12_section 2 = .ok (.invokevirtual 111, 3) := by decide +kernel
theorem dX12_section_5 : decode cX12_section 5 = .ok (.ifCond .ne 5, 3) := by decide +kernel
theorem dX12_section_8 : decode cX12_section 8 = .ok (.iconst (-1), 1) := by decide +kernel
theorem dX12_section_9 : decode cX12_section 9 = .ok (.ireturn, 1) := by decide +kernel
theorem dX12_section_10 : decode cX12_section 10 = .ok (.iload_n 2, 1) := by decide +kernel
theorem dX12_section_11 : decode cX12_section 11 = .ok (.tableswitch 98 0 5 #[37, 47, 57, 67, 78, 84], 37) := by decide +kernel
theorem dX12_section_48 : decode cX12_section 48 = .ok (.aload_n 0, 1) := by decide +kernel
theorem dX12_section_49 : decode cX12_section 49 = .ok (.getfield 13, 3) := by decide +kernel
theorem dX12_section_52 : decode cX12_section 52 = .ok (.bipush 6, 2) := by decide +kernel
theorem dX12_section_54 : decode cX12_section 54 = .ok (.iload_n 1, 1) := by decide +kernel
theorem dX12_section_55 : decode cX12_section 55 = .ok (.iadd, 1) := by decide +kernel
theorem dX12_section_56 : decode cX12_section 56 = .ok (.iaload, 1) := by decide +kernel
theorem dX12_section_57 : decode cX12_section 57 = .ok (.ireturn, 1) := by decide +kernel
theorem dX12_section_58 : decode cX12_section 58 = .ok (.aload_n 0, 1) := by decide +kernel
theorem dX12_section_59 : decode cX12_section 59 = .ok (.getfield 13, 3) := by decide +kernel
theorem dX12_section_62 : decode cX12_section 62 = .ok (.bipush 14, 2) := by decide +kernel
theorem dX12_section_64 : decode cX12_section 64 = .ok (.iload_n 1, 1) := by decide +kernel
theorem dX12_section_65 : decode cX12_section 65 = .ok (.iadd, 1) := by decide +kernel
theorem dX12_section_66 : decode cX12_section 66 = .ok (.iaload, 1) := by decide +kernel
theorem dX12_section_67 : decode cX12_section 67 = .ok (.ireturn, 1) := by decide +kernel
theorem dX12_section_68 : decode cX12_section 68 = .ok (.aload_n 0, 1) := by decide +kernel
theorem dX12_section_69 : decode cX12_section 69 = .ok (.getfield 13, 3) := by decide +kernel
theorem dX12_section_72 : decode cX12_section 72 = .ok (.bipush 22, 2) := by decide +kernel
theorem dX12_section_74 : decode cX12_section 74 = .ok (.iload_n 1, 1) := by decide +kernel
theorem dX12_section_75 : decode cX12_section 75 = .ok (.iadd, 1) := by decide +kernel
theorem dX12_section_76 : decode cX12_section 76 = .ok (.iaload, 1) := by decide +kernel
theorem dX12_section_77 : decode cX12_section 77 = .ok (.ireturn, 1) := by decide +kernel
theorem dX12_section_78 : decode cX12_section 78 = .ok (.aload_n 0, 1) := by decide +kernel
theorem dX12_section_79 : decode cX12_section 79 = .ok (.getfield 19, 3) := by decide +kernel
theorem dX12_section_82 : decode cX12_section 82 = .ok (.iconst 3, 1) := by decide +kernel
theorem dX12_section_83 : decode cX12_section 83 = .ok (.iaload, 1) := by decide +kernel
theorem dX12_section_84 : decode cX12_section 84 = .ok (.iload_n 1, 1) := by decide +kernel
theorem dX12_section_85 : decode cX12_section 85 = .ok (.ishr, 1) := by decide +kernel
theorem dX12_section_86 : decode cX12_section 86 = .ok (.iconst 1, 1) := by decide +kernel
theorem dX12_section_87 : decode cX12_section 87 = .ok (.iand, 1) := by decide +kernel
theorem dX12_section_88 : decode cX12_section 88 = .ok (.ireturn, 1) := by decide +kernel
theorem dX12_section_89 : decode cX12_section 89 = .ok (.aload_n 0, 1) := by decide +kernel
theorem dX12_section_90 : decode cX12_section 90 = .ok (.iload_n 1, 1) := by decide +kernel
theorem dX12_section_91 : decode cX12_section 91 = .ok (.invokevirtual 105, 3) := by decide +kernel
theorem dX12_section_94 : decode cX12_section 94 = .ok (.ireturn, 1) := by decide +kernel
theorem dX12_section_95 : decode cX12_section 95 = .ok (.aload_n 0, 1) := by decide +kernel
theorem dX12_section_96 : decode cX12_section 96 = .ok (.iload_n 1, 1) := by decide +kernel
theorem dX12_section_97 : decode cX12_section 97 = .ok (.invokevirtual 108, 3) := by decide +kernel
theorem dX12_section_100 : decode cX12_section 100 = .ok (.ifCond .eq 7, 3) := by decide +kernel
theorem dX12_section_103 : decode cX12_section 103 = .ok (.iconst 1, 1) := by decide +kernel
theorem dX12_section_104 : decode cX12_section 104 = .ok (.goto 4, 3) := by decide +kernel
theorem dX12_section_107 : decode cX12_section 107 = .ok (.iconst 0, 1) := by decide +kernel
theorem dX12_section_108 : decode cX12_section 108 = .ok (.ireturn, 1) := by decide +kernel
theorem dX12_section_109 : decode cX12_section 109 = .ok (.iconst (-1), 1) := by decide +kernel
theorem dX12_section_110 : decode cX12_section 110 = .ok (.ireturn, 1) := by decide +kernel
set_option maxRecDepth 20000 in
theorem ggX12_thing_X12_in : GoodIn wsX12_thing wsX12_in := goodIn_r _ [5] (by decide +kernel) (by decide +kernel)
set_option maxRecDepth 20000 in
theorem gX12_thing_X12_in : GoodIn wsX12_thing (va_wsS RX12 51 yX12_in wsX12_in) := goodIn_app (goodIn_of _ (by decide +kernel)) ggX12_thing_X12_in
theorem dX12_thing_0 : decode cX12_thing 0 = .ok (.iload_n 1, 1) := by decide +kernel
theorem dX12_thing_1 : decode cX12_thing 1 = .ok (.iconst 0, 1) := by decide +kernel
theorem dX12_thing_2 : decode cX12_thing 2 = .ok (.aload_n 0, 1) := by decide +kernel
theorem dX12_thing_3 : decode cX12_thing 3 = .ok (.getfield 13, 3) := by decide +kernel
theorem dX12_thing_6 : decode cX12_thing 6 = .ok (.iconst 1, 1) := by decide +kernel
theorem dX12_thing_7 : decode cX12_thing 7 = .ok (.iaload, 1) := by decide +kernel
theorem dX12_thing_8 : decode cX12_thing 8 = .ok (.iconst 1, 1) := by decide +kernel
theorem dX12_thing_9 : decode cX12_thing 9 = .ok (.isub, 1) := by decide +kernel
theorem dX12_thing_10 : decode cX12_thing 10 = .ok (.invokestatic 51, 3) := by decide +kernel
theorem dX12_thing_13 : decode cX12_thing 13 = .ok (.ifCond .eq 15, 3) := by decide +kernel
theorem dX12_thing_16 : decode cX12_thing 16 = .ok (.aload_n 0, 1) := by decide +kernel
theorem dX12_thing_17 : decode cX12_thing 17 = .ok (.getfield 13, 3) := by decide +kernel
theorem dX12_thing_20 : decode cX12_thing 20 = .ok (.bipush 30, 2) := by decide +kernel
theorem dX12_thing_22 : decode cX12_thing 22 = .ok (.iload_n 1, 1) := by decide +kernel
theorem dX12_thing_23 : decode cX12_thing 23 = .ok (.iadd, 1) := by decide +kernel
theorem dX12_thing_24 : decode cX12_thing 24 = .ok (.iaload, 1) := by decide +kernel
theorem dX12_thing_25 : decode cX12_thing 25 = .ok (.goto 4, 3) := by decide +kernel
theorem dX12_thing_28 : decode cX12_thing 28 = .ok (.iconst (-1), 1) := by decide +kernel
theorem dX12_thing_29 : decode cX12_thing 29 = .ok (.ireturn, 1) := by decide +kernel
set_option maxRecDepth 20000 in
theorem ggX12_sectionAt_X12_has : GoodIn wsX12_sectionAt wsX12_has := goodIn_r _ [6] (by decide +kernel) (by decide +kernel)
set_option maxRecDepth 20000 in
theorem gX12_sectionAt_X12_has : GoodIn wsX12_sectionAt (va_wsS RX12 94 yX12_has wsX12_has) := goodIn_app (goodIn_of _ (by decide +kernel)) ggX12_sectionAt_X12_has
set_option maxRecDepth 20000 in
theorem ggX12_sectionAt_X12_first : GoodIn wsX12_sectionAt wsX12_first := goodIn_r _ [10, 2, 3, 4, 5, 6, 11, 12, 13, 14, 15, 16, 17, 18, 1, 19, 20, 21, 22, 23, 24, 25, 26, 27, 28, 29, 30, 31, 32, 33, 34, 35, 36] (by decide +kernel) (by decide +kernel)
set_option maxRecDepth 20000 in
theorem gX12_sectionAt_X12_first : GoodIn wsX12_sectionAt (wsV RX12 105 RX12 yX12_first wsX12_first) := goodIn_app (goodIn_of _ (by decide +kernel)) ggX12_sectionAt_X12_first
set_option maxRecDepth 20000 in
theorem ggX12_sectionAt_X12_minutes : GoodIn wsX12_sectionAt wsX12_minutes := goodIn_r _ [18, 1, 19, 20, 21, 22, 23, 24, 25, 26, 27, 28, 29, 30, 31, 32, 33, 34, 35, 36] (by decide +kernel) (by decide +kernel)
set_option maxRecDepth 20000 in
theorem gX12_sectionAt_X12_minutes : GoodIn wsX12_sectionAt (wsV RX12 98 RX12 yX12_minutes wsX12_minutes) := goodIn_app (goodIn_of _ (by decide +kernel)) ggX12_sectionAt_X12_minutes
theorem dX12_sectionAt_0 : decode cX12_sectionAt 0 = .ok (.bipush (-9), 2) := by decide +kernel
theorem dX12_sectionAt_2 : decode cX12_sectionAt 2 = .ok (.istore_n 2, 1) := by decide +kernel
theorem dX12_sectionAt_3 : decode cX12_sectionAt 3 = .ok (.iconst 0, 1) := by decide +kernel
theorem dX12_sectionAt_4 : decode cX12_sectionAt 4 = .ok (.istore_n 3, 1) := by decide +kernel
theorem dX12_sectionAt_5 : decode cX12_sectionAt 5 = .ok (.iload_n 3, 1) := by decide +kernel
theorem dX12_sectionAt_6 : decode cX12_sectionAt 6 = .ok (.aload_n 0, 1) := by decide +kernel
theorem dX12_sectionAt_7 : decode cX12_sectionAt 7 = .ok (.getfield 13, 3) := by decide +kernel
theorem dX12_sectionAt_10 : decode cX12_sectionAt 10 = .ok (.iconst 0, 1) := by decide +kernel
theorem dX12_sectionAt_11 : decode cX12_sectionAt 11 = .ok (.iaload, 1) := by decide +kernel
theorem dX12_sectionAt_12 : decode cX12_sectionAt 12 = .ok (.if_icmp .ge 52, 3) := by decide +kernel
theorem dX12_sectionAt_15 : decode cX12_sectionAt 15 = .ok (.aload_n 0, 1) := by decide +kernel
theorem dX12_sectionAt_16 : decode cX12_sectionAt 16 = .ok (.getfield 19, 3) := by decide +kernel
theorem dX12_sectionAt_19 : decode cX12_sectionAt 19 = .ok (.iconst 3, 1) := by decide +kernel
theorem dX12_sectionAt_20 : decode cX12_sectionAt 20 = .ok (.iaload, 1) := by decide +kernel
theorem dX12_sectionAt_21 : decode cX12_sectionAt 21 = .ok (.iload_n 3, 1) := by decide +kernel
theorem dX12_sectionAt_22 : decode cX12_sectionAt 22 = .ok (.invokestatic 94, 3) := by decide +kernel
theorem dX12_sectionAt_25 : decode cX12_sectionAt 25 = .ok (.ifCond .ne 31, 3) := by decide +kernel
theorem dX12_sectionAt_28 : decode cX12_sectionAt 28 = .ok (.iload_n 1, 1) := by decide +kernel
theorem dX12_sectionAt_29 : decode cX12_sectionAt 29 = .ok (.aload_n 0, 1) := by decide +kernel
theorem dX12_sectionAt_30 : decode cX12_sectionAt 30 = .ok (.iload_n 3, 1) := by decide +kernel
theorem dX12_sectionAt_31 : decode cX12_sectionAt 31 = .ok (.invokevirtual 105, 3) := by decide +kernel
theorem dX12_sectionAt_34 : decode cX12_sectionAt 34 = .ok (.if_icmp .lt 22, 3) := by decide +kernel
theorem dX12_sectionAt_37 : decode cX12_sectionAt 37 = .ok (.iload_n 1, 1) := by decide +kernel
theorem dX12_sectionAt_38 : decode cX12_sectionAt 38 = .ok (.aload_n 0, 1) := by decide +kernel
theorem dX12_sectionAt_39 : decode cX12_sectionAt 39 = .ok (.iload_n 3, 1) := by decide +kernel
theorem dX12_sectionAt_40 : decode cX12_sectionAt 40 = .ok (.invokevirtual 105, 3) := by decide +kernel
theorem dX12_sectionAt_43 : decode cX12_sectionAt 43 = .ok (.aload_n 0, 1) := by decide +kernel
theorem dX12_sectionAt_44 : decode cX12_sectionAt 44 = .ok (.iload_n 3, 1) := by decide +kernel
theorem dX12_sectionAt_45 : decode cX12_sectionAt 45 = .ok (.invokevirtual 98, 3) := by decide +kernel
theorem dX12_sectionAt_48 : decode cX12_sectionAt 48 = .ok (.iadd, 1) := by decide +kernel
theorem dX12_sectionAt_49 : decode cX12_sectionAt 49 = .ok (.if_icmp .ge 7, 3) := by decide +kernel
theorem dX12_sectionAt_52 : decode cX12_sectionAt 52 = .ok (.iload_n 3, 1) := by decide +kernel
theorem dX12_sectionAt_53 : decode cX12_sectionAt 53 = .ok (.goto 4, 3) := by decide +kernel
theorem dX12_sectionAt_56 : decode cX12_sectionAt 56 = .ok (.iload_n 2, 1) := by decide +kernel
theorem dX12_sectionAt_57 : decode cX12_sectionAt 57 = .ok (.istore_n 2, 1) := by decide +kernel
theorem dX12_sectionAt_58 : decode cX12_sectionAt 58 = .ok (.iinc 3 1, 3) := by decide +kernel
theorem dX12_sectionAt_61 : decode cX12_sectionAt 61 = .ok (.goto (-56), 3) := by decide +kernel
theorem dX12_sectionAt_64 : decode cX12_sectionAt 64 = .ok (.iload_n 2, 1) := by decide +kernel
theorem dX12_sectionAt_65 : decode cX12_sectionAt 65 = .ok (.ireturn, 1) := by decide +kernel
set_option maxRecDepth 20000 in
theorem ggX12_bar_X12_in : GoodIn wsX12_bar wsX12_in := goodIn_r _ [5] (by decide +kernel) (by decide +kernel)
set_option maxRecDepth 20000 in
theorem gX12_bar_X12_in : GoodIn wsX12_bar (va_wsS RX12 51 yX12_in wsX12_in) := goodIn_app (goodIn_of _ (by decide +kernel)) ggX12_bar_X12_in
set_option maxRecDepth 20000 in
theorem ggX12_bar_X12_sectionAt : GoodIn wsX12_bar wsX12_sectionAt := goodIn_r _ [9, 1, 10, 11, 12, 4, 13, 14, 15, 16, 17, 18, 19, 20, 21, 22, 23, 24, 25, 26, 27, 28, 29, 30, 31, 32, 33, 34, 35, 36, 37, 38, 39, 40, 41, 42, 43] (by decide +kernel) (by decide +kernel)
set_option maxRecDepth 20000 in
theorem gX12_bar_X12_sectionAt : GoodIn wsX12_bar (wsV RX12 114 RX12 yX12_sectionAt wsX12_sectionAt) := goodIn_app (goodIn_of _ (by decide +kernel)) ggX12_bar_X12_sectionAt
set_option maxRecDepth 20000 in
theorem ggX12_bar_X12_first : GoodIn wsX12_bar wsX12_first := goodIn_r _ [17, 10, 11, 12, 4, 13, 18, 19, 20, 21, 22, 23, 24, 25, 1, 26, 27, 28, 29, 30, 31, 32, 33, 34, 35, 36, 37, 38, 39, 40, 41, 42, 43] (by decide +kernel) (by decide +kernel)
set_option maxRecDepth 20000 in
theorem gX12_bar_X12_first : GoodIn wsX12_bar (wsV RX12 105 RX12 yX12_first wsX12_first) := goodIn_app (goodIn_of _ (by decide +kernel)) ggX12_bar_X12_first
theorem dX12_bar_0 : decode cX12_bar 0 = .ok (.iload_n 1, 1) := by decide +kernel
theorem dX12_bar_1 : decode cX12_bar 1 = .ok (.iconst 0, 1) := by decide +kernel
theorem dX12_bar_2 : decode cX12_bar 2 = .ok (.sipush 999, 3) := by decide +kernel
theorem dX12_bar_5 : decode cX12_bar 5 = .ok (.invokestatic 51, 3) := by decide +kernel
theorem dX12_bar_8 : decode cX12_bar 8 = .ok (.ifCond .eq 12, 3) := by decide +kernel
theorem dX12_bar_11 : decode cX12_bar 11 = .ok (.iload_n 2, 1) := by decide +kernel
theorem dX12_bar_12 : decode cX12_bar 12 = .ok (.iconst 0, 1) := by decide +kernel
theorem dX12_bar_13 : decode cX12_bar 13 = .ok (.iconst 3, 1) := by decide +kernel
theorem dX12_bar_14 : decode cX12_bar 14 = .ok (.invokestatic 51, 3) := by decide +kernel
theorem dX12_bar_17 : decode cX12_bar 17 = .ok (.ifCond .ne 5, 3) := by decide +kernel
theorem dX12_bar_20 : decode cX12_bar 20 = .ok (.iconst (-1), 1) := by decide +kernel
theorem dX12_bar_21 : decode cX12_bar 21 = .ok (.ireturn, 1) := by decide +kernel
theorem dX12_bar_22 : decode cX12_bar 22 = .ok (.aload_n 0, 1) := by decide +kernel
theorem dX12_bar_23 : decode cX12_bar 23 = .ok (.iload_n 1, 1) := by decide +kernel
theorem dX12_bar_24 : decode cX12_bar 24 = .ok (.invokevirtual 114, 3) := by decide +kernel
theorem dX12_bar_27 : decode cX12_bar 27 = .ok (.istore_n 3, 1) := by decide +kernel
theorem dX12_bar_28 : decode cX12_bar 28 = .ok (.iload_n 3, 1) := by decide +kernel
theorem dX12_bar_29 : decode cX12_bar 29 = .ok (.bipush (-9), 2) := by decide +kernel
theorem dX12_bar_31 : decode cX12_bar 31 = .ok (.if_icmp .ne 6, 3) := by decide +kernel
theorem dX12_bar_34 : decode cX12_bar 34 = .ok (.bipush (-9), 2) := by decide +kernel
theorem dX12_bar_36 : decode cX12_bar 36 = .ok (.ireturn, 1) := by decide +kernel
theorem dX12_bar_37 : decode cX12_bar 37 = .ok (.iload_n 1, 1) := by decide +kernel
theorem dX12_bar_38 : decode cX12_bar 38 = .ok (.aload_n 0, 1) := by decide +kernel
theorem dX12_bar_39 : decode cX12_bar 39 = .ok (.iload_n 3, 1) := by decide +kernel
theorem dX12_bar_40 : decode cX12_bar 40 = .ok (.invokevirtual 105, 3) := by decide +kernel
theorem dX12_bar_43 : decode cX12_bar 43 = .ok (.isub, 1) := by decide +kernel
theorem dX12_bar_44 : decode cX12_bar 44 = .ok (.istore 4, 2) := by decide +kernel
theorem dX12_bar_46 : decode cX12_bar 46 = .ok (.iload_n 2, 1) := by decide +kernel
theorem dX12_bar_47 : decode cX12_bar 47 = .ok (.ifCond .ne 7, 3) := by decide +kernel
theorem dX12_bar_50 : decode cX12_bar 50 = .ok (.iload_n 3, 1) := by decide +kernel
theorem dX12_bar_51 : decode cX12_bar 51 = .ok (.goto 52, 3) := by decide +kernel
theorem dX12_bar_54 : decode cX12_bar 54 = .ok (.iload_n 2, 1) := by decide +kernel
theorem dX12_bar_55 : decode cX12_bar 55 = .ok (.iconst 1, 1) := by decide +kernel
theorem dX12_bar_56 : decode cX12_bar 56 = .ok (.if_icmp .ne 18, 3) := by decide +kernel
theorem dX12_bar_59 : decode cX12_bar 59 = .ok (.iload 4, 2) := by decide +kernel
theorem dX12_bar_61 : decode cX12_bar 61 = .ok (.aload_n 0, 1) := by decide +kernel
theorem dX12_bar_62 : decode cX12_bar 62 = .ok (.getfield 13, 3) := by decide +kernel
theorem dX12_bar_65 : decode cX12_bar 65 = .ok (.bipush 6, 2) := by decide +kernel
theorem dX12_bar_67 : decode cX12_bar 67 = .ok (.iload_n 3, 1) := by decide +kernel
theorem dX12_bar_68 : decode cX12_bar 68 = .ok (.iadd, 1) := by decide +kernel
theorem dX12_bar_69 : decode cX12_bar 69 = .ok (.iaload, 1) := by decide +kernel
theorem dX12_bar_70 : decode cX12_bar 70 = .ok (.idiv, 1) := by decide +kernel
theorem dX12_bar_71 : decode cX12_bar 71 = .ok (.goto 32, 3) := by decide +kernel
theorem dX12_bar_74 : decode cX12_bar 74 = .ok (.iload_n 2, 1) := by decide +kernel
theorem dX12_bar_75 : decode cX12_bar 75 = .ok (.iconst 2, 1) := by decide +kernel
theorem dX12_bar_76 : decode cX12_bar 76 = .ok (.if_icmp .ne 18, 3) := by decide +kernel
theorem dX12_bar_79 : decode cX12_bar 79 = .ok (.iload 4, 2) := by decide +kernel
theorem dX12_bar_81 : decode cX12_bar 81 = .ok (.aload_n 0, 1) := by decide +kernel
theorem dX12_bar_82 : decode cX12_bar 82 = .ok (.getfield 13, 3) := by decide +kernel
theorem dX12_bar_85 : decode cX12_bar 85 = .ok (.bipush 6, 2) := by decide +kernel
theorem dX12_bar_87 : decode cX12_bar 87 = .ok (.iload_n 3, 1) := by decide +kernel
theorem dX12_bar_88 : decode cX12_bar 88 = .ok (.iadd, 1) := by decide +kernel
theorem dX12_bar_89 : decode cX12_bar 89 = .ok (.iaload, 1) := by decide +kernel
theorem dX12_bar_90 : decode cX12_bar 90 = .ok (.irem, 1) := by decide +kernel
theorem dX12_bar_91 : decode cX12_bar 91 = .ok (.goto 12, 3) := by decide +kernel
theorem dX12_bar_94 : decode cX12_bar 94 = .ok (.aload_n 0, 1) := by decide +kernel
theorem dX12_bar_95 : decode cX12_bar 95 = .ok (.getfield 13, 3) := by decide +kernel
theorem dX12_bar_98 : decode cX12_bar 98 = .ok (.bipush 22, 2) := by decide +kernel
theorem dX12_bar_100 : decode cX12_bar 100 = .ok (.iload_n 3, 1) := by decide +kernel
theorem dX12_bar_101 : decode cX12_bar 101 = .ok (.iadd, 1) := by decide +kernel
theorem dX12_bar_102 : decode cX12_bar 102 = .ok (.iaload, 1) := by decide +kernel
theorem dX12_bar_103 : decode cX12_bar 103 = .ok (.ireturn, 1) := by decide +kernel
theorem dX12_keeps_0 : decode cX12_keeps 0 = .ok (.aload_n 0, 1) := by decide +kernel
theorem dX12_keeps_1 : decode cX12_keeps 1 = .ok (.getfield 19, 3) := by decide +kernel
theorem dX12_keeps_4 : decode cX12_keeps 4 = .ok (.iconst 5, 1) := by decide +kernel
theorem dX12_keeps_5 : decode cX12_keeps 5 = .ok (.iaload, 1) := by decide +kernel
theorem dX12_keeps_6 : decode cX12_keeps 6 = .ok (.bipush 10, 2) := by decide +kernel
theorem dX12_keeps_8 : decode cX12_keeps 8 = .ok (.if_icmp .ne 42, 3) := by decide +kernel
theorem dX12_keeps_11 : decode cX12_keeps 11 = .ok (.bipush 6, 2) := by decide +kernel
theorem dX12_keeps_13 : decode cX12_keeps 13 = .ok (.istore_n 1, 1) := by decide +kernel
theorem dX12_keeps_14 : decode cX12_keeps 14 = .ok (.iload_n 1, 1) := by decide +kernel
theorem dX12_keeps_15 : decode cX12_keeps 15 = .ok (.bipush 51, 2) := by decide +kernel
theorem dX12_keeps_17 : decode cX12_keeps 17 = .ok (.if_icmp .ge 23, 3) := by decide +kernel
theorem dX12_keeps_20 : decode cX12_keeps 20 = .ok (.aload_n 0, 1) := by decide +kernel
theorem dX12_keeps_21 : decode cX12_keeps 21 = .ok (.getfield 19, 3) := by decide +kernel
theorem dX12_keeps_24 : decode cX12_keeps 24 = .ok (.iload_n 1, 1) := by decide +kernel
theorem dX12_keeps_25 : decode cX12_keeps 25 = .ok (.aload_n 0, 1) := by decide +kernel
theorem dX12_keeps_26 : decode cX12_keeps 26 = .ok (.getfield 19, 3) := by decide +kernel
theorem dX12_keeps_29 : decode cX12_keeps 29 = .ok (.iload_n 1, 1) := by decide +kernel
theorem dX12_keeps_30 : decode cX12_keeps 30 = .ok (.iconst 5, 1) := by decide +kernel
theorem dX12_keeps_31 : decode cX12_keeps 31 = .ok (.iadd, 1) := by decide +kernel
theorem dX12_keeps_32 : decode cX12_keeps 32 = .ok (.iaload, 1) := by decide +kernel
theorem dX12_keeps_33 : decode cX12_keeps 33 = .ok (.iastore, 1) := by decide +kernel
theorem dX12_keeps_34 : decode cX12_keeps 34 = .ok (.iinc 1 1, 3) := by decide +kernel
theorem dX12_keeps_37 : decode cX12_keeps 37 = .ok (.goto (-23), 3) := by decide +kernel
theorem dX12_keeps_40 : decode cX12_keeps 40 = .ok (.aload_n 0, 1) := by decide +kernel
theorem dX12_keeps_41 : decode cX12_keeps 41 = .ok (.getfield 19, 3) := by decide +kernel
theorem dX12_keeps_44 : decode cX12_keeps 44 = .ok (.iconst 5, 1) := by decide +kernel
theorem dX12_keeps_45 : decode cX12_keeps 45 = .ok (.dup2, 1) := by decide +kernel
theorem dX12_keeps_46 : decode cX12_keeps 46 = .ok (.iaload, 1) := by decide +kernel
theorem dX12_keeps_47 : decode cX12_keeps 47 = .ok (.iconst 1, 1) := by decide +kernel
theorem dX12_keeps_48 : decode cX12_keeps 48 = .ok (.isub, 1) := by decide +kernel
theorem dX12_keeps_49 : decode cX12_keeps 49 = .ok (.iastore, 1) := by decide +kernel
theorem dX12_keeps_50 : decode cX12_keeps 50 = .ok (.iconst 0, 1) := by decide +kernel
theorem dX12_keeps_51 : decode cX12_keeps 51 = .ok (.istore_n 1, 1) := by decide +kernel
theorem dX12_keeps_52 : decode cX12_keeps 52 = .ok (.iload_n 1, 1) := by decide +kernel
theorem dX12_keeps_53 : decode cX12_keeps 53 = .ok (.iconst 5, 1) := by decide +kernel
theorem dX12_keeps_54 : decode cX12_keeps 54 = .ok (.if_icmp .ge 33, 3) := by decide +kernel
theorem dX12_keeps_57 : decode cX12_keeps 57 = .ok (.aload_n 0, 1) := by decide +kernel
theorem dX12_keeps_58 : decode cX12_keeps 58 = .ok (.getfield 19, 3) := by decide +kernel
theorem dX12_keeps_61 : decode cX12_keeps 61 = .ok (.bipush 6, 2) := by decide +kernel
theorem dX12_keeps_63 : decode cX12_keeps 63 = .ok (.iconst 5, 1) := by decide +kernel
theorem dX12_keeps_64 : decode cX12_keeps 64 = .ok (.aload_n 0, 1) := by decide +kernel
theorem dX12_keeps_65 : decode cX12_keeps 65 = .ok (.getfield 19, 3) := by decide +kernel
theorem dX12_keeps_68 : decode cX12_keeps 68 = .ok (.iconst 5, 1) := by decide +kernel
theorem dX12_keeps_69 : decode cX12_keeps 69 = .ok (.iaload, 1) := by decide +kernel
theorem dX12_keeps_70 : decode cX12_keeps 70 = .ok (.imul, 1) := by decide +kernel
theorem dX12_keeps_71 : decode cX12_keeps 71 = .ok (.iadd, 1) := by decide +kernel
theorem dX12_keeps_72 : decode cX12_keeps 72 = .ok (.iload_n 1, 1) := by decide +kernel
theorem dX12_keeps_73 : decode cX12_keeps 73 = .ok (.iadd, 1) := by decide +kernel
theorem dX12_keeps_74 : decode cX12_keeps 74 = .ok (.aload_n 0, 1) := by decide +kernel
theorem dX12_keeps_75 : decode cX12_keeps 75 = .ok (.getfield 19, 3) := by decide +kernel
theorem dX12_keeps_78 : decode cX12_keeps 78 = .ok (.iload_n 1, 1) := by decide +kernel
theorem dX12_keeps_79 : decode cX12_keeps 79 = .ok (.iaload, 1) := by decide +kernel
theorem dX12_keeps_80 : decode cX12_keeps 80 = .ok (.iastore, 1) := by decide +kernel
theorem dX12_keeps_81 : decode cX12_keeps 81 = .ok (.iinc 1 1, 3) := by decide +kernel
theorem dX12_keeps_84 : decode cX12_keeps 84 = .ok (.goto (-32), 3) := by decide +kernel
theorem dX12_keeps_87 : decode cX12_keeps 87 = .ok (.aload_n 0, 1) := by decide +kernel
theorem dX12_keeps_88 : decode cX12_keeps 88 = .ok (.getfield 19, 3) := by decide +kernel
theorem dX12_keeps_91 : decode cX12_keeps 91 = .ok (.iconst 5, 1) := by decide +kernel
theorem dX12_keeps_92 : decode cX12_keeps 92 = .ok (.dup2, 1) := by decide +kernel
theorem dX12_keeps_93 : decode cX12_keeps 93 = .ok (.iaload, 1) := by decide +kernel
theorem dX12_keeps_94 : decode cX12_keeps 94 = .ok (.iconst 1, 1) := by decide +kernel
theorem dX12_keeps_95 : decode cX12_keeps 95 = .ok (.iadd, 1) := by decide +kernel
theorem dX12_keeps_96 : decode cX12_keeps 96 = .ok (.iastore, 1) := by decide +kernel
theorem dX12_keeps_97 : decode cX12_keeps 97 = .ok (.return_, 1) := by decide +kernel
set_option maxRecDepth 20000 in
theorem ggX12_bars_X12_in : GoodIn wsX12_bars wsX12_in := goodIn_r _ [5] (by decide +kernel) (by decide +kernel)
set_option maxRecDepth 20000 in
theorem gX12_bars_X12_in : GoodIn wsX12_bars (va_wsS RX12 51 yX12_in wsX12_in) := goodIn_app (goodIn_of _ (by decide +kernel)) ggX12_bars_X12_in
set_option maxRecDepth 20000 in
theorem ggX12_bars_X12_length : GoodIn wsX12_bars wsX12_length := goodIn_r _ [9, 10, 1, 11, 12, 13, 4, 14, 15, 16, 17, 18, 19, 20, 21, 30, 31, 32, 33, 34, 35, 36, 37, 38, 39, 40, 41, 42, 43, 44, 45, 46, 47] (by decide +kernel) (by decide +kernel)
set_option maxRecDepth 20000 in
theorem gX12_bars_X12_length : GoodIn wsX12_bars (wsV RX12 117 RX12 yX12_length wsX12_length) := goodIn_app (goodIn_of _ (by decide +kernel)) ggX12_bars_X12_length
set_option maxRecDepth 20000 in
theorem ggX12_bars_X12_keeps : GoodIn wsX12_bars wsX12_keeps := goodIn_r _ [25, 1, 30, 31, 32, 33, 34, 35, 36, 37, 38, 39, 40, 41, 42, 43, 44, 45, 46, 47] (by decide +kernel) (by decide +kernel)
set_option maxRecDepth 20000 in
theorem gX12_bars_X12_keeps : GoodIn wsX12_bars (wsV RX12 121 RX12 yX12_keeps wsX12_keeps) := goodIn_app (goodIn_of _ (by decide +kernel)) ggX12_bars_X12_keeps
set_option maxRecDepth 20000 in
theorem ggX12_bars_X12_noteBar : GoodIn wsX12_bars wsX12_noteBar := goodIn_r _ [29, 10, 11, 12, 13, 4, 14, 15, 16, 17, 18, 19, 20, 21, 30, 31, 32, 33, 34, 35, 36, 37, 38, 39, 40, 41, 42, 43, 44, 45, 46, 47] (by decide +kernel) (by decide +kernel)
set_option maxRecDepth 20000 in
theorem gX12_bars_X12_noteBar : GoodIn wsX12_bars (wsV RX12 124 RX12 yX12_noteBar wsX12_noteBar) := goodIn_app (goodIn_of _ (by decide +kernel)) ggX12_bars_X12_noteBar
theorem dX12_bars_0 : decode cX12_bars 0 = .ok (.iload_n 1, 1) := by decide +kernel
theorem dX12_bars_1 : decode cX12_bars 1 = .ok (.iconst 1, 1) := by decide +kernel
theorem dX12_bars_2 : decode cX12_bars 2 = .ok (.bipush 99, 2) := by decide +kernel
theorem dX12_bars_4 : decode cX12_bars 4 = .ok (.invokestatic 51, 3) := by decide +kernel
theorem dX12_bars_7 : decode cX12_bars 7 = .ok (.ifCond .ne 5, 3) := by decide +kernel
theorem dX12_bars_10 : decode cX12_bars 10 = .ok (.iconst (-1), 1) := by decide +kernel
theorem dX12_bars_11 : decode cX12_bars 11 = .ok (.ireturn, 1) := by decide +kernel
theorem dX12_bars_12 : decode cX12_bars 12 = .ok (.aload_n 0, 1) := by decide +kernel
theorem dX12_bars_13 : decode cX12_bars 13 = .ok (.getfield 19, 3) := by decide +kernel
theorem dX12_bars_16 : decode cX12_bars 16 = .ok (.iconst 0, 1) := by decide +kernel
theorem dX12_bars_17 : decode cX12_bars 17 = .ok (.iaload, 1) := by decide +kernel
theorem dX12_bars_18 : decode cX12_bars 18 = .ok (.iload_n 1, 1) := by decide +kernel
theorem dX12_bars_19 : decode cX12_bars 19 = .ok (.iadd, 1) := by decide +kernel
theorem dX12_bars_20 : decode cX12_bars 20 = .ok (.aload_n 0, 1) := by decide +kernel
theorem dX12_bars_21 : decode cX12_bars 21 = .ok (.invokevirtual 117, 3) := by decide +kernel
theorem dX12_bars_24 : decode cX12_bars 24 = .ok (.if_icmp .le 6, 3) := by decide +kernel
theorem dX12_bars_27 : decode cX12_bars 27 = .ok (.bipush (-2), 2) := by decide +kernel
theorem dX12_bars_29 : decode cX12_bars 29 = .ok (.ireturn, 1) := by decide +kernel
theorem dX12_bars_30 : decode cX12_bars 30 = .ok (.aload_n 0, 1) := by decide +kernel
theorem dX12_bars_31 : decode cX12_bars 31 = .ok (.invokevirtual 121, 3) := by decide +kernel
theorem dX12_bars_34 : decode cX12_bars 34 = .ok (.aload_n 0, 1) := by decide +kernel
theorem dX12_bars_35 : decode cX12_bars 35 = .ok (.aload_n 0, 1) := by decide +kernel
theorem dX12_bars_36 : decode cX12_bars 36 = .ok (.getfield 19, 3) := by decide +kernel
theorem dX12_bars_39 : decode cX12_bars 39 = .ok (.iconst 3, 1) := by decide +kernel
theorem dX12_bars_40 : decode cX12_bars 40 = .ok (.iaload, 1) := by decide +kernel
theorem dX12_bars_41 : decode cX12_bars 41 = .ok (.invokevirtual 124, 3) := by decide +kernel
theorem dX12_bars_44 : decode cX12_bars 44 = .ok (.istore_n 2, 1) := by decide +kernel
theorem dX12_bars_45 : decode cX12_bars 45 = .ok (.aload_n 0, 1) := by decide +kernel
theorem dX12_bars_46 : decode cX12_bars 46 = .ok (.getfield 19, 3) := by decide +kernel
theorem dX12_bars_49 : decode cX12_bars 49 = .ok (.iconst 0, 1) := by decide +kernel
theorem dX12_bars_50 : decode cX12_bars 50 = .ok (.iaload, 1) := by decide +kernel
theorem dX12_bars_51 : decode cX12_bars 51 = .ok (.iload_n 2, 1) := by decide +kernel
theorem dX12_bars_52 : decode cX12_bars 52 = .ok (.if_icmp .gt 34, 3) := by decide +kernel
theorem dX12_bars_55 : decode cX12_bars 55 = .ok (.aload_n 0, 1) := by decide +kernel
theorem dX12_bars_56 : decode cX12_bars 56 = .ok (.getfield 19, 3) := by decide +kernel
theorem dX12_bars_59 : decode cX12_bars 59 = .ok (.iconst 0, 1) := by decide +kernel
theorem dX12_bars_60 : decode cX12_bars 60 = .ok (.iaload, 1) := by decide +kernel
theorem dX12_bars_61 : decode cX12_bars 61 = .ok (.iload_n 1, 1) := by decide +kernel
theorem dX12_bars_62 : decode cX12_bars 62 = .ok (.iadd, 1) := by decide +kernel
theorem dX12_bars_63 : decode cX12_bars 63 = .ok (.iload_n 2, 1) := by decide +kernel
theorem dX12_bars_64 : decode cX12_bars 64 = .ok (.if_icmp .le 22, 3) := by decide +kernel
theorem dX12_bars_67 : decode cX12_bars 67 = .ok (.aload_n 0, 1) := by decide +kernel
theorem dX12_bars_68 : decode cX12_bars 68 = .ok (.getfield 19, 3) := by decide +kernel
theorem dX12_bars_71 : decode cX12_bars 71 = .ok (.iconst 1, 1) := by decide +kernel
theorem dX12_bars_72 : decode cX12_bars 72 = .ok (.iaload, 1) := by decide +kernel
theorem dX12_bars_73 : decode cX12_bars 73 = .ok (.aload_n 0, 1) := by decide +kernel
theorem dX12_bars_74 : decode cX12_bars 74 = .ok (.getfield 19, 3) := by decide +kernel
theorem dX12_bars_77 : decode cX12_bars 77 = .ok (.iconst 0, 1) := by decide +kernel
theorem dX12_bars_78 : decode cX12_bars 78 = .ok (.iaload, 1) := by decide +kernel
theorem dX12_bars_79 : decode cX12_bars 79 = .ok (.if_icmp .ne 7, 3) := by decide +kernel
theorem dX12_bars_82 : decode cX12_bars 82 = .ok (.iconst 1, 1) := by decide +kernel
theorem dX12_bars_83 : decode cX12_bars 83 = .ok (.goto 4, 3) := by decide +kernel
theorem dX12_bars_86 : decode cX12_bars 86 = .ok (.iconst 0, 1) := by decide +kernel
theorem dX12_bars_87 : decode cX12_bars 87 = .ok (.istore_n 3, 1) := by decide +kernel
theorem dX12_bars_88 : decode cX12_bars 88 = .ok (.aload_n 0, 1) := by decide +kernel
theorem dX12_bars_89 : decode cX12_bars 89 = .ok (.getfield 19, 3) := by decide +kernel
theorem dX12_bars_92 : decode cX12_bars 92 = .ok (.iconst 4, 1) := by decide +kernel
theorem dX12_bars_93 : decode cX12_bars 93 = .ok (.iload_n 3, 1) := by decide +kernel
theorem dX12_bars_94 : decode cX12_bars 94 = .ok (.ifCond .eq 7, 3) := by decide +kernel
theorem dX12_bars_97 : decode cX12_bars 97 = .ok (.iconst 1, 1) := by decide +kernel
theorem dX12_bars_98 : decode cX12_bars 98 = .ok (.goto 9, 3) := by decide +kernel
theorem dX12_bars_101 : decode cX12_bars 101 = .ok (.aload_n 0, 1) := by decide +kernel
theorem dX12_bars_102 : decode cX12_bars 102 = .ok (.getfield 19, 3) := by decide +kernel
theorem dX12_bars_105 : decode cX12_bars 105 = .ok (.iconst 4, 1) := by decide +kernel
theorem dX12_bars_106 : decode cX12_bars 106 = .ok (.iaload, 1) := by decide +kernel
theorem dX12_bars_107 : decode cX12_bars 107 = .ok (.iastore, 1) := by decide +kernel
theorem dX12_bars_108 : decode cX12_bars 108 = .ok (.aload_n 0, 1) := by decide +kernel
theorem dX12_bars_109 : decode cX12_bars 109 = .ok (.getfield 19, 3) := by decide +kernel
theorem dX12_bars_112 : decode cX12_bars 112 = .ok (.iconst 0, 1) := by decide +kernel
theorem dX12_bars_113 : decode cX12_bars 113 = .ok (.dup2, 1) := by decide +kernel
theorem dX12_bars_114 : decode cX12_bars 114 = .ok (.iaload, 1) := by decide +kernel
theorem dX12_bars_115 : decode cX12_bars 115 = .ok (.iload_n 1, 1) := by decide +kernel
theorem dX12_bars_116 : decode cX12_bars 116 = .ok (.iadd, 1) := by decide +kernel
theorem dX12_bars_117 : decode cX12_bars 117 = .ok (.iastore, 1) := by decide +kernel
theorem dX12_bars_118 : decode cX12_bars 118 = .ok (.aload_n 0, 1) := by decide +kernel
theorem dX12_bars_119 : decode cX12_bars 119 = .ok (.getfield 19, 3) := by decide +kernel
theorem dX12_bars_122 : decode cX12_bars 122 = .ok (.iconst 1, 1) := by decide +kernel
theorem dX12_bars_123 : decode cX12_bars 123 = .ok (.dup2, 1) := by decide +kernel
theorem dX12_bars_124 : decode cX12_bars 124 = .ok (.iaload, 1) := by decide +kernel
theorem dX12_bars_125 : decode cX12_bars 125 = .ok (.iload_n 1, 1) := by decide +kernel
theorem dX12_bars_126 : decode cX12_bars 126 = .ok (.iadd, 1) := by decide +kernel
theorem dX12_bars_127 : decode cX12_bars 127 = .ok (.iastore, 1) := by decide +kernel
theorem dX12_bars_128 : decode cX12_bars 128 = .ok (.aload_n 0, 1) := by decide +kernel
theorem dX12_bars_129 : decode cX12_bars 129 = .ok (.getfield 19, 3) := by decide +kernel
theorem dX12_bars_132 : decode cX12_bars 132 = .ok (.iconst 0, 1) := by decide +kernel
theorem dX12_bars_133 : decode cX12_bars 133 = .ok (.iaload, 1) := by decide +kernel
theorem dX12_bars_134 : decode cX12_bars 134 = .ok (.ireturn, 1) := by decide +kernel
set_option maxRecDepth 20000 in
theorem ggX12_slips_X12_in : GoodIn wsX12_slips wsX12_in := goodIn_r _ [6] (by decide +kernel) (by decide +kernel)
set_option maxRecDepth 20000 in
theorem gX12_slips_X12_in : GoodIn wsX12_slips (va_wsS RX12 51 yX12_in wsX12_in) := goodIn_app (goodIn_of _ (by decide +kernel)) ggX12_slips_X12_in
set_option maxRecDepth 20000 in
theorem ggX12_slips_X12_keeps : GoodIn wsX12_slips wsX12_keeps := goodIn_r _ [10, 2, 11, 12, 13, 14, 15, 16, 17, 18, 19, 20, 21, 22, 23, 24, 25, 26, 27, 28] (by decide +kernel) (by decide +kernel)
set_option maxRecDepth 20000 in
theorem gX12_slips_X12_keeps : GoodIn wsX12_slips (wsV RX12 121 RX12 yX12_keeps wsX12_keeps) := goodIn_app (goodIn_of _ (by decide +kernel)) ggX12_slips_X12_keeps
theorem dX12_slips_0 : decode cX12_slips 0 = .ok (.iload_n 1, 1) := by decide +kernel
theorem dX12_slips_1 : decode cX12_slips 1 = .ok (.bipush (-9), 2) := by decide +kernel
theorem dX12_slips_3 : decode cX12_slips 3 = .ok (.bipush 9, 2) := by decide +kernel
theorem dX12_slips_5 : decode cX12_slips 5 = .ok (.invokestatic 51, 3) := by decide +kernel
theorem dX12_slips_8 : decode cX12_slips 8 = .ok (.ifCond .eq 7, 3) := by decide +kernel
theorem dX12_slips_11 : decode cX12_slips 11 = .ok (.iload_n 1, 1) := by decide +kernel
theorem dX12_slips_12 : decode cX12_slips 12 = .ok (.ifCond .ne 6, 3) := by decide +kernel
theorem dX12_slips_15 : decode cX12_slips 15 = .ok (.ldc 127, 2) := by decide +kernel
theorem dX12_slips_17 : decode cX12_slips 17 = .ok (.ireturn, 1) := by decide +kernel
theorem dX12_slips_18 : decode cX12_slips 18 = .ok (.aload_n 0, 1) := by decide +kernel
theorem dX12_slips_19 : decode cX12_slips 19 = .ok (.invokevirtual 121, 3) := by decide +kernel
theorem dX12_slips_22 : decode cX12_slips 22 = .ok (.aload_n 0, 1) := by decide +kernel
theorem dX12_slips_23 : decode cX12_slips 23 = .ok (.getfield 19, 3) := by decide +kernel
theorem dX12_slips_26 : decode cX12_slips 26 = .ok (.iconst 1, 1) := by decide +kernel
theorem dX12_slips_27 : decode cX12_slips 27 = .ok (.dup2, 1) := by decide +kernel
theorem dX12_slips_28 : decode cX12_slips 28 = .ok (.iaload, 1) := by decide +kernel
theorem dX12_slips_29 : decode cX12_slips 29 = .ok (.iload_n 1, 1) := by decide +kernel
theorem dX12_slips_30 : decode cX12_slips 30 = .ok (.iadd, 1) := by decide +kernel
theorem dX12_slips_31 : decode cX12_slips 31 = .ok (.iastore, 1) := by decide +kernel
theorem dX12_slips_32 : decode cX12_slips 32 = .ok (.aload_n 0, 1) := by decide +kernel
theorem dX12_slips_33 : decode cX12_slips 33 = .ok (.getfield 19, 3) := by decide +kernel
theorem dX12_slips_36 : decode cX12_slips 36 = .ok (.iconst 1, 1) := by decide +kernel
theorem dX12_slips_37 : decode cX12_slips 37 = .ok (.iaload, 1) := by decide +kernel
theorem dX12_slips_38 : decode cX12_slips 38 = .ok (.ireturn, 1) := by decide +kernel
theorem dX12_apart_0 : decode cX12_apart 0 = .ok (.iload_n 0, 1) := by decide +kernel
theorem dX12_apart_1 : decode cX12_apart 1 = .ok (.iload_n 1, 1) := by decide +kernel
theorem dX12_apart_2 : decode cX12_apart 2 = .ok (.if_icmp .ge 9, 3) := by decide +kernel
theorem dX12_apart_5 : decode cX12_apart 5 = .ok (.iload_n 1, 1) := by decide +kernel
theorem dX12_apart_6 : decode cX12_apart 6 = .ok (.iload_n 0, 1) := by decide +kernel
theorem dX12_apart_7 : decode cX12_apart 7 = .ok (.isub, 1) := by decide +kernel
theorem dX12_apart_8 : decode cX12_apart 8 = .ok (.goto 6, 3) := by decide +kernel
theorem dX12_apart_11 : decode cX12_apart 11 = .ok (.iload_n 0, 1) := by decide +kernel
theorem dX12_apart_12 : decode cX12_apart 12 = .ok (.iload_n 1, 1) := by decide +kernel
theorem dX12_apart_13 : decode cX12_apart 13 = .ok (.isub, 1) := by decide +kernel
theorem dX12_apart_14 : decode cX12_apart 14 = .ok (.ireturn, 1) := by decide +kernel
set_option maxRecDepth 20000 in
theorem ggX12_cue_X12_first : GoodIn wsX12_cue wsX12_first := goodIn_r _ [8, 2, 9, 10, 7, 11, 12, 13, 14, 15, 16, 17, 18, 19, 1, 27, 28, 29, 30, 31, 32, 33, 34, 35, 36, 37, 38, 39, 40, 41, 42, 43, 44] (by decide +kernel) (by decide +kernel)
set_option maxRecDepth 20000 in
theorem gX12_cue_X12_first : GoodIn wsX12_cue (wsV RX12 105 RX12 yX12_first wsX12_first) := goodIn_app (goodIn_of _ (by decide +kernel)) ggX12_cue_X12_first
set_option maxRecDepth 20000 in
theorem ggX12_cue_X12_keeps : GoodIn wsX12_cue wsX12_keeps := goodIn_r _ [23, 2, 27, 28, 29, 30, 31, 32, 33, 34, 35, 36, 37, 38, 39, 40, 41, 42, 43, 44] (by decide +kernel) (by decide +kernel)
set_option maxRecDepth 20000 in
theorem gX12_cue_X12_keeps : GoodIn wsX12_cue (wsV RX12 121 RX12 yX12_keeps wsX12_keeps) := goodIn_app (goodIn_of _ (by decide +kernel)) ggX12_cue_X12_keeps
set_option maxRecDepth 20000 in
theorem ggX12_cue_X12_apart : GoodIn wsX12_cue wsX12_apart := goodIn_r _ [26] (by decide +kernel) (by decide +kernel)
set_option maxRecDepth 20000 in
theorem gX12_cue_X12_apart : GoodIn wsX12_cue (va_wsS RX12 128 yX12_apart wsX12_apart) := goodIn_app (goodIn_of _ (by decide +kernel)) ggX12_cue_X12_apart
theorem dX12_cue_0 : decode cX12_cue 0 = .ok (.bipush (-9), 2) := by decide +kernel
theorem dX12_cue_2 : decode cX12_cue 2 = .ok (.istore_n 1, 1) := by decide +kernel
theorem dX12_cue_3 : decode cX12_cue 3 = .ok (.iconst 0, 1) := by decide +kernel
theorem dX12_cue_4 : decode cX12_cue 4 = .ok (.istore_n 2, 1) := by decide +kernel
theorem dX12_cue_5 : decode cX12_cue 5 = .ok (.iload_n 2, 1) := by decide +kernel
theorem dX12_cue_6 : decode cX12_cue 6 = .ok (.aload_n 0, 1) := by decide +kernel
theorem dX12_cue_7 : decode cX12_cue 7 = .ok (.getfield 13, 3) := by decide +kernel
theorem dX12_cue_10 : decode cX12_cue 10 = .ok (.iconst 0, 1) := by decide +kernel
theorem dX12_cue_11 : decode cX12_cue 11 = .ok (.iaload, 1) := by decide +kernel
theorem dX12_cue_12 : decode cX12_cue 12 = .ok (.if_icmp .ge 29, 3) := by decide +kernel
theorem dX12_cue_15 : decode cX12_cue 15 = .ok (.aload_n 0, 1) := by decide +kernel
theorem dX12_cue_16 : decode cX12_cue 16 = .ok (.iload_n 2, 1) := by decide +kernel
theorem dX12_cue_17 : decode cX12_cue 17 = .ok (.invokevirtual 105, 3) := by decide +kernel
theorem dX12_cue_20 : decode cX12_cue 20 = .ok (.aload_n 0, 1) := by decide +kernel
theorem dX12_cue_21 : decode cX12_cue 21 = .ok (.getfield 19, 3) := by decide +kernel
theorem dX12_cue_24 : decode cX12_cue 24 = .ok (.iconst 0, 1) := by decide +kernel
theorem dX12_cue_25 : decode cX12_cue 25 = .ok (.iaload, 1) := by decide +kernel
theorem dX12_cue_26 : decode cX12_cue 26 = .ok (.if_icmp .ne 7, 3) := by decide +kernel
theorem dX12_cue_29 : decode cX12_cue 29 = .ok (.iload_n 2, 1) := by decide +kernel
theorem dX12_cue_30 : decode cX12_cue 30 = .ok (.goto 4, 3) := by decide +kernel
theorem dX12_cue_33 : decode cX12_cue 33 = .ok (.iload_n 1, 1) := by decide +kernel
theorem dX12_cue_34 : decode cX12_cue 34 = .ok (.istore_n 1, 1) := by decide +kernel
theorem dX12_cue_35 : decode cX12_cue 35 = .ok (.iinc 2 1, 3) := by decide +kernel
theorem dX12_cue_38 : decode cX12_cue 38 = .ok (.goto (-33), 3) := by decide +kernel
theorem dX12_cue_41 : decode cX12_cue 41 = .ok (.iload_n 1, 1) := by decide +kernel
theorem dX12_cue_42 : decode cX12_cue 42 = .ok (.bipush (-9), 2) := by decide +kernel
theorem dX12_cue_44 : decode cX12_cue 44 = .ok (.if_icmp .ne 6, 3) := by decide +kernel
theorem dX12_cue_47 : decode cX12_cue 47 = .ok (.ldc 127, 2) := by decide +kernel
theorem dX12_cue_49 : decode cX12_cue 49 = .ok (.ireturn, 1) := by decide +kernel
theorem dX12_cue_50 : decode cX12_cue 50 = .ok (.aload_n 0, 1) := by decide +kernel
theorem dX12_cue_51 : decode cX12_cue 51 = .ok (.invokevirtual 121, 3) := by decide +kernel
theorem dX12_cue_54 : decode cX12_cue 54 = .ok (.aload_n 0, 1) := by decide +kernel
theorem dX12_cue_55 : decode cX12_cue 55 = .ok (.getfield 19, 3) := by decide +kernel
theorem dX12_cue_58 : decode cX12_cue 58 = .ok (.iconst 0, 1) := by decide +kernel
theorem dX12_cue_59 : decode cX12_cue 59 = .ok (.iaload, 1) := by decide +kernel
theorem dX12_cue_60 : decode cX12_cue 60 = .ok (.istore_n 2, 1) := by decide +kernel
theorem dX12_cue_61 : decode cX12_cue 61 = .ok (.aload_n 0, 1) := by decide +kernel
theorem dX12_cue_62 : decode cX12_cue 62 = .ok (.getfield 13, 3) := by decide +kernel
theorem dX12_cue_65 : decode cX12_cue 65 = .ok (.iconst 0, 1) := by decide +kernel
theorem dX12_cue_66 : decode cX12_cue 66 = .ok (.iaload, 1) := by decide +kernel
theorem dX12_cue_67 : decode cX12_cue 67 = .ok (.iconst 1, 1) := by decide +kernel
theorem dX12_cue_68 : decode cX12_cue 68 = .ok (.isub, 1) := by decide +kernel
theorem dX12_cue_69 : decode cX12_cue 69 = .ok (.istore_n 3, 1) := by decide +kernel
theorem dX12_cue_70 : decode cX12_cue 70 = .ok (.iload_n 3, 1) := by decide +kernel
theorem dX12_cue_71 : decode cX12_cue 71 = .ok (.ifCond .lt 140, 3) := by decide +kernel
theorem dX12_cue_74 : decode cX12_cue 74 = .ok (.aload_n 0, 1) := by decide +kernel
theorem dX12_cue_75 : decode cX12_cue 75 = .ok (.getfield 13, 3) := by decide +kernel
theorem dX12_cue_78 : decode cX12_cue 78 = .ok (.bipush 22, 2) := by decide +kernel
theorem dX12_cue_80 : decode cX12_cue 80 = .ok (.iload_n 3, 1) := by decide +kernel
theorem dX12_cue_81 : decode cX12_cue 81 = .ok (.iadd, 1) := by decide +kernel
theorem dX12_cue_82 : decode cX12_cue 82 = .ok (.iaload, 1) := by decide +kernel
theorem dX12_cue_83 : decode cX12_cue 83 = .ok (.aload_n 0, 1) := by decide +kernel
theorem dX12_cue_84 : decode cX12_cue 84 = .ok (.getfield 13, 3) := by decide +kernel
theorem dX12_cue_87 : decode cX12_cue 87 = .ok (.bipush 22, 2) := by decide +kernel
theorem dX12_cue_89 : decode cX12_cue 89 = .ok (.iload_n 1, 1) := by decide +kernel
theorem dX12_cue_90 : decode cX12_cue 90 = .ok (.iadd, 1) := by decide +kernel
theorem dX12_cue_91 : decode cX12_cue 91 = .ok (.iaload, 1) := by decide +kernel
theorem dX12_cue_92 : decode cX12_cue 92 = .ok (.if_icmp .ne 17, 3) := by decide +kernel
theorem dX12_cue_95 : decode cX12_cue 95 = .ok (.aload_n 0, 1) := by decide +kernel
theorem dX12_cue_96 : decode cX12_cue 96 = .ok (.iload_n 3, 1) := by decide +kernel
theorem dX12_cue_97 : decode cX12_cue 97 = .ok (.invokevirtual 105, 3) := by decide +kernel
theorem dX12_cue_100 : decode cX12_cue 100 = .ok (.bipush (-9), 2) := by decide +kernel
theorem dX12_cue_102 : decode cX12_cue 102 = .ok (.if_icmp .eq 7, 3) := by decide +kernel
