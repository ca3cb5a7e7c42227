theorem dX12_cue_105 : decode cX12_cue 105 = .ok (.iconst 1, 1) := by decide +kernel
theorem dX12_cue_106 : decode cX12_cue 106 = .ok (.goto 4, 3) := by decide +kernel
theorem dX12_cue_109 : decode cX12_cue 109 = .ok (.iconst 0, 1) := by decide +kernel
theorem dX12_cue_110 : decode cX12_cue 110 = .ok (.istore 4, 2) := by decide +kernel
theorem dX12_cue_112 : decode cX12_cue 112 = .ok (.iload 4, 2) := by decide +kernel
theorem dX12_cue_114 : decode cX12_cue 114 = .ok (.ifCond .eq 38, 3) := by decide +kernel
theorem dX12_cue_117 : decode cX12_cue 117 = .ok (.aload_n 0, 1) := by decide +kernel
theorem dX12_cue_118 : decode cX12_cue 118 = .ok (.iload_n 3, 1) := by decide +kernel
theorem dX12_cue_119 : decode cX12_cue 119 = .ok (.invokevirtual 105, 3) := by decide +kernel
theorem dX12_cue_122 : decode cX12_cue 122 = .ok (.aload_n 0, 1) := by decide +kernel
theorem dX12_cue_123 : decode cX12_cue 123 = .ok (.getfield 19, 3) := by decide +kernel
theorem dX12_cue_126 : decode cX12_cue 126 = .ok (.iconst 1, 1) := by decide +kernel
theorem dX12_cue_127 : decode cX12_cue 127 = .ok (.iaload, 1) := by decide +kernel
theorem dX12_cue_128 : decode cX12_cue 128 = .ok (.invokestatic 128, 3) := by decide +kernel
theorem dX12_cue_131 : decode cX12_cue 131 = .ok (.iload_n 2, 1) := by decide +kernel
theorem dX12_cue_132 : decode cX12_cue 132 = .ok (.aload_n 0, 1) := by decide +kernel
theorem dX12_cue_133 : decode cX12_cue 133 = .ok (.getfield 19, 3) := by decide +kernel
theorem dX12_cue_136 : decode cX12_cue 136 = .ok (.iconst 1, 1) := by decide +kernel
theorem dX12_cue_137 : decode cX12_cue 137 = .ok (.iaload, 1) := by decide +kernel
theorem dX12_cue_138 : decode cX12_cue 138 = .ok (.invokestatic 128, 3) := by decide +kernel
theorem dX12_cue_141 : decode cX12_cue 141 = .ok (.if_icmp .ge 11, 3) := by decide +kernel
theorem dX12_cue_144 : decode cX12_cue 144 = .ok (.aload_n 0, 1) := by decide +kernel
theorem dX12_cue_145 : decode cX12_cue 145 = .ok (.iload_n 3, 1) := by decide +kernel
theorem dX12_cue_146 : decode cX12_cue 146 = .ok (.invokevirtual 105, 3) := by decide +kernel
theorem dX12_cue_149 : decode cX12_cue 149 = .ok (.goto 4, 3) := by decide +kernel
theorem dX12_cue_152 : decode cX12_cue 152 = .ok (.iload_n 2, 1) := by decide +kernel
theorem dX12_cue_153 : decode cX12_cue 153 = .ok (.istore_n 2, 1) := by decide +kernel
theorem dX12_cue_154 : decode cX12_cue 154 = .ok (.iload 4, 2) := by decide +kernel
theorem dX12_cue_156 : decode cX12_cue 156 = .ok (.ifCond .eq 47, 3) := by decide +kernel
theorem dX12_cue_159 : decode cX12_cue 159 = .ok (.aload_n 0, 1) := by decide +kernel
theorem dX12_cue_160 : decode cX12_cue 160 = .ok (.iload_n 3, 1) := by decide +kernel
theorem dX12_cue_161 : decode cX12_cue 161 = .ok (.invokevirtual 105, 3) := by decide +kernel
theorem dX12_cue_164 : decode cX12_cue 164 = .ok (.aload_n 0, 1) := by decide +kernel
theorem dX12_cue_165 : decode cX12_cue 165 = .ok (.getfield 19, 3) := by decide +kernel
theorem dX12_cue_168 : decode cX12_cue 168 = .ok (.iconst 1, 1) := by decide +kernel
theorem dX12_cue_169 : decode cX12_cue 169 = .ok (.iaload, 1) := by decide +kernel
theorem dX12_cue_170 : decode cX12_cue 170 = .ok (.invokestatic 128, 3) := by decide +kernel
theorem dX12_cue_173 : decode cX12_cue 173 = .ok (.iload_n 2, 1) := by decide +kernel
theorem dX12_cue_174 : decode cX12_cue 174 = .ok (.aload_n 0, 1) := by decide +kernel
theorem dX12_cue_175 : decode cX12_cue 175 = .ok (.getfield 19, 3) := by decide +kernel
theorem dX12_cue_178 : decode cX12_cue 178 = .ok (.iconst 1, 1) := by decide +kernel
theorem dX12_cue_179 : decode cX12_cue 179 = .ok (.iaload, 1) := by decide +kernel
theorem dX12_cue_180 : decode cX12_cue 180 = .ok (.invokestatic 128, 3) := by decide +kernel
theorem dX12_cue_183 : decode cX12_cue 183 = .ok (.if_icmp .ne 20, 3) := by decide +kernel
theorem dX12_cue_186 : decode cX12_cue 186 = .ok (.aload_n 0, 1) := by decide +kernel
theorem dX12_cue_187 : decode cX12_cue 187 = .ok (.iload_n 3, 1) := by decide +kernel
theorem dX12_cue_188 : decode cX12_cue 188 = .ok (.invokevirtual 105, 3) := by decide +kernel
theorem dX12_cue_191 : decode cX12_cue 191 = .ok (.iload_n 2, 1) := by decide +kernel
theorem dX12_cue_192 : decode cX12_cue 192 = .ok (.if_icmp .ge 11, 3) := by decide +kernel
theorem dX12_cue_195 : decode cX12_cue 195 = .ok (.aload_n 0, 1) := by decide +kernel
theorem dX12_cue_196 : decode cX12_cue 196 = .ok (.iload_n 3, 1) := by decide +kernel
theorem dX12_cue_197 : decode cX12_cue 197 = .ok (.invokevirtual 105, 3) := by decide +kernel
theorem dX12_cue_200 : decode cX12_cue 200 = .ok (.goto 4, 3) := by decide +kernel
theorem dX12_cue_203 : decode cX12_cue 203 = .ok (.iload_n 2, 1) := by decide +kernel
theorem dX12_cue_204 : decode cX12_cue 204 = .ok (.istore_n 2, 1) := by decide +kernel
theorem dX12_cue_205 : decode cX12_cue 205 = .ok (.iinc 3 (-1), 3) := by decide +kernel
theorem dX12_cue_208 : decode cX12_cue 208 = .ok (.goto (-138), 3) := by decide +kernel
theorem dX12_cue_211 : decode cX12_cue 211 = .ok (.aload_n 0, 1) := by decide +kernel
theorem dX12_cue_212 : decode cX12_cue 212 = .ok (.getfield 19, 3) := by decide +kernel
theorem dX12_cue_215 : decode cX12_cue 215 = .ok (.iconst 1, 1) := by decide +kernel
theorem dX12_cue_216 : decode cX12_cue 216 = .ok (.iload_n 2, 1) := by decide +kernel
theorem dX12_cue_217 : decode cX12_cue 217 = .ok (.iastore, 1) := by decide +kernel
theorem dX12_cue_218 : decode cX12_cue 218 = .ok (.iload_n 2, 1) := by decide +kernel
theorem dX12_cue_219 : decode cX12_cue 219 = .ok (.ireturn, 1) := by decide +kernel
set_option maxRecDepth 20000 in
theorem ggX12_cuts_X12_isSection : GoodIn wsX12_cuts wsX12_isSection := goodIn_r _ [6, 7, 8, 9, 5, 10, 38, 39, 40, 41, 42, 43, 44, 45, 46, 47, 48, 49, 50, 51, 52, 53, 54, 55] (by decide +kernel) (by decide +kernel)
set_option maxRecDepth 20000 in
theorem gX12_cuts_X12_isSection : GoodIn wsX12_cuts (wsV RX12 111 RX12 yX12_isSection wsX12_isSection) := goodIn_app (goodIn_of _ (by decide +kernel)) ggX12_cuts_X12_isSection
set_option maxRecDepth 20000 in
theorem ggX12_cuts_X12_mayCut : GoodIn wsX12_cuts wsX12_mayCut := goodIn_r _ [14, 1, 7, 15, 16, 5, 17, 18, 19, 20, 21, 22, 23, 24, 25, 26, 27, 28, 29, 38, 39, 40, 41, 42, 43, 44, 45, 46, 47, 48, 49, 50, 51, 52, 53, 54, 55] (by decide +kernel) (by decide +kernel)
set_option maxRecDepth 20000 in
theorem gX12_cuts_X12_mayCut : GoodIn wsX12_cuts (wsV RX12 108 RX12 yX12_mayCut wsX12_mayCut) := goodIn_app (goodIn_of _ (by decide +kernel)) ggX12_cuts_X12_mayCut
set_option maxRecDepth 20000 in
theorem ggX12_cuts_X12_keeps : GoodIn wsX12_cuts wsX12_keeps := goodIn_r _ [33, 1, 38, 39, 40, 41, 42, 43, 44, 45, 46, 47, 48, 49, 50, 51, 52, 53, 54, 55] (by decide +kernel) (by decide +kernel)
set_option maxRecDepth 20000 in
theorem gX12_cuts_X12_keeps : GoodIn wsX12_cuts (wsV RX12 121 RX12 yX12_keeps wsX12_keeps) := goodIn_app (goodIn_of _ (by decide +kernel)) ggX12_cuts_X12_keeps
set_option maxRecDepth 20000 in
theorem ggX12_cuts_X12_length : GoodIn wsX12_cuts wsX12_length := goodIn_r _ [37, 7, 1, 22, 23, 24, 5, 25, 15, 16, 17, 26, 27, 28, 29, 38, 39, 40, 41, 42, 43, 44, 45, 46, 47, 48, 49, 50, 51, 52, 53, 54, 55] (by decide +kernel) (by decide +kernel)
set_option maxRecDepth 20000 in
theorem gX12_cuts_X12_length : GoodIn wsX12_cuts (wsV RX12 117 RX12 yX12_length wsX12_length) := goodIn_app (goodIn_of _ (by decide +kernel)) ggX12_cuts_X12_length
theorem dX12_cuts_0 : decode cX12_cuts 0 = .ok (.aload_n 0, 1) := by decide +kernel
theorem dX12_cuts_1 : decode cX12_cuts 1 = .ok (.iload_n 1, 1) := by decide +kernel
theorem dX12_cuts_2 : decode cX12_cuts 2 = .ok (.invokevirtual 111, 3) := by decide +kernel
theorem dX12_cuts_5 : decode cX12_cuts 5 = .ok (.ifCond .ne 5, 3) := by decide +kernel
theorem dX12_cuts_8 : decode cX12_cuts 8 = .ok (.iconst (-1), 1) := by decide +kernel
theorem dX12_cuts_9 : decode cX12_cuts 9 = .ok (.ireturn, 1) := by decide +kernel
theorem dX12_cuts_10 : decode cX12_cuts 10 = .ok (.aload_n 0, 1) := by decide +kernel
theorem dX12_cuts_11 : decode cX12_cuts 11 = .ok (.iload_n 1, 1) := by decide +kernel
theorem dX12_cuts_12 : decode cX12_cuts 12 = .ok (.invokevirtual 108, 3) := by decide +kernel
theorem dX12_cuts_15 : decode cX12_cuts 15 = .ok (.ifCond .ne 6, 3) := by decide +kernel
theorem dX12_cuts_18 : decode cX12_cuts 18 = .ok (.bipush (-2), 2) := by decide +kernel
theorem dX12_cuts_20 : decode cX12_cuts 20 = .ok (.ireturn, 1) := by decide +kernel
theorem dX12_cuts_21 : decode cX12_cuts 21 = .ok (.aload_n 0, 1) := by decide +kernel
theorem dX12_cuts_22 : decode cX12_cuts 22 = .ok (.invokevirtual 121, 3) := by decide +kernel
theorem dX12_cuts_25 : decode cX12_cuts 25 = .ok (.aload_n 0, 1) := by decide +kernel
theorem dX12_cuts_26 : decode cX12_cuts 26 = .ok (.getfield 19, 3) := by decide +kernel
theorem dX12_cuts_29 : decode cX12_cuts 29 = .ok (.iconst 3, 1) := by decide +kernel
theorem dX12_cuts_30 : decode cX12_cuts 30 = .ok (.dup2, 1) := by decide +kernel
theorem dX12_cuts_31 : decode cX12_cuts 31 = .ok (.iaload, 1) := by decide +kernel
theorem dX12_cuts_32 : decode cX12_cuts 32 = .ok (.iconst 1, 1) := by decide +kernel
theorem dX12_cuts_33 : decode cX12_cuts 33 = .ok (.iload_n 1, 1) := by decide +kernel
theorem dX12_cuts_34 : decode cX12_cuts 34 = .ok (.ishl, 1) := by decide +kernel
theorem dX12_cuts_35 : decode cX12_cuts 35 = .ok (.ior, 1) := by decide +kernel
theorem dX12_cuts_36 : decode cX12_cuts 36 = .ok (.iastore, 1) := by decide +kernel
theorem dX12_cuts_37 : decode cX12_cuts 37 = .ok (.aload_n 0, 1) := by decide +kernel
theorem dX12_cuts_38 : decode cX12_cuts 38 = .ok (.invokevirtual 117, 3) := by decide +kernel
theorem dX12_cuts_41 : decode cX12_cuts 41 = .ok (.ireturn, 1) := by decide +kernel
set_option maxRecDepth 20000 in
theorem ggX12_waits_X12_in : GoodIn wsX12_waits wsX12_in := goodIn_r _ [5] (by decide +kernel) (by decide +kernel)
set_option maxRecDepth 20000 in
theorem gX12_waits_X12_in : GoodIn wsX12_waits (va_wsS RX12 51 yX12_in wsX12_in) := goodIn_app (goodIn_of _ (by decide +kernel)) ggX12_waits_X12_in
set_option maxRecDepth 20000 in
theorem ggX12_waits_X12_keeps : GoodIn wsX12_waits wsX12_keeps := goodIn_r _ [9, 1, 10, 11, 12, 13, 14, 15, 16, 17, 18, 19, 20, 21, 22, 23, 24, 25, 26, 27] (by decide +kernel) (by decide +kernel)
set_option maxRecDepth 20000 in
theorem gX12_waits_X12_keeps : GoodIn wsX12_waits (wsV RX12 121 RX12 yX12_keeps wsX12_keeps) := goodIn_app (goodIn_of _ (by decide +kernel)) ggX12_waits_X12_keeps
theorem dX12_waits_0 : decode cX12_waits 0 = .ok (.iload_n 1, 1) := by decide +kernel
theorem dX12_waits_1 : decode cX12_waits 1 = .ok (.iconst 1, 1) := by decide +kernel
theorem dX12_waits_2 : decode cX12_waits 2 = .ok (.bipush 99, 2) := by decide +kernel
theorem dX12_waits_4 : decode cX12_waits 4 = .ok (.invokestatic 51, 3) := by decide +kernel
theorem dX12_waits_7 : decode cX12_waits 7 = .ok (.ifCond .ne 5, 3) := by decide +kernel
theorem dX12_waits_10 : decode cX12_waits 10 = .ok (.iconst (-1), 1) := by decide +kernel
theorem dX12_waits_11 : decode cX12_waits 11 = .ok (.ireturn, 1) := by decide +kernel
theorem dX12_waits_12 : decode cX12_waits 12 = .ok (.aload_n 0, 1) := by decide +kernel
theorem dX12_waits_13 : decode cX12_waits 13 = .ok (.getfield 19, 3) := by decide +kernel
theorem dX12_waits_16 : decode cX12_waits 16 = .ok (.iconst 2, 1) := by decide +kernel
theorem dX12_waits_17 : decode cX12_waits 17 = .ok (.iaload, 1) := by decide +kernel
theorem dX12_waits_18 : decode cX12_waits 18 = .ok (.iload_n 1, 1) := by decide +kernel
theorem dX12_waits_19 : decode cX12_waits 19 = .ok (.iadd, 1) := by decide +kernel
theorem dX12_waits_20 : decode cX12_waits 20 = .ok (.sipush 999, 3) := by decide +kernel
theorem dX12_waits_23 : decode cX12_waits 23 = .ok (.if_icmp .le 6, 3) := by decide +kernel
theorem dX12_waits_26 : decode cX12_waits 26 = .ok (.bipush (-2), 2) := by decide +kernel
theorem dX12_waits_28 : decode cX12_waits 28 = .ok (.ireturn, 1) := by decide +kernel
theorem dX12_waits_29 : decode cX12_waits 29 = .ok (.aload_n 0, 1) := by decide +kernel
theorem dX12_waits_30 : decode cX12_waits 30 = .ok (.invokevirtual 121, 3) := by decide +kernel
theorem dX12_waits_33 : decode cX12_waits 33 = .ok (.aload_n 0, 1) := by decide +kernel
theorem dX12_waits_34 : decode cX12_waits 34 = .ok (.getfield 19, 3) := by decide +kernel
theorem dX12_waits_37 : decode cX12_waits 37 = .ok (.iconst 2, 1) := by decide +kernel
theorem dX12_waits_38 : decode cX12_waits 38 = .ok (.dup2, 1) := by decide +kernel
theorem dX12_waits_39 : decode cX12_waits 39 = .ok (.iaload, 1) := by decide +kernel
theorem dX12_waits_40 : decode cX12_waits 40 = .ok (.iload_n 1, 1) := by decide +kernel
theorem dX12_waits_41 : decode cX12_waits 41 = .ok (.iadd, 1) := by decide +kernel
theorem dX12_waits_42 : decode cX12_waits 42 = .ok (.iastore, 1) := by decide +kernel
theorem dX12_waits_43 : decode cX12_waits 43 = .ok (.aload_n 0, 1) := by decide +kernel
theorem dX12_waits_44 : decode cX12_waits 44 = .ok (.getfield 19, 3) := by decide +kernel
theorem dX12_waits_47 : decode cX12_waits 47 = .ok (.iconst 2, 1) := by decide +kernel
theorem dX12_waits_48 : decode cX12_waits 48 = .ok (.iaload, 1) := by decide +kernel
theorem dX12_waits_49 : decode cX12_waits 49 = .ok (.ireturn, 1) := by decide +kernel
theorem dX12_undo_0 : decode cX12_undo 0 = .ok (.aload_n 0, 1) := by decide +kernel
theorem dX12_undo_1 : decode cX12_undo 1 = .ok (.getfield 19, 3) := by decide +kernel
theorem dX12_undo_4 : decode cX12_undo 4 = .ok (.iconst 5, 1) := by decide +kernel
theorem dX12_undo_5 : decode cX12_undo 5 = .ok (.iaload, 1) := by decide +kernel
theorem dX12_undo_6 : decode cX12_undo 6 = .ok (.ifCond .ne 6, 3) := by decide +kernel
theorem dX12_undo_9 : decode cX12_undo 9 = .ok (.bipush (-2), 2) := by decide +kernel
theorem dX12_undo_11 : decode cX12_undo 11 = .ok (.ireturn, 1) := by decide +kernel
theorem dX12_undo_12 : decode cX12_undo 12 = .ok (.aload_n 0, 1) := by decide +kernel
theorem dX12_undo_13 : decode cX12_undo 13 = .ok (.getfield 19, 3) := by decide +kernel
theorem dX12_undo_16 : decode cX12_undo 16 = .ok (.iconst 5, 1) := by decide +kernel
theorem dX12_undo_17 : decode cX12_undo 17 = .ok (.dup2, 1) := by decide +kernel
theorem dX12_undo_18 : decode cX12_undo 18 = .ok (.iaload, 1) := by decide +kernel
theorem dX12_undo_19 : decode cX12_undo 19 = .ok (.iconst 1, 1) := by decide +kernel
theorem dX12_undo_20 : decode cX12_undo 20 = .ok (.isub, 1) := by decide +kernel
theorem dX12_undo_21 : decode cX12_undo 21 = .ok (.iastore, 1) := by decide +kernel
theorem dX12_undo_22 : decode cX12_undo 22 = .ok (.iconst 0, 1) := by decide +kernel
theorem dX12_undo_23 : decode cX12_undo 23 = .ok (.istore_n 1, 1) := by decide +kernel
theorem dX12_undo_24 : decode cX12_undo 24 = .ok (.iload_n 1, 1) := by decide +kernel
theorem dX12_undo_25 : decode cX12_undo 25 = .ok (.iconst 5, 1) := by decide +kernel
theorem dX12_undo_26 : decode cX12_undo 26 = .ok (.if_icmp .ge 33, 3) := by decide +kernel
theorem dX12_undo_29 : decode cX12_undo 29 = .ok (.aload_n 0, 1) := by decide +kernel
theorem dX12_undo_30 : decode cX12_undo 30 = .ok (.getfield 19, 3) := by decide +kernel
theorem dX12_undo_33 : decode cX12_undo 33 = .ok (.iload_n 1, 1) := by decide +kernel
theorem dX12_undo_34 : decode cX12_undo 34 = .ok (.aload_n 0, 1) := by decide +kernel
theorem dX12_undo_35 : decode cX12_undo 35 = .ok (.getfield 19, 3) := by decide +kernel
theorem dX12_undo_38 : decode cX12_undo 38 = .ok (.bipush 6, 2) := by decide +kernel
theorem dX12_undo_40 : decode cX12_undo 40 = .ok (.iconst 5, 1) := by decide +kernel
theorem dX12_undo_41 : decode cX12_undo 41 = .ok (.aload_n 0, 1) := by decide +kernel
theorem dX12_undo_42 : decode cX12_undo 42 = .ok (.getfield 19, 3) := by decide +kernel
theorem dX12_undo_45 : decode cX12_undo 45 = .ok (.iconst 5, 1) := by decide +kernel
theorem dX12_undo_46 : decode cX12_undo 46 = .ok (.iaload, 1) := by decide +kernel
theorem dX12_undo_47 : decode cX12_undo 47 = .ok (.imul, 1) := by decide +kernel
theorem dX12_undo_48 : decode cX12_undo 48 = .ok (.iadd, 1) := by decide +kernel
theorem dX12_undo_49 : decode cX12_undo 49 = .ok (.iload_n 1, 1) := by decide +kernel
theorem dX12_undo_50 : decode cX12_undo 50 = .ok (.iadd, 1) := by decide +kernel
theorem dX12_undo_51 : decode cX12_undo 51 = .ok (.iaload, 1) := by decide +kernel
theorem dX12_undo_52 : decode cX12_undo 52 = .ok (.iastore, 1) := by decide +kernel
theorem dX12_undo_53 : decode cX12_undo 53 = .ok (.iinc 1 1, 3) := by decide +kernel
theorem dX12_undo_56 : decode cX12_undo 56 = .ok (.goto (-32), 3) := by decide +kernel
theorem dX12_undo_59 : decode cX12_undo 59 = .ok (.aload_n 0, 1) := by decide +kernel
theorem dX12_undo_60 : decode cX12_undo 60 = .ok (.getfield 19, 3) := by decide +kernel
theorem dX12_undo_63 : decode cX12_undo 63 = .ok (.iconst 5, 1) := by decide +kernel
theorem dX12_undo_64 : decode cX12_undo 64 = .ok (.iaload, 1) := by decide +kernel
theorem dX12_undo_65 : decode cX12_undo 65 = .ok (.ireturn, 1) := by decide +kernel
set_option maxRecDepth 20000 in
theorem ggX12_now_X12_length : GoodIn wsX12_now wsX12_length := goodIn_r _ [8, 1, 2, 9, 10, 11, 7, 12, 13, 14, 15, 16, 17, 18, 19, 36, 37, 38, 39, 40, 41, 42, 43, 44, 45, 46, 47, 48, 49, 50, 51, 52, 53] (by decide +kernel) (by decide +kernel)
set_option maxRecDepth 20000 in
theorem gX12_now_X12_length : GoodIn wsX12_now (wsV RX12 117 RX12 yX12_length wsX12_length) := goodIn_app (goodIn_of _ (by decide +kernel)) ggX12_now_X12_length
set_option maxRecDepth 20000 in
theorem ggX12_now_X12_noteBar : GoodIn wsX12_now wsX12_noteBar := goodIn_r _ [23, 1, 9, 10, 11, 7, 12, 13, 14, 15, 16, 17, 18, 19, 36, 37, 38, 39, 40, 41, 42, 43, 44, 45, 46, 47, 48, 49, 50, 51, 52, 53] (by decide +kernel) (by decide +kernel)
set_option maxRecDepth 20000 in
theorem gX12_now_X12_noteBar : GoodIn wsX12_now (wsV RX12 124 RX12 yX12_noteBar wsX12_noteBar) := goodIn_app (goodIn_of _ (by decide +kernel)) ggX12_now_X12_noteBar
set_option maxRecDepth 20000 in
theorem ggX12_now_X12_allThatMay : GoodIn wsX12_now wsX12_allThatMay := goodIn_r _ [27, 1, 28, 29, 30, 7, 31, 2, 13, 14, 15, 32, 33, 34, 35, 9, 10, 11, 12, 16, 17, 18, 19, 36, 37, 38, 39, 40, 41, 42, 43, 44, 45, 46, 47, 48, 49, 50, 51, 52, 53] (by decide +kernel) (by decide +kernel)
set_option maxRecDepth 20000 in
theorem gX12_now_X12_allThatMay : GoodIn wsX12_now (wsV RX12 131 RX12 yX12_allThatMay wsX12_allThatMay) := goodIn_app (goodIn_of _ (by decide +kernel)) ggX12_now_X12_allThatMay
theorem dX12_now_0 : decode cX12_now 0 = .ok (.aload_n 0, 1) := by decide +kernel
theorem dX12_now_1 : decode cX12_now 1 = .ok (.getfield 13, 3) := by decide +kernel
theorem dX12_now_4 : decode cX12_now 4 = .ok (.iconst 0, 1) := by decide +kernel
theorem dX12_now_5 : decode cX12_now 5 = .ok (.iaload, 1) := by decide +kernel
theorem dX12_now_6 : decode cX12_now 6 = .ok (.ifCond .ne 7, 3) := by decide +kernel
theorem dX12_now_9 : decode cX12_now 9 = .ok (.iconst 1, 1) := by decide +kernel
theorem dX12_now_10 : decode cX12_now 10 = .ok (.goto 4, 3) := by decide +kernel
theorem dX12_now_13 : decode cX12_now 13 = .ok (.iconst 0, 1) := by decide +kernel
theorem dX12_now_14 : decode cX12_now 14 = .ok (.istore_n 2, 1) := by decide +kernel
theorem dX12_now_15 : decode cX12_now 15 = .ok (.iload_n 1, 1) := by decide +kernel
theorem dX12_now_16 : decode cX12_now 16 = .ok (.tableswitch 136 0 8 #[52, 52, 52, 52, 52, 59, 64, 84, 111], 52) := by decide +kernel
theorem dX12_now_68 : decode cX12_now 68 = .ok (.aload_n 0, 1) := by decide +kernel
theorem dX12_now_69 : decode cX12_now 69 = .ok (.getfield 19, 3) := by decide +kernel
theorem dX12_now_72 : decode cX12_now 72 = .ok (.iload_n 1, 1) := by decide +kernel
theorem dX12_now_73 : decode cX12_now 73 = .ok (.iaload, 1) := by decide +kernel
theorem dX12_now_74 : decode cX12_now 74 = .ok (.ireturn, 1) := by decide +kernel
theorem dX12_now_75 : decode cX12_now 75 = .ok (.aload_n 0, 1) := by decide +kernel
theorem dX12_now_76 : decode cX12_now 76 = .ok (.invokevirtual 117, 3) := by decide +kernel
theorem dX12_now_79 : decode cX12_now 79 = .ok (.ireturn, 1) := by decide +kernel
theorem dX12_now_80 : decode cX12_now 80 = .ok (.iload_n 2, 1) := by decide +kernel
theorem dX12_now_81 : decode cX12_now 81 = .ok (.ifCond .eq 8, 3) := by decide +kernel
theorem dX12_now_84 : decode cX12_now 84 = .ok (.bipush (-9), 2) := by decide +kernel
theorem dX12_now_86 : decode cX12_now 86 = .ok (.goto 13, 3) := by decide +kernel
theorem dX12_now_89 : decode cX12_now 89 = .ok (.aload_n 0, 1) := by decide +kernel
theorem dX12_now_90 : decode cX12_now 90 = .ok (.aload_n 0, 1) := by decide +kernel
theorem dX12_now_91 : decode cX12_now 91 = .ok (.getfield 19, 3) := by decide +kernel
theorem dX12_now_94 : decode cX12_now 94 = .ok (.iconst 3, 1) := by decide +kernel
theorem dX12_now_95 : decode cX12_now 95 = .ok (.iaload, 1) := by decide +kernel
theorem dX12_now_96 : decode cX12_now 96 = .ok (.invokevirtual 124, 3) := by decide +kernel
theorem dX12_now_99 : decode cX12_now 99 = .ok (.ireturn, 1) := by decide +kernel
theorem dX12_now_100 : decode cX12_now 100 = .ok (.iload_n 2, 1) := by decide +kernel
theorem dX12_now_101 : decode cX12_now 101 = .ok (.ifCond .eq 8, 3) := by decide +kernel
theorem dX12_now_104 : decode cX12_now 104 = .ok (.ldc 127, 2) := by decide +kernel
theorem dX12_now_106 : decode cX12_now 106 = .ok (.goto 20, 3) := by decide +kernel
theorem dX12_now_109 : decode cX12_now 109 = .ok (.aload_n 0, 1) := by decide +kernel
theorem dX12_now_110 : decode cX12_now 110 = .ok (.aload_n 0, 1) := by decide +kernel
theorem dX12_now_111 : decode cX12_now 111 = .ok (.getfield 19, 3) := by decide +kernel
theorem dX12_now_114 : decode cX12_now 114 = .ok (.iconst 3, 1) := by decide +kernel
theorem dX12_now_115 : decode cX12_now 115 = .ok (.iaload, 1) := by decide +kernel
theorem dX12_now_116 : decode cX12_now 116 = .ok (.invokevirtual 124, 3) := by decide +kernel
theorem dX12_now_119 : decode cX12_now 119 = .ok (.aload_n 0, 1) := by decide +kernel
theorem dX12_now_120 : decode cX12_now 120 = .ok (.getfield 19, 3) := by decide +kernel
theorem dX12_now_123 : decode cX12_now 123 = .ok (.iconst 0, 1) := by decide +kernel
theorem dX12_now_124 : decode cX12_now 124 = .ok (.iaload, 1) := by decide +kernel
theorem dX12_now_125 : decode cX12_now 125 = .ok (.isub, 1) := by decide +kernel
theorem dX12_now_126 : decode cX12_now 126 = .ok (.ireturn, 1) := by decide +kernel
theorem dX12_now_127 : decode cX12_now 127 = .ok (.iload_n 2, 1) := by decide +kernel
theorem dX12_now_128 : decode cX12_now 128 = .ok (.ifCond .eq 8, 3) := by decide +kernel
theorem dX12_now_131 : decode cX12_now 131 = .ok (.bipush (-9), 2) := by decide +kernel
theorem dX12_now_133 : decode cX12_now 133 = .ok (.goto 18, 3) := by decide +kernel
theorem dX12_now_136 : decode cX12_now 136 = .ok (.aload_n 0, 1) := by decide +kernel
theorem dX12_now_137 : decode cX12_now 137 = .ok (.aload_n 0, 1) := by decide +kernel
theorem dX12_now_138 : decode cX12_now 138 = .ok (.getfield 19, 3) := by decide +kernel
theorem dX12_now_141 : decode cX12_now 141 = .ok (.iconst 3, 1) := by decide +kernel
theorem dX12_now_142 : decode cX12_now 142 = .ok (.iaload, 1) := by decide +kernel
theorem dX12_now_143 : decode cX12_now 143 = .ok (.aload_n 0, 1) := by decide +kernel
theorem dX12_now_144 : decode cX12_now 144 = .ok (.invokevirtual 131, 3) := by decide +kernel
theorem dX12_now_147 : decode cX12_now 147 = .ok (.ior, 1) := by decide +kernel
theorem dX12_now_148 : decode cX12_now 148 = .ok (.invokevirtual 124, 3) := by decide +kernel
theorem dX12_now_151 : decode cX12_now 151 = .ok (.ireturn, 1) := by decide +kernel
theorem dX12_now_152 : decode cX12_now 152 = .ok (.ldc 127, 2) := by decide +kernel
theorem dX12_now_154 : decode cX12_now 154 = .ok (.ireturn, 1) := by decide +kernel
set_option maxRecDepth 20000 in
theorem ggX12_trim_X12_in : GoodIn wsX12_trim wsX12_in := goodIn_r _ [6] (by decide +kernel) (by decide +kernel)
set_option maxRecDepth 20000 in
theorem gX12_trim_X12_in : GoodIn wsX12_trim (va_wsS RX12 51 yX12_in wsX12_in) := goodIn_app (goodIn_of _ (by decide +kernel)) ggX12_trim_X12_in
set_option maxRecDepth 20000 in
theorem ggX12_trim_X12_allThatMay : GoodIn wsX12_trim wsX12_allThatMay := goodIn_r _ [10, 1, 11, 12, 13, 5, 14, 2, 15, 16, 17, 18, 19, 20, 21, 22, 23, 24, 25, 26, 27, 28, 29, 37, 38, 39, 40, 41, 42, 43, 44, 45, 46, 47, 48, 49, 50, 51, 52, 53, 54] (by decide +kernel) (by decide +kernel)
set_option maxRecDepth 20000 in
theorem gX12_trim_X12_allThatMay : GoodIn wsX12_trim (wsV RX12 131 RX12 yX12_allThatMay wsX12_allThatMay) := goodIn_app (goodIn_of _ (by decide +kernel)) ggX12_trim_X12_allThatMay
set_option maxRecDepth 20000 in
theorem ggX12_trim_X12_noteBar : GoodIn wsX12_trim wsX12_noteBar := goodIn_r _ [33, 1, 22, 23, 24, 5, 25, 15, 16, 17, 26, 27, 28, 29, 37, 38, 39, 40, 41, 42, 43, 44, 45, 46, 47, 48, 49, 50, 51, 52, 53, 54] (by decide +kernel) (by decide +kernel)
set_option maxRecDepth 20000 in
theorem gX12_trim_X12_noteBar : GoodIn wsX12_trim (wsV RX12 124 RX12 yX12_noteBar wsX12_noteBar) := goodIn_app (goodIn_of _ (by decide +kernel)) ggX12_trim_X12_noteBar
set_option maxRecDepth 20000 in
theorem ggX12_trim_X12_ones : GoodIn wsX12_trim wsX12_ones := goodIn_r _ [36] (by decide +kernel) (by decide +kernel)
set_option maxRecDepth 20000 in
theorem gX12_trim_X12_ones : GoodIn wsX12_trim (va_wsS RX12 134 yX12_ones wsX12_ones) := goodIn_app (goodIn_of _ (by decide +kernel)) ggX12_trim_X12_ones
theorem dX12_trim_0 : decode cX12_trim 0 = .ok (.iload_n 1, 1) := by decide +kernel
theorem dX12_trim_1 : decode cX12_trim 1 = .ok (.iconst 0, 1) := by decide +kernel
theorem dX12_trim_2 : decode cX12_trim 2 = .ok (.sipush 999, 3) := by decide +kernel
theorem dX12_trim_5 : decode cX12_trim 5 = .ok (.invokestatic 51, 3) := by decide +kernel
theorem dX12_trim_8 : decode cX12_trim 8 = .ok (.ifCond .ne 5, 3) := by decide +kernel
theorem dX12_trim_11 : decode cX12_trim 11 = .ok (.iconst (-1), 1) := by decide +kernel
theorem dX12_trim_12 : decode cX12_trim 12 = .ok (.ireturn, 1) := by decide +kernel
theorem dX12_trim_13 : decode cX12_trim 13 = .ok (.aload_n 0, 1) := by decide +kernel
theorem dX12_trim_14 : decode cX12_trim 14 = .ok (.invokevirtual 131, 3) := by decide +kernel
theorem dX12_trim_17 : decode cX12_trim 17 = .ok (.istore_n 2, 1) := by decide +kernel
theorem dX12_trim_18 : decode cX12_trim 18 = .ok (.bipush (-9), 2) := by decide +kernel
theorem dX12_trim_20 : decode cX12_trim 20 = .ok (.istore_n 3, 1) := by decide +kernel
theorem dX12_trim_21 : decode cX12_trim 21 = .ok (.iconst 0, 1) := by decide +kernel
theorem dX12_trim_22 : decode cX12_trim 22 = .ok (.istore 4, 2) := by decide +kernel
theorem dX12_trim_24 : decode cX12_trim 24 = .ok (.iload 4, 2) := by decide +kernel
theorem dX12_trim_26 : decode cX12_trim 26 = .ok (.iconst 1, 1) := by decide +kernel
theorem dX12_trim_27 : decode cX12_trim 27 = .ok (.aload_n 0, 1) := by decide +kernel
theorem dX12_trim_28 : decode cX12_trim 28 = .ok (.getfield 13, 3) := by decide +kernel
theorem dX12_trim_31 : decode cX12_trim 31 = .ok (.iconst 0, 1) := by decide +kernel
theorem dX12_trim_32 : decode cX12_trim 32 = .ok (.iaload, 1) := by decide +kernel
theorem dX12_trim_33 : decode cX12_trim 33 = .ok (.ishl, 1) := by decide +kernel
theorem dX12_trim_34 : decode cX12_trim 34 = .ok (.if_icmp .ge 81, 3) := by decide +kernel
theorem dX12_trim_37 : decode cX12_trim 37 = .ok (.aload_n 0, 1) := by decide +kernel
theorem dX12_trim_38 : decode cX12_trim 38 = .ok (.getfield 13, 3) := by decide +kernel
theorem dX12_trim_41 : decode cX12_trim 41 = .ok (.iconst 0, 1) := by decide +kernel
theorem dX12_trim_42 : decode cX12_trim 42 = .ok (.iaload, 1) := by decide +kernel
theorem dX12_trim_43 : decode cX12_trim 43 = .ok (.ifCond .le 72, 3) := by decide +kernel
theorem dX12_trim_46 : decode cX12_trim 46 = .ok (.iload 4, 2) := by decide +kernel
theorem dX12_trim_48 : decode cX12_trim 48 = .ok (.iload_n 2, 1) := by decide +kernel
theorem dX12_trim_49 : decode cX12_trim 49 = .ok (.iconst (-1), 1) := by decide +kernel
theorem dX12_trim_50 : decode cX12_trim 50 = .ok (.ixor, 1) := by decide +kernel
theorem dX12_trim_51 : decode cX12_trim 51 = .ok (.iand, 1) := by decide +kernel
theorem dX12_trim_52 : decode cX12_trim 52 = .ok (.ifCond .ne 24, 3) := by decide +kernel
theorem dX12_trim_55 : decode cX12_trim 55 = .ok (.aload_n 0, 1) := by decide +kernel
theorem dX12_trim_56 : decode cX12_trim 56 = .ok (.aload_n 0, 1) := by decide +kernel
theorem dX12_trim_57 : decode cX12_trim 57 = .ok (.getfield 19, 3) := by decide +kernel
theorem dX12_trim_60 : decode cX12_trim 60 = .ok (.iconst 3, 1) := by decide +kernel
theorem dX12_trim_61 : decode cX12_trim 61 = .ok (.iaload, 1) := by decide +kernel
theorem dX12_trim_62 : decode cX12_trim 62 = .ok (.iload 4, 2) := by decide +kernel
theorem dX12_trim_64 : decode cX12_trim 64 = .ok (.ior, 1) := by decide +kernel
theorem dX12_trim_65 : decode cX12_trim 65 = .ok (.invokevirtual 124, 3) := by decide +kernel
theorem dX12_trim_68 : decode cX12_trim 68 = .ok (.iload_n 1, 1) := by decide +kernel
theorem dX12_trim_69 : decode cX12_trim 69 = .ok (.if_icmp .ne 7, 3) := by decide +kernel
theorem dX12_trim_72 : decode cX12_trim 72 = .ok (.iconst 1, 1) := by decide +kernel
theorem dX12_trim_73 : decode cX12_trim 73 = .ok (.goto 4, 3) := by decide +kernel
theorem dX12_trim_76 : decode cX12_trim 76 = .ok (.iconst 0, 1) := by decide +kernel
theorem dX12_trim_77 : decode cX12_trim 77 = .ok (.istore 5, 2) := by decide +kernel
theorem dX12_trim_79 : decode cX12_trim 79 = .ok (.iload 5, 2) := by decide +kernel
theorem dX12_trim_81 : decode cX12_trim 81 = .ok (.ifCond .eq 26, 3) := by decide +kernel
theorem dX12_trim_84 : decode cX12_trim 84 = .ok (.iload_n 3, 1) := by decide +kernel
theorem dX12_trim_85 : decode cX12_trim 85 = .ok (.bipush (-9), 2) := by decide +kernel
theorem dX12_trim_87 : decode cX12_trim 87 = .ok (.if_icmp .eq 15, 3) := by decide +kernel
theorem dX12_trim_90 : decode cX12_trim 90 = .ok (.iload 4, 2) := by decide +kernel
theorem dX12_trim_92 : decode cX12_trim 92 = .ok (.invokestatic 134, 3) := by decide +kernel
theorem dX12_trim_95 : decode cX12_trim 95 = .ok (.iload_n 3, 1) := by decide +kernel
theorem dX12_trim_96 : decode cX12_trim 96 = .ok (.invokestatic 134, 3) := by decide +kernel
theorem dX12_trim_99 : decode cX12_trim 99 = .ok (.if_icmp .ge 8, 3) := by decide +kernel
theorem dX12_trim_102 : decode cX12_trim 102 = .ok (.iload 4, 2) := by decide +kernel
theorem dX12_trim_104 : decode cX12_trim 104 = .ok (.goto 4, 3) := by decide +kernel
theorem dX12_trim_107 : decode cX12_trim 107 = .ok (.iload_n 3, 1) := by decide +kernel
theorem dX12_trim_108 : decode cX12_trim 108 = .ok (.istore_n 3, 1) := by decide +kernel
theorem dX12_trim_109 : decode cX12_trim 109 = .ok (.iinc 4 1, 3) := by decide +kernel
theorem dX12_trim_112 : decode cX12_trim 112 = .ok (.goto (-88), 3) := by decide +kernel
theorem dX12_trim_115 : decode cX12_trim 115 = .ok (.iload_n 3, 1) := by decide +kernel
theorem dX12_trim_116 : decode cX12_trim 116 = .ok (.ireturn, 1) := by decide +kernel
set_option maxRecDepth 20000 in
theorem ggX12_odds_X12_in : GoodIn wsX12_odds wsX12_in := goodIn_r _ [6] (by decide +kernel) (by decide +kernel)
set_option maxRecDepth 20000 in
theorem gX12_odds_X12_in : GoodIn wsX12_odds (va_wsS RX12 51 yX12_in wsX12_in) := goodIn_app (goodIn_of _ (by decide +kernel)) ggX12_odds_X12_in
set_option maxRecDepth 20000 in
theorem ggX12_odds_X12_allThatMay : GoodIn wsX12_odds wsX12_allThatMay := goodIn_r _ [10, 1, 11, 12, 13, 5, 14, 2, 15, 16, 17, 18, 19, 20, 21, 22, 23, 24, 25, 26, 27, 28, 29, 34, 35, 36, 37, 38, 39, 40, 41, 42, 43, 44, 45, 46, 47, 48, 49, 50, 51] (by decide +kernel) (by decide +kernel)
set_option maxRecDepth 20000 in
theorem gX12_odds_X12_allThatMay : GoodIn wsX12_odds (wsV RX12 131 RX12 yX12_allThatMay wsX12_allThatMay) := goodIn_app (goodIn_of _ (by decide +kernel)) ggX12_odds_X12_allThatMay
set_option maxRecDepth 20000 in
theorem ggX12_odds_X12_has : GoodIn wsX12_odds wsX12_has := goodIn_r _ [17] (by decide +kernel) (by decide +kernel)
set_option maxRecDepth 20000 in
theorem gX12_odds_X12_has : GoodIn wsX12_odds (va_wsS RX12 94 yX12_has wsX12_has) := goodIn_app (goodIn_of _ (by decide +kernel)) ggX12_odds_X12_has
set_option maxRecDepth 20000 in
theorem ggX12_odds_X12_noteBar : GoodIn wsX12_odds wsX12_noteBar := goodIn_r _ [33, 1, 22, 23, 24, 5, 25, 15, 16, 17, 26, 27, 28, 29, 34, 35, 36, 37, 38, 39, 40, 41, 42, 43, 44, 45, 46, 47, 48, 49, 50, 51] (by decide +kernel) (by decide +kernel)
set_option maxRecDepth 20000 in
theorem gX12_odds_X12_noteBar : GoodIn wsX12_odds (wsV RX12 124 RX12 yX12_noteBar wsX12_noteBar) := goodIn_app (goodIn_of _ (by decide +kernel)) ggX12_odds_X12_noteBar
theorem dX12_odds_0 : decode cX12_odds 0 = .ok (.iload_n 1, 1) := by decide +kernel
theorem dX12_odds_1 : decode cX12_odds 1 = .ok (.iconst 0, 1) := by decide +kernel
theorem dX12_odds_2 : decode cX12_odds 2 = .ok (.bipush 10, 2) := by decide +kernel
theorem dX12_odds_4 : decode cX12_odds 4 = .ok (.invokestatic 51, 3) := by decide +kernel
theorem dX12_odds_7 : decode cX12_odds 7 = .ok (.ifCond .eq 23, 3) := by decide +kernel
theorem dX12_odds_10 : decode cX12_odds 10 = .ok (.iload_n 2, 1) := by decide +kernel
theorem dX12_odds_11 : decode cX12_odds 11 = .ok (.iconst 0, 1) := by decide +kernel
theorem dX12_odds_12 : decode cX12_odds 12 = .ok (.sipush 999, 3) := by decide +kernel
theorem dX12_odds_15 : decode cX12_odds 15 = .ok (.invokestatic 51, 3) := by decide +kernel
theorem dX12_odds_18 : decode cX12_odds 18 = .ok (.ifCond .eq 12, 3) := by decide +kernel
theorem dX12_odds_21 : decode cX12_odds 21 = .ok (.iload_n 3, 1) := by decide +kernel
theorem dX12_odds_22 : decode cX12_odds 22 = .ok (.iconst 0, 1) := by decide +kernel
theorem dX12_odds_23 : decode cX12_odds 23 = .ok (.iconst 1, 1) := by decide +kernel
theorem dX12_odds_24 : decode cX12_odds 24 = .ok (.invokestatic 51, 3) := by decide +kernel
theorem dX12_odds_27 : decode cX12_odds 27 = .ok (.ifCond .ne 5, 3) := by decide +kernel
theorem dX12_odds_30 : decode cX12_odds 30 = .ok (.iconst (-1), 1) := by decide +kernel
theorem dX12_odds_31 : decode cX12_odds 31 = .ok (.ireturn, 1) := by decide +kernel
theorem dX12_odds_32 : decode cX12_odds 32 = .ok (.aload_n 0, 1) := by decide +kernel
theorem dX12_odds_33 : decode cX12_odds 33 = .ok (.invokevirtual 131, 3) := by decide +kernel
theorem dX12_odds_36 : decode cX12_odds 36 = .ok (.istore 4, 2) := by decide +kernel
theorem dX12_odds_38 : decode cX12_odds 38 = .ok (.iconst 0, 1) := by decide +kernel
theorem dX12_odds_39 : decode cX12_odds 39 = .ok (.istore 5, 2) := by decide +kernel
theorem dX12_odds_41 : decode cX12_odds 41 = .ok (.iconst 1, 1) := by decide +kernel
theorem dX12_odds_42 : decode cX12_odds 42 = .ok (.istore 6, 2) := by decide +kernel
theorem dX12_odds_44 : decode cX12_odds 44 = .ok (.iconst 0, 1) := by decide +kernel
theorem dX12_odds_45 : decode cX12_odds 45 = .ok (.istore 7, 2) := by decide +kernel
theorem dX12_odds_47 : decode cX12_odds 47 = .ok (.iload 7, 2) := by decide +kernel
theorem dX12_odds_49 : decode cX12_odds 49 = .ok (.aload_n 0, 1) := by decide +kernel
theorem dX12_odds_50 : decode cX12_odds 50 = .ok (.getfield 13, 3) := by decide +kernel
theorem dX12_odds_53 : decode cX12_odds 53 = .ok (.iconst 0, 1) := by decide +kernel
theorem dX12_odds_54 : decode cX12_odds 54 = .ok (.iaload, 1) := by decide +kernel
theorem dX12_odds_55 : decode cX12_odds 55 = .ok (.if_icmp .ge 30, 3) := by decide +kernel
theorem dX12_odds_58 : decode cX12_odds 58 = .ok (.iload 6, 2) := by decide +kernel
theorem dX12_odds_60 : decode cX12_odds 60 = .ok (.iload 4, 2) := by decide +kernel
theorem dX12_odds_62 : decode cX12_odds 62 = .ok (.iload 7, 2) := by decide +kernel
theorem dX12_odds_64 : decode cX12_odds 64 = .ok (.invokestatic 94, 3) := by decide +kernel
theorem dX12_odds_67 : decode cX12_odds 67 = .ok (.ifCond .eq 8, 3) := by decide +kernel
theorem dX12_odds_70 : decode cX12_odds 70 = .ok (.bipush 10, 2) := by decide +kernel
theorem dX12_odds_72 : decode cX12_odds 72 = .ok (.goto 4, 3) := by decide +kernel
theorem dX12_odds_75 : decode cX12_odds 75 = .ok (.iconst 1, 1) := by decide +kernel
theorem dX12_odds_76 : decode cX12_odds 76 = .ok (.imul, 1) := by decide +kernel
theorem dX12_odds_77 : decode cX12_odds 77 = .ok (.istore 6, 2) := by decide +kernel
theorem dX12_odds_79 : decode cX12_odds 79 = .ok (.iinc 7 1, 3) := by decide +kernel
theorem dX12_odds_82 : decode cX12_odds 82 = .ok (.goto (-35), 3) := by decide +kernel
theorem dX12_odds_85 : decode cX12_odds 85 = .ok (.iconst 0, 1) := by decide +kernel
theorem dX12_odds_86 : decode cX12_odds 86 = .ok (.istore 7, 2) := by decide +kernel
theorem dX12_odds_88 : decode cX12_odds 88 = .ok (.iload 7, 2) := by decide +kernel
theorem dX12_odds_90 : decode cX12_odds 90 = .ok (.iconst 1, 1) := by decide +kernel
theorem dX12_odds_91 : decode cX12_odds 91 = .ok (.aload_n 0, 1) := by decide +kernel
theorem dX12_odds_92 : decode cX12_odds 92 = .ok (.getfield 13, 3) := by decide +kernel
theorem dX12_odds_95 : decode cX12_odds 95 = .ok (.iconst 0, 1) := by decide +kernel
theorem dX12_odds_96 : decode cX12_odds 96 = .ok (.iaload, 1) := by decide +kernel
theorem dX12_odds_97 : decode cX12_odds 97 = .ok (.ishl, 1) := by decide +kernel
theorem dX12_odds_98 : decode cX12_odds 98 = .ok (.if_icmp .ge 120, 3) := by decide +kernel
theorem dX12_odds_101 : decode cX12_odds 101 = .ok (.aload_n 0, 1) := by decide +kernel
theorem dX12_odds_102 : decode cX12_odds 102 = .ok (.getfield 13, 3) := by decide +kernel
theorem dX12_odds_105 : decode cX12_odds 105 = .ok (.iconst 0, 1) := by decide +kernel
theorem dX12_odds_106 : decode cX12_odds 106 = .ok (.iaload, 1) := by decide +kernel
theorem dX12_odds_107 : decode cX12_odds 107 = .ok (.ifCond .le 111, 3) := by decide +kernel
theorem dX12_odds_110 : decode cX12_odds 110 = .ok (.iload 7, 2) := by decide +kernel
theorem dX12_odds_112 : decode cX12_odds 112 = .ok (.iload 4, 2) := by decide +kernel
theorem dX12_odds_114 : decode cX12_odds 114 = .ok (.iconst (-1), 1) := by decide +kernel
theorem dX12_odds_115 : decode cX12_odds 115 = .ok (.ixor, 1) := by decide +kernel
theorem dX12_odds_116 : decode cX12_odds 116 = .ok (.iand, 1) := by decide +kernel
theorem dX12_odds_117 : decode cX12_odds 117 = .ok (.ifCond .ne 7, 3) := by decide +kernel
theorem dX12_odds_120 : decode cX12_odds 120 = .ok (.iconst 1, 1) := by decide +kernel
theorem dX12_odds_121 : decode cX12_odds 121 = .ok (.goto 4, 3) := by decide +kernel
theorem dX12_odds_124 : decode cX12_odds 124 = .ok (.iconst 0, 1) := by decide +kernel
theorem dX12_odds_125 : decode cX12_odds 125 = .ok (.istore 8, 2) := by decide +kernel
theorem dX12_odds_127 : decode cX12_odds 127 = .ok (.iconst 0, 1) := by decide +kernel
theorem dX12_odds_128 : decode cX12_odds 128 = .ok (.istore 9, 2) := by decide +kernel
theorem dX12_odds_130 : decode cX12_odds 130 = .ok (.iload 9, 2) := by decide +kernel
theorem dX12_odds_132 : decode cX12_odds 132 = .ok (.aload_n 0, 1) := by decide +kernel
theorem dX12_odds_133 : decode cX12_odds 133 = .ok (.getfield 13, 3) := by decide +kernel
theorem dX12_odds_136 : decode cX12_odds 136 = .ok (.iconst 0, 1) := by decide +kernel
theorem dX12_odds_137 : decode cX12_odds 137 = .ok (.iaload, 1) := by decide +kernel
theorem dX12_odds_138 : decode cX12_odds 138 = .ok (.if_icmp .ge 46, 3) := by decide +kernel
theorem dX12_odds_141 : decode cX12_odds 141 = .ok (.iload 8, 2) := by decide +kernel
theorem dX12_odds_143 : decode cX12_odds 143 = .ok (.iload 4, 2) := by decide +kernel
theorem dX12_odds_145 : decode cX12_odds 145 = .ok (.iload 9, 2) := by decide +kernel
theorem dX12_odds_147 : decode cX12_odds 147 = .ok (.invokestatic 94, 3) := by decide +kernel
theorem dX12_odds_150 : decode cX12_odds 150 = .ok (.ifCond .ne 7, 3) := by decide +kernel
theorem dX12_odds_153 : decode cX12_odds 153 = .ok (.iconst 1, 1) := by decide +kernel
theorem dX12_odds_154 : decode cX12_odds 154 = .ok (.goto 21, 3) := by decide +kernel
theorem dX12_odds_157 : decode cX12_odds 157 = .ok (.iload 7, 2) := by decide +kernel
theorem dX12_odds_159 : decode cX12_odds 159 = .ok (.iload 9, 2) := by decide +kernel
theorem dX12_odds_161 : decode cX12_odds 161 = .ok (.invokestatic 94, 3) := by decide +kernel
theorem dX12_odds_164 : decode cX12_odds 164 = .ok (.ifCond .eq 7, 3) := by decide +kernel
theorem dX12_odds_167 : decode cX12_odds 167 = .ok (.iload_n 1, 1) := by decide +kernel
theorem dX12_odds_168 : decode cX12_odds 168 = .ok (.goto 7, 3) := by decide +kernel
theorem dX12_odds_171 : decode cX12_odds 171 = .ok (.bipush 10, 2) := by decide +kernel
theorem dX12_odds_173 : decode cX12_odds 173 = .ok (.iload_n 1, 1) := by decide +kernel
theorem dX12_odds_174 : decode cX12_odds 174 = .ok (.isub, 1) := by decide +kernel
theorem dX12_odds_175 : decode cX12_odds 175 = .ok (.imul, 1) := by decide +kernel
theorem dX12_odds_176 : decode cX12_odds 176 = .ok (.istore 8, 2) := by decide +kernel
theorem dX12_odds_178 : decode cX12_odds 178 = .ok (.iinc 9 1, 3) := by decide +kernel
theorem dX12_odds_181 : decode cX12_odds 181 = .ok (.goto (-51), 3) := by decide +kernel
theorem dX12_odds_184 : decode cX12_odds 184 = .ok (.iload 5, 2) := by decide +kernel
theorem dX12_odds_186 : decode cX12_odds 186 = .ok (.aload_n 0, 1) := by decide +kernel
theorem dX12_odds_187 : decode cX12_odds 187 = .ok (.aload_n 0, 1) := by decide +kernel
theorem dX12_odds_188 : decode cX12_odds 188 = .ok (.getfield 19, 3) := by decide +kernel
theorem dX12_odds_191 : decode cX12_odds 191 = .ok (.iconst 3, 1) := by decide +kernel
theorem dX12_odds_192 : decode cX12_odds 192 = .ok (.iaload, 1) := by decide +kernel
theorem dX12_odds_193 : decode cX12_odds 193 = .ok (.iload 7, 2) := by decide +kernel
theorem dX12_odds_195 : decode cX12_odds 195 = .ok (.ior, 1) := by decide +kernel
theorem dX12_odds_196 : decode cX12_odds 196 = .ok (.invokevirtual 124, 3) := by decide +kernel
theorem dX12_odds_199 : decode cX12_odds 199 = .ok (.iload_n 2, 1) := by decide +kernel
theorem dX12_odds_200 : decode cX12_odds 200 = .ok (.if_icmp .gt 8, 3) := by decide +kernel
theorem dX12_odds_203 : decode cX12_odds 203 = .ok (.iload 8, 2) := by decide +kernel
theorem dX12_odds_205 : decode cX12_odds 205 = .ok (.goto 4, 3) := by decide +kernel
theorem dX12_odds_208 : decode cX12_odds 208 = .ok (.iconst 0, 1) := by decide +kernel
theorem dX12_odds_209 : decode cX12_odds 209 = .ok (.iadd, 1) := by decide +kernel
theorem dX12_odds_210 : decode cX12_odds 210 = .ok (.istore 5, 2) := by decide +kernel
theorem dX12_odds_212 : decode cX12_odds 212 = .ok (.iinc 7 1, 3) := by decide +kernel
theorem dX12_odds_215 : decode cX12_odds 215 = .ok (.goto (-127), 3) := by decide +kernel
theorem dX12_odds_218 : decode cX12_odds 218 = .ok (.iload 5, 2) := by decide +kernel
theorem dX12_odds_220 : decode cX12_odds 220 = .ok (.istore 7, 2) := by decide +kernel
theorem dX12_odds_222 : decode cX12_odds 222 = .ok (.iload 6, 2) := by decide +kernel
theorem dX12_odds_224 : decode cX12_odds 224 = .ok (.istore 8, 2) := by decide +kernel
theorem dX12_odds_226 : decode cX12_odds 226 = .ok (.iload 8, 2) := by decide +kernel
theorem dX12_odds_228 : decode cX12_odds 228 = .ok (.ifCond .le 21, 3) := by decide +kernel
theorem dX12_odds_231 : decode cX12_odds 231 = .ok (.iload 7, 2) := by decide +kernel
theorem dX12_odds_233 : decode cX12_odds 233 = .ok (.iload 8, 2) := by decide +kernel
theorem dX12_odds_235 : decode cX12_odds 235 = .ok (.irem, 1) := by decide +kernel
theorem dX12_odds_236 : decode cX12_odds 236 = .ok (.istore 9, 2) := by decide +kernel
theorem dX12_odds_238 : decode cX12_odds 238 = .ok (.iload 8, 2) := by decide +kernel
theorem dX12_odds_240 : decode cX12_odds 240 = .ok (.istore 7, 2) := by decide +kernel
theorem dX12_odds_242 : decode cX12_odds 242 = .ok (.iload 9, 2) := by decide +kernel
theorem dX12_odds_244 : decode cX12_odds 244 = .ok (.istore 8, 2) := by decide +kernel
theorem dX12_odds_246 : decode cX12_odds 246 = .ok (.goto (-20), 3) := by decide +kernel
theorem dX12_odds_249 : decode cX12_odds 249 = .ok (.iload_n 3, 1) := by decide +kernel
theorem dX12_odds_250 : decode cX12_odds 250 = .ok (.ifCond .ne 11, 3) := by decide +kernel
theorem dX12_odds_253 : decode cX12_odds 253 = .ok (.iload 5, 2) := by decide +kernel
theorem dX12_odds_255 : decode cX12_odds 255 = .ok (.iload 7, 2) := by decide +kernel
theorem dX12_odds_257 : decode cX12_odds 257 = .ok (.idiv, 1) := by decide +kernel
theorem dX12_odds_258 : decode cX12_odds 258 = .ok (.goto 8, 3) := by decide +kernel
theorem dX12_odds_261 : decode cX12_odds 261 = .ok (.iload 6, 2) := by decide +kernel
theorem dX12_odds_263 : decode cX12_odds 263 = .ok (.iload 7, 2) := by decide +kernel
theorem dX12_odds_265 : decode cX12_odds 265 = .ok (.idiv, 1) := by decide +kernel
theorem dX12_odds_266 : decode cX12_odds 266 = .ok (.ireturn, 1) := by decide +kernel
set_option maxRecDepth 20000 in
theorem ggX12_hears_X12_in : GoodIn wsX12_hears wsX12_in := goodIn_r _ [6] (by decide +kernel) (by decide +kernel)
set_option maxRecDepth 20000 in
theorem gX12_hears_X12_in : GoodIn wsX12_hears (va_wsS RX12 51 yX12_in wsX12_in) := goodIn_app (goodIn_of _ (by decide +kernel)) ggX12_hears_X12_in
theorem dX12_hears_0 : decode cX12_hears 0 = .ok (.iload_n 1, 1) := by decide +kernel
theorem dX12_hears_1 : decode cX12_hears 1 = .ok (.iconst 0, 1) := by decide +kernel
theorem dX12_hears_2 : decode cX12_hears 2 = .ok (.bipush 60, 2) := by decide +kernel
theorem dX12_hears_4 : decode cX12_hears 4 = .ok (.invokestatic 51, 3) := by decide +kernel
theorem dX12_hears_7 : decode cX12_hears 7 = .ok (.ifCond .eq 12, 3) := by decide +kernel
theorem dX12_hears_10 : decode cX12_hears 10 = .ok (.iload_n 2, 1) := by decide +kernel
theorem dX12_hears_11 : decode cX12_hears 11 = .ok (.iconst 0, 1) := by decide +kernel
theorem dX12_hears_12 : decode cX12_hears 12 = .ok (.iconst 3, 1) := by decide +kernel
theorem dX12_hears_13 : decode cX12_hears 13 = .ok (.invokestatic 51, 3) := by decide +kernel
theorem dX12_hears_16 : decode cX12_hears 16 = .ok (.ifCond .ne 5, 3) := by decide +kernel
theorem dX12_hears_19 : decode cX12_hears 19 = .ok (.iconst (-1), 1) := by decide +kernel
theorem dX12_hears_20 : decode cX12_hears 20 = .ok (.ireturn, 1) := by decide +kernel
theorem dX12_hears_21 : decode cX12_hears 21 = .ok (.aload_n 0, 1) := by decide +kernel
theorem dX12_hears_22 : decode cX12_hears 22 = .ok (.getfield 91, 3) := by decide +kernel
theorem dX12_hears_25 : decode cX12_hears 25 = .ok (.iconst 4, 1) := by decide +kernel
theorem dX12_hears_26 : decode cX12_hears 26 = .ok (.if_icmp .ne 6, 3) := by decide +kernel
theorem dX12_hears_29 : decode cX12_hears 29 = .ok (.bipush (-3), 2) := by decide +kernel
theorem dX12_hears_31 : decode cX12_hears 31 = .ok (.ireturn, 1) := by decide +kernel
theorem dX12_hears_32 : decode cX12_hears 32 = .ok (.aload_n 0, 1) := by decide +kernel
theorem dX12_hears_33 : decode cX12_hears 33 = .ok (.getfield 29, 3) := by decide +kernel
theorem dX12_hears_36 : decode cX12_hears 36 = .ok (.iconst 2, 1) := by decide +kernel
theorem dX12_hears_37 : decode cX12_hears 37 = .ok (.aload_n 0, 1) := by decide +kernel
theorem dX12_hears_38 : decode cX12_hears 38 = .ok (.getfield 91, 3) := by decide +kernel
theorem dX12_hears_41 : decode cX12_hears 41 = .ok (.imul, 1) := by decide +kernel
theorem dX12_hears_42 : decode cX12_hears 42 = .ok (.iload_n 1, 1) := by decide +kernel
theorem dX12_hears_43 : decode cX12_hears 43 = .ok (.iastore, 1) := by decide +kernel
theorem dX12_hears_44 : decode cX12_hears 44 = .ok (.aload_n 0, 1) := by decide +kernel
theorem dX12_hears_45 : decode cX12_hears 45 = .ok (.getfield 29, 3) := by decide +kernel
theorem dX12_hears_48 : decode cX12_hears 48 = .ok (.iconst 2, 1) := by decide +kernel
theorem dX12_hears_49 : decode cX12_hears 49 = .ok (.aload_n 0, 1) := by decide +kernel
theorem dX12_hears_50 : decode cX12_hears 50 = .ok (.getfield 91, 3) := by decide +kernel
theorem dX12_hears_53 : decode cX12_hears 53 = .ok (.imul, 1) := by decide +kernel
theorem dX12_hears_54 : decode cX12_hears 54 = .ok (.iconst 1, 1) := by decide +kernel
theorem dX12_hears_55 : decode cX12_hears 55 = .ok (.iadd, 1) := by decide +kernel
theorem dX12_hears_56 : decode cX12_hears 56 = .ok (.iload_n 2, 1) := by decide +kernel
theorem dX12_hears_57 : decode cX12_hears 57 = .ok (.iastore, 1) := by decide +kernel
theorem dX12_hears_58 : decode cX12_hears 58 = .ok (.aload_n 0, 1) := by decide +kernel
theorem dX12_hears_59 : decode cX12_hears 59 = .ok (.dup, 1) := by decide +kernel
theorem dX12_hears_60 : decode cX12_hears 60 = .ok (.getfield 91, 3) := by decide +kernel
theorem dX12_hears_63 : decode cX12_hears 63 = .ok (.iconst 1, 1) := by decide +kernel
theorem dX12_hears_64 : decode cX12_hears 64 = .ok (.iadd, 1) := by decide +kernel
theorem dX12_hears_65 : decode cX12_hears 65 = .ok (.putfield 91, 3) := by decide +kernel
theorem dX12_hears_68 : decode cX12_hears 68 = .ok (.aload_n 0, 1) := by decide +kernel
theorem dX12_hears_69 : decode cX12_hears 69 = .ok (.getfield 91, 3) := by decide +kernel
theorem dX12_hears_72 : decode cX12_hears 72 = .ok (.ireturn, 1) := by decide +kernel
theorem dX12_forget_0 : decode cX12_forget 0 = .ok (.aload_n 0, 1) := by decide +kernel
theorem dX12_forget_1 : decode cX12_forget 1 = .ok (.getfield 91, 3) := by decide +kernel
theorem dX12_forget_4 : decode cX12_forget 4 = .ok (.istore_n 1, 1) := by decide +kernel
theorem dX12_forget_5 : decode cX12_forget 5 = .ok (.aload_n 0, 1) := by decide +kernel
theorem dX12_forget_6 : decode cX12_forget 6 = .ok (.iconst 0, 1) := by decide +kernel
theorem dX12_forget_7 : decode cX12_forget 7 = .ok (.putfield 91, 3) := by decide +kernel
theorem dX12_forget_10 : decode cX12_forget 10 = .ok (.iload_n 1, 1) := by decide +kernel
theorem dX12_forget_11 : decode cX12_forget 11 = .ok (.ireturn, 1) := by decide +kernel
set_option maxRecDepth 20000 in
theorem ggX12_writes_X12_minutes : GoodIn wsX12_writes wsX12_minutes := goodIn_r _ [8, 1, 12, 13, 14, 15, 16, 17, 18, 19, 20, 21, 22, 23, 24, 25, 26, 27, 28, 29] (by decide +kernel) (by decide +kernel)
set_option maxRecDepth 20000 in
theorem gX12_writes_X12_minutes : GoodIn wsX12_writes (wsV RX12 98 RX12 yX12_minutes wsX12_minutes) := goodIn_app (goodIn_of _ (by decide +kernel)) ggX12_writes_X12_minutes
set_option maxRecDepth 20000 in
theorem ggX12_writes_X12_has : GoodIn wsX12_writes wsX12_has := goodIn_r _ [11] (by decide +kernel) (by decide +kernel)
set_option maxRecDepth 20000 in
theorem gX12_writes_X12_has : GoodIn wsX12_writes (va_wsS RX12 94 yX12_has wsX12_has) := goodIn_app (goodIn_of _ (by decide +kernel)) ggX12_writes_X12_has
theorem dX12_writes_0 : decode cX12_writes 0 = .ok (.iconst 0, 1) := by decide +kernel
theorem dX12_writes_1 : decode cX12_writes 1 = .ok (.istore_n 1, 1) := by decide +kernel
theorem dX12_writes_2 : decode cX12_writes 2 = .ok (.iconst 0, 1) := by decide +kernel
theorem dX12_writes_3 : decode cX12_writes 3 = .ok (.istore_n 2, 1) := by decide +kernel
theorem dX12_writes_4 : decode cX12_writes 4 = .ok (.iload_n 2, 1) := by decide +kernel
theorem dX12_writes_5 : decode cX12_writes 5 = .ok (.aload_n 0, 1) := by decide +kernel
theorem dX12_writes_6 : decode cX12_writes 6 = .ok (.getfield 13, 3) := by decide +kernel
theorem dX12_writes_9 : decode cX12_writes 9 = .ok (.iconst 0, 1) := by decide +kernel
theorem dX12_writes_10 : decode cX12_writes 10 = .ok (.iaload, 1) := by decide +kernel
theorem dX12_writes_11 : decode cX12_writes 11 = .ok (.if_icmp .ge 57, 3) := by decide +kernel
theorem dX12_writes_14 : decode cX12_writes 14 = .ok (.iconst 0, 1) := by decide +kernel
theorem dX12_writes_15 : decode cX12_writes 15 = .ok (.istore_n 3, 1) := by decide +kernel
theorem dX12_writes_16 : decode cX12_writes 16 = .ok (.iload_n 3, 1) := by decide +kernel
theorem dX12_writes_17 : decode cX12_writes 17 = .ok (.aload_n 0, 1) := by decide +kernel
theorem dX12_writes_18 : decode cX12_writes 18 = .ok (.iload_n 2, 1) := by decide +kernel
theorem dX12_writes_19 : decode cX12_writes 19 = .ok (.invokevirtual 98, 3) := by decide +kernel
theorem dX12_writes_22 : decode cX12_writes 22 = .ok (.if_icmp .ge 40, 3) := by decide +kernel
theorem dX12_writes_25 : decode cX12_writes 25 = .ok (.aload_n 0, 1) := by decide +kernel
theorem dX12_writes_26 : decode cX12_writes 26 = .ok (.getfield 19, 3) := by decide +kernel
theorem dX12_writes_29 : decode cX12_writes 29 = .ok (.iconst 3, 1) := by decide +kernel
theorem dX12_writes_30 : decode cX12_writes 30 = .ok (.iaload, 1) := by decide +kernel
theorem dX12_writes_31 : decode cX12_writes 31 = .ok (.iload_n 2, 1) := by decide +kernel
theorem dX12_writes_32 : decode cX12_writes 32 = .ok (.invokestatic 94, 3) := by decide +kernel
theorem dX12_writes_35 : decode cX12_writes 35 = .ok (.ifCond .ne 27, 3) := by decide +kernel
theorem dX12_writes_38 : decode cX12_writes 38 = .ok (.aload_n 0, 1) := by decide +kernel
theorem dX12_writes_39 : decode cX12_writes 39 = .ok (.getfield 32, 3) := by decide +kernel
theorem dX12_writes_42 : decode cX12_writes 42 = .ok (.iload_n 1, 1) := by decide +kernel
theorem dX12_writes_43 : decode cX12_writes 43 = .ok (.aload_n 0, 1) := by decide +kernel
theorem dX12_writes_44 : decode cX12_writes 44 = .ok (.getfield 13, 3) := by decide +kernel
theorem dX12_writes_47 : decode cX12_writes 47 = .ok (.bipush 22, 2) := by decide +kernel
theorem dX12_writes_49 : decode cX12_writes 49 = .ok (.iload_n 2, 1) := by decide +kernel
theorem dX12_writes_50 : decode cX12_writes 50 = .ok (.iadd, 1) := by decide +kernel
theorem dX12_writes_51 : decode cX12_writes 51 = .ok (.iaload, 1) := by decide +kernel
theorem dX12_writes_52 : decode cX12_writes 52 = .ok (.iastore, 1) := by decide +kernel
theorem dX12_writes_53 : decode cX12_writes 53 = .ok (.iinc 1 1, 3) := by decide +kernel
theorem dX12_writes_56 : decode cX12_writes 56 = .ok (.iinc 3 1, 3) := by decide +kernel
theorem dX12_writes_59 : decode cX12_writes 59 = .ok (.goto (-43), 3) := by decide +kernel
theorem dX12_writes_62 : decode cX12_writes 62 = .ok (.iinc 2 1, 3) := by decide +kernel
theorem dX12_writes_65 : decode cX12_writes 65 = .ok (.goto (-61), 3) := by decide +kernel
theorem dX12_writes_68 : decode cX12_writes 68 = .ok (.iload_n 1, 1) := by decide +kernel
theorem dX12_writes_69 : decode cX12_writes 69 = .ok (.sipush 1100, 3) := by decide +kernel
theorem dX12_writes_72 : decode cX12_writes 72 = .ok (.if_icmp .ge 16, 3) := by decide +kernel
theorem dX12_writes_75 : decode cX12_writes 75 = .ok (.aload_n 0, 1) := by decide +kernel
theorem dX12_writes_76 : decode cX12_writes 76 = .ok (.getfield 32, 3) := by decide +kernel
theorem dX12_writes_79 : decode cX12_writes 79 = .ok (.iload_n 1, 1) := by decide +kernel
theorem dX12_writes_80 : decode cX12_writes 80 = .ok (.iconst 4, 1) := by decide +kernel
theorem dX12_writes_81 : decode cX12_writes 81 = .ok (.iastore, 1) := by decide +kernel
theorem dX12_writes_82 : decode cX12_writes 82 = .ok (.iinc 1 1, 3) := by decide +kernel
theorem dX12_writes_85 : decode cX12_writes 85 = .ok (.goto (-17), 3) := by decide +kernel
theorem dX12_writes_88 : decode cX12_writes 88 = .ok (.return_, 1) := by decide +kernel
theorem dX12_isSo_0 : decode cX12_isSo 0 = .ok (.iconst 1, 1) := by decide +kernel
theorem dX12_isSo_1 : decode cX12_isSo 1 = .ok (.istore_n 2, 1) := by decide +kernel
theorem dX12_isSo_2 : decode cX12_isSo 2 = .ok (.iconst 0, 1) := by decide +kernel
theorem dX12_isSo_3 : decode cX12_isSo 3 = .ok (.istore_n 3, 1) := by decide +kernel
theorem dX12_isSo_4 : decode cX12_isSo 4 = .ok (.iload_n 3, 1) := by decide +kernel
theorem dX12_isSo_5 : decode cX12_isSo 5 = .ok (.aload_n 0, 1) := by decide +kernel
theorem dX12_isSo_6 : decode cX12_isSo 6 = .ok (.getfield 91, 3) := by decide +kernel
theorem dX12_isSo_9 : decode cX12_isSo 9 = .ok (.if_icmp .ge 47, 3) := by decide +kernel
theorem dX12_isSo_12 : decode cX12_isSo 12 = .ok (.iload_n 2, 1) := by decide +kernel
theorem dX12_isSo_13 : decode cX12_isSo 13 = .ok (.ifCond .eq 35, 3) := by decide +kernel
theorem dX12_isSo_16 : decode cX12_isSo 16 = .ok (.aload_n 0, 1) := by decide +kernel
theorem dX12_isSo_17 : decode cX12_isSo 17 = .ok (.getfield 32, 3) := by decide +kernel
theorem dX12_isSo_20 : decode cX12_isSo 20 = .ok (.iload_n 1, 1) := by decide +kernel
theorem dX12_isSo_21 : decode cX12_isSo 21 = .ok (.aload_n 0, 1) := by decide +kernel
theorem dX12_isSo_22 : decode cX12_isSo 22 = .ok (.getfield 29, 3) := by decide +kernel
theorem dX12_isSo_25 : decode cX12_isSo 25 = .ok (.iconst 2, 1) := by decide +kernel
theorem dX12_isSo_26 : decode cX12_isSo 26 = .ok (.iload_n 3, 1) := by decide +kernel
theorem dX12_isSo_27 : decode cX12_isSo 27 = .ok (.imul, 1) := by decide +kernel
theorem dX12_isSo_28 : decode cX12_isSo 28 = .ok (.iaload, 1) := by decide +kernel
theorem dX12_isSo_29 : decode cX12_isSo 29 = .ok (.iadd, 1) := by decide +kernel
theorem dX12_isSo_30 : decode cX12_isSo 30 = .ok (.iaload, 1) := by decide +kernel
theorem dX12_isSo_31 : decode cX12_isSo 31 = .ok (.aload_n 0, 1) := by decide +kernel
theorem dX12_isSo_32 : decode cX12_isSo 32 = .ok (.getfield 29, 3) := by decide +kernel
theorem dX12_isSo_35 : decode cX12_isSo 35 = .ok (.iconst 2, 1) := by decide +kernel
theorem dX12_isSo_36 : decode cX12_isSo 36 = .ok (.iload_n 3, 1) := by decide +kernel
theorem dX12_isSo_37 : decode cX12_isSo 37 = .ok (.imul, 1) := by decide +kernel
theorem dX12_isSo_38 : decode cX12_isSo 38 = .ok (.iconst 1, 1) := by decide +kernel
theorem dX12_isSo_39 : decode cX12_isSo 39 = .ok (.iadd, 1) := by decide +kernel
theorem dX12_isSo_40 : decode cX12_isSo 40 = .ok (.iaload, 1) := by decide +kernel
theorem dX12_isSo_41 : decode cX12_isSo 41 = .ok (.if_icmp .ne 7, 3) := by decide +kernel
theorem dX12_isSo_44 : decode cX12_isSo 44 = .ok (.iconst 1, 1) := by decide +kernel
theorem dX12_isSo_45 : decode cX12_isSo 45 = .ok (.goto 4, 3) := by decide +kernel
theorem dX12_isSo_48 : decode cX12_isSo 48 = .ok (.iconst 0, 1) := by decide +kernel
theorem dX12_isSo_49 : decode cX12_isSo 49 = .ok (.istore_n 2, 1) := by decide +kernel
theorem dX12_isSo_50 : decode cX12_isSo 50 = .ok (.iinc 3 1, 3) := by decide +kernel
theorem dX12_isSo_53 : decode cX12_isSo 53 = .ok (.goto (-49), 3) := by decide +kernel
theorem dX12_isSo_56 : decode cX12_isSo 56 = .ok (.iload_n 2, 1) := by decide +kernel
theorem dX12_isSo_57 : decode cX12_isSo 57 = .ok (.ireturn, 1) := by decide +kernel
set_option maxRecDepth 20000 in
theorem ggX12_placesBy_X12_writes : GoodIn wsX12_placesBy wsX12_writes := goodIn_r _ [5, 6, 7, 8, 9, 10, 11, 4, 12, 13, 14, 15, 30, 31, 32, 33, 34, 35, 36, 37, 38, 39, 40, 41, 42, 43, 44, 45, 46, 47] (by decide +kernel) (by decide +kernel)
set_option maxRecDepth 20000 in
theorem gX12_placesBy_X12_writes : GoodIn wsX12_placesBy (wsV RX12 137 RX12 yX12_writes wsX12_writes) := goodIn_app (goodIn_of _ (by decide +kernel)) ggX12_placesBy_X12_writes
set_option maxRecDepth 20000 in
theorem ggX12_placesBy_X12_length : GoodIn wsX12_placesBy wsX12_length := goodIn_r _ [19, 6, 7, 20, 21, 22, 4, 23, 13, 14, 15, 9, 10, 11, 12, 30, 31, 32, 33, 34, 35, 36, 37, 38, 39, 40, 41, 42, 43, 44, 45, 46, 47] (by decide +kernel) (by decide +kernel)
set_option maxRecDepth 20000 in
theorem gX12_placesBy_X12_length : GoodIn wsX12_placesBy (wsV RX12 117 RX12 yX12_length wsX12_length) := goodIn_app (goodIn_of _ (by decide +kernel)) ggX12_placesBy_X12_length
set_option maxRecDepth 20000 in
theorem ggX12_placesBy_X12_isSo : GoodIn wsX12_placesBy wsX12_isSo := goodIn_r _ [27, 28, 8, 29, 30, 31, 32, 33, 34, 35, 36, 37, 38, 39, 40, 41, 42, 43, 44, 45, 46, 47] (by decide +kernel) (by decide +kernel)
set_option maxRecDepth 20000 in
theorem gX12_placesBy_X12_isSo : GoodIn wsX12_placesBy (wsV RX12 140 RX12 yX12_isSo wsX12_isSo) := goodIn_app (goodIn_of _ (by decide +kernel)) ggX12_placesBy_X12_isSo
theorem dX12_placesBy_0 : decode cX12_placesBy 0 = .ok (.aload_n 0, 1) := by decide +kernel
theorem dX12_placesBy_1 : decode cX12_placesBy 1 = .ok (.invokevirtual 137, 3) := by decide +kernel
theorem dX12_placesBy_4 : decode cX12_placesBy 4 = .ok (.iconst 0, 1) := by decide +kernel
theorem dX12_placesBy_5 : decode cX12_placesBy 5 = .ok (.istore_n 2, 1) := by decide +kernel
theorem dX12_placesBy_6 : decode cX12_placesBy 6 = .ok (.bipush (-9), 2) := by decide +kernel
theorem dX12_placesBy_8 : decode cX12_placesBy 8 = .ok (.istore_n 3, 1) := by decide +kernel
theorem dX12_placesBy_9 : decode cX12_placesBy 9 = .ok (.aload_n 0, 1) := by decide +kernel
theorem dX12_placesBy_10 : decode cX12_placesBy 10 = .ok (.invokevirtual 117, 3) := by decide +kernel
theorem dX12_placesBy_13 : decode cX12_placesBy 13 = .ok (.istore 4, 2) := by decide +kernel
theorem dX12_placesBy_15 : decode cX12_placesBy 15 = .ok (.iconst 0, 1) := by decide +kernel
theorem dX12_placesBy_16 : decode cX12_placesBy 16 = .ok (.istore 5, 2) := by decide +kernel
theorem dX12_placesBy_18 : decode cX12_placesBy 18 = .ok (.iload 5, 2) := by decide +kernel
theorem dX12_placesBy_20 : decode cX12_placesBy 20 = .ok (.iload 4, 2) := by decide +kernel
theorem dX12_placesBy_22 : decode cX12_placesBy 22 = .ok (.if_icmp .ge 33, 3) := by decide +kernel
theorem dX12_placesBy_25 : decode cX12_placesBy 25 = .ok (.aload_n 0, 1) := by decide +kernel
theorem dX12_placesBy_26 : decode cX12_placesBy 26 = .ok (.iload 5, 2) := by decide +kernel
theorem dX12_placesBy_28 : decode cX12_placesBy 28 = .ok (.invokevirtual 140, 3) := by decide +kernel
theorem dX12_placesBy_31 : decode cX12_placesBy 31 = .ok (.ifCond .eq 18, 3) := by decide +kernel
theorem dX12_placesBy_34 : decode cX12_placesBy 34 = .ok (.iload_n 2, 1) := by decide +kernel
theorem dX12_placesBy_35 : decode cX12_placesBy 35 = .ok (.iload_n 1, 1) := by decide +kernel
theorem dX12_placesBy_36 : decode cX12_placesBy 36 = .ok (.if_icmp .ne 8, 3) := by decide +kernel
theorem dX12_placesBy_39 : decode cX12_placesBy 39 = .ok (.iload 5, 2) := by decide +kernel
theorem dX12_placesBy_41 : decode cX12_placesBy 41 = .ok (.goto 4, 3) := by decide +kernel
theorem dX12_placesBy_44 : decode cX12_placesBy 44 = .ok (.iload_n 3, 1) := by decide +kernel
theorem dX12_placesBy_45 : decode cX12_placesBy 45 = .ok (.istore_n 3, 1) := by decide +kernel
theorem dX12_placesBy_46 : decode cX12_placesBy 46 = .ok (.iinc 2 1, 3) := by decide +kernel
theorem dX12_placesBy_49 : decode cX12_placesBy 49 = .ok (.iinc 5 1, 3) := by decide +kernel
theorem dX12_placesBy_52 : decode cX12_placesBy 52 = .ok (.goto (-34), 3) := by decide +kernel
theorem dX12_placesBy_55 : decode cX12_placesBy 55 = .ok (.iload_n 1, 1) := by decide +kernel
theorem dX12_placesBy_56 : decode cX12_placesBy 56 = .ok (.iconst (-1), 1) := by decide +kernel
theorem dX12_placesBy_57 : decode cX12_placesBy 57 = .ok (.if_icmp .ne 7, 3) := by decide +kernel
theorem dX12_placesBy_60 : decode cX12_placesBy 60 = .ok (.iload_n 2, 1) := by decide +kernel
theorem dX12_placesBy_61 : decode cX12_placesBy 61 = .ok (.goto 4, 3) := by decide +kernel
theorem dX12_placesBy_64 : decode cX12_placesBy 64 = .ok (.iload_n 3, 1) := by decide +kernel
theorem dX12_placesBy_65 : decode cX12_placesBy 65 = .ok (.ireturn, 1) := by decide +kernel
set_option maxRecDepth 20000 in
theorem ggX12_places_X12_in : GoodIn wsX12_places wsX12_in := goodIn_r _ [4] (by decide +kernel) (by decide +kernel)
set_option maxRecDepth 20000 in
theorem gX12_places_X12_in : GoodIn wsX12_places (va_wsS RX12 51 yX12_in wsX12_in) := goodIn_app (goodIn_of _ (by decide +kernel)) ggX12_places_X12_in
set_option maxRecDepth 20000 in
theorem ggX12_places_X12_placesBy : GoodIn wsX12_places wsX12_placesBy := goodIn_r _ [8, 9, 10, 11, 3, 12, 13, 14, 15, 16, 17, 18, 19, 20, 21, 22, 23, 24, 25, 26, 27, 28, 29, 30, 31, 32, 33, 34, 35, 36, 37, 38, 39, 40, 41, 42, 43, 44, 45, 46, 47, 48, 49, 50, 51, 52, 53, 54] (by decide +kernel) (by decide +kernel)
set_option maxRecDepth 20000 in
theorem gX12_places_X12_placesBy : GoodIn wsX12_places (wsV RX12 143 RX12 yX12_placesBy wsX12_placesBy) := goodIn_app (goodIn_of _ (by decide +kernel)) ggX12_places_X12_placesBy
theorem dX12_places_0 : decode cX12_places 0 = .ok (.iload_n 1, 1) := by decide +kernel
theorem dX12_places_1 : decode cX12_places 1 = .ok (.iconst (-1), 1) := by decide +kernel
theorem dX12_places_2 : decode cX12_places 2 = .ok (.bipush 9, 2) := by decide +kernel
theorem dX12_places_4 : decode cX12_places 4 = .ok (.invokestatic 51, 3) := by decide +kernel
theorem dX12_places_7 : decode cX12_places 7 = .ok (.ifCond .eq 11, 3) := by decide +kernel
theorem dX12_places_10 : decode cX12_places 10 = .ok (.aload_n 0, 1) := by decide +kernel
theorem dX12_places_11 : decode cX12_places 11 = .ok (.iload_n 1, 1) := by decide +kernel
theorem dX12_places_12 : decode cX12_places 12 = .ok (.invokevirtual 143, 3) := by decide +kernel
theorem dX12_places_15 : decode cX12_places 15 = .ok (.goto 4, 3) := by decide +kernel
theorem dX12_places_18 : decode cX12_places 18 = .ok (.iconst (-1), 1) := by decide +kernel
theorem dX12_places_19 : decode cX12_places 19 = .ok (.ireturn, 1) := by decide +kernel
set_option maxRecDepth 20000 in
theorem ggX12_listen_X12_placesBy : GoodIn wsX12_listen wsX12_placesBy := goodIn_r _ [7, 8, 9, 10, 6, 11, 12, 13, 2, 14, 15, 16, 17, 18, 19, 20, 21, 22, 23, 24, 25, 26, 27, 28, 29, 30, 31, 32, 33, 34, 35, 36, 37, 38, 39, 40, 41, 42, 43, 44, 45, 46, 47, 48, 49, 50, 51, 52] (by decide +kernel) (by decide +kernel)
set_option maxRecDepth 20000 in
theorem gX12_listen_X12_placesBy : GoodIn wsX12_listen (wsV RX12 143 RX12 yX12_placesBy wsX12_placesBy) := goodIn_app (goodIn_of _ (by decide +kernel)) ggX12_listen_X12_placesBy
set_option maxRecDepth 20000 in
theorem ggX12_listen_X12_length : GoodIn wsX12_listen wsX12_length := goodIn_r _ [24, 12, 13, 25, 26, 27, 6, 28, 18, 19, 20, 14, 15, 16, 17, 35, 36, 37, 38, 39, 40, 41, 42, 43, 44, 45, 46, 47, 48, 49, 50, 51, 52] (by decide +kernel) (by decide +kernel)
set_option maxRecDepth 20000 in
theorem gX12_listen_X12_length : GoodIn wsX12_listen (wsV RX12 117 RX12 yX12_length wsX12_length) := goodIn_app (goodIn_of _ (by decide +kernel)) ggX12_listen_X12_length
set_option maxRecDepth 20000 in
theorem ggX12_listen_X12_isSo : GoodIn wsX12_listen wsX12_isSo := goodIn_r _ [32, 33, 2, 34, 35, 36, 37, 38, 39, 40, 41, 42, 43, 44, 45, 46, 47, 48, 49, 50, 51, 52] (by decide +kernel) (by decide +kernel)
set_option maxRecDepth 20000 in
theorem gX12_listen_X12_isSo : GoodIn wsX12_listen (wsV RX12 140 RX12 yX12_isSo wsX12_isSo) := goodIn_app (goodIn_of _ (by decide +kernel)) ggX12_listen_X12_isSo
theorem dX12_listen_0 : decode cX12_listen 0 = .ok (.aload_n 0, 1) := by decide +kernel
theorem dX12_listen_1 : decode cX12_listen 1 = .ok (.iconst (-1), 1) := by decide +kernel
theorem dX12_listen_2 : decode cX12_listen 2 = .ok (.invokevirtual 143, 3) := by decide +kernel
theorem dX12_listen_5 : decode cX12_listen 5 = .ok (.istore_n 1, 1) := by decide +kernel
theorem dX12_listen_6 : decode cX12_listen 6 = .ok (.bipush (-9), 2) := by decide +kernel
theorem dX12_listen_8 : decode cX12_listen 8 = .ok (.istore_n 2, 1) := by decide +kernel
theorem dX12_listen_9 : decode cX12_listen 9 = .ok (.iload_n 1, 1) := by decide +kernel
theorem dX12_listen_10 : decode cX12_listen 10 = .ok (.iconst 1, 1) := by decide +kernel
theorem dX12_listen_11 : decode cX12_listen 11 = .ok (.iadd, 1) := by decide +kernel
theorem dX12_listen_12 : decode cX12_listen 12 = .ok (.istore_n 3, 1) := by decide +kernel
theorem dX12_listen_13 : decode cX12_listen 13 = .ok (.aload_n 0, 1) := by decide +kernel
theorem dX12_listen_14 : decode cX12_listen 14 = .ok (.invokevirtual 117, 3) := by decide +kernel
theorem dX12_listen_17 : decode cX12_listen 17 = .ok (.istore 4, 2) := by decide +kernel
theorem dX12_listen_19 : decode cX12_listen 19 = .ok (.iconst 0, 1) := by decide +kernel
theorem dX12_listen_20 : decode cX12_listen 20 = .ok (.istore 5, 2) := by decide +kernel
theorem dX12_listen_22 : decode cX12_listen 22 = .ok (.iload 5, 2) := by decide +kernel
theorem dX12_listen_24 : decode cX12_listen 24 = .ok (.bipush 60, 2) := by decide +kernel
theorem dX12_listen_26 : decode cX12_listen 26 = .ok (.if_icmp .gt 139, 3) := by decide +kernel
theorem dX12_listen_29 : decode cX12_listen 29 = .ok (.iload_n 1, 1) := by decide +kernel
theorem dX12_listen_30 : decode cX12_listen 30 = .ok (.ifCond .le 135, 3) := by decide +kernel
theorem dX12_listen_33 : decode cX12_listen 33 = .ok (.iconst 0, 1) := by decide +kernel
theorem dX12_listen_34 : decode cX12_listen 34 = .ok (.istore 6, 2) := by decide +kernel
theorem dX12_listen_36 : decode cX12_listen 36 = .ok (.iload 6, 2) := by decide +kernel
theorem dX12_listen_38 : decode cX12_listen 38 = .ok (.iconst 5, 1) := by decide +kernel
theorem dX12_listen_39 : decode cX12_listen 39 = .ok (.if_icmp .ge 17, 3) := by decide +kernel
theorem dX12_listen_42 : decode cX12_listen 42 = .ok (.aload_n 0, 1) := by decide +kernel
theorem dX12_listen_43 : decode cX12_listen 43 = .ok (.getfield 35, 3) := by decide +kernel
theorem dX12_listen_46 : decode cX12_listen 46 = .ok (.iload 6, 2) := by decide +kernel
theorem dX12_listen_48 : decode cX12_listen 48 = .ok (.iconst 0, 1) := by decide +kernel
theorem dX12_listen_49 : decode cX12_listen 49 = .ok (.iastore, 1) := by decide +kernel
theorem dX12_listen_50 : decode cX12_listen 50 = .ok (.iinc 6 1, 3) := by decide +kernel
theorem dX12_listen_53 : decode cX12_listen 53 = .ok (.goto (-17), 3) := by decide +kernel
theorem dX12_listen_56 : decode cX12_listen 56 = .ok (.iconst 0, 1) := by decide +kernel
theorem dX12_listen_57 : decode cX12_listen 57 = .ok (.istore 6, 2) := by decide +kernel
theorem dX12_listen_59 : decode cX12_listen 59 = .ok (.iconst 0, 1) := by decide +kernel
theorem dX12_listen_60 : decode cX12_listen 60 = .ok (.istore 7, 2) := by decide +kernel
theorem dX12_listen_62 : decode cX12_listen 62 = .ok (.iload 7, 2) := by decide +kernel
theorem dX12_listen_64 : decode cX12_listen 64 = .ok (.iload 4, 2) := by decide +kernel
theorem dX12_listen_66 : decode cX12_listen 66 = .ok (.if_icmp .ge 67, 3) := by decide +kernel
theorem dX12_listen_69 : decode cX12_listen 69 = .ok (.aload_n 0, 1) := by decide +kernel
theorem dX12_listen_70 : decode cX12_listen 70 = .ok (.iload 7, 2) := by decide +kernel
theorem dX12_listen_72 : decode cX12_listen 72 = .ok (.invokevirtual 140, 3) := by decide +kernel
theorem dX12_listen_75 : decode cX12_listen 75 = .ok (.ifCond .eq 52, 3) := by decide +kernel
theorem dX12_listen_78 : decode cX12_listen 78 = .ok (.aload_n 0, 1) := by decide +kernel
theorem dX12_listen_79 : decode cX12_listen 79 = .ok (.getfield 32, 3) := by decide +kernel
theorem dX12_listen_82 : decode cX12_listen 82 = .ok (.iload 7, 2) := by decide +kernel
theorem dX12_listen_84 : decode cX12_listen 84 = .ok (.iload 5, 2) := by decide +kernel
theorem dX12_listen_86 : decode cX12_listen 86 = .ok (.iadd, 1) := by decide +kernel
theorem dX12_listen_87 : decode cX12_listen 87 = .ok (.iaload, 1) := by decide +kernel
theorem dX12_listen_88 : decode cX12_listen 88 = .ok (.istore 8, 2) := by decide +kernel
theorem dX12_listen_90 : decode cX12_listen 90 = .ok (.aload_n 0, 1) := by decide +kernel
theorem dX12_listen_91 : decode cX12_listen 91 = .ok (.getfield 35, 3) := by decide +kernel
theorem dX12_listen_94 : decode cX12_listen 94 = .ok (.iload 8, 2) := by decide +kernel
theorem dX12_listen_96 : decode cX12_listen 96 = .ok (.dup2, 1) := by decide +kernel
theorem dX12_listen_97 : decode cX12_listen 97 = .ok (.iaload, 1) := by decide +kernel
theorem dX12_listen_98 : decode cX12_listen 98 = .ok (.iconst 1, 1) := by decide +kernel
theorem dX12_listen_99 : decode cX12_listen 99 = .ok (.iadd, 1) := by decide +kernel
theorem dX12_listen_100 : decode cX12_listen 100 = .ok (.iastore, 1) := by decide +kernel
theorem dX12_listen_101 : decode cX12_listen 101 = .ok (.aload_n 0, 1) := by decide +kernel
theorem dX12_listen_102 : decode cX12_listen 102 = .ok (.getfield 35, 3) := by decide +kernel
theorem dX12_listen_105 : decode cX12_listen 105 = .ok (.iload 8, 2) := by decide +kernel
theorem dX12_listen_107 : decode cX12_listen 107 = .ok (.iaload, 1) := by decide +kernel
theorem dX12_listen_108 : decode cX12_listen 108 = .ok (.iload 6, 2) := by decide +kernel
theorem dX12_listen_110 : decode cX12_listen 110 = .ok (.if_icmp .le 13, 3) := by decide +kernel
theorem dX12_listen_113 : decode cX12_listen 113 = .ok (.aload_n 0, 1) := by decide +kernel
theorem dX12_listen_114 : decode cX12_listen 114 = .ok (.getfield 35, 3) := by decide +kernel
theorem dX12_listen_117 : decode cX12_listen 117 = .ok (.iload 8, 2) := by decide +kernel
theorem dX12_listen_119 : decode cX12_listen 119 = .ok (.iaload, 1) := by decide +kernel
theorem dX12_listen_120 : decode cX12_listen 120 = .ok (.goto 5, 3) := by decide +kernel
theorem dX12_listen_123 : decode cX12_listen 123 = .ok (.iload 6, 2) := by decide +kernel
theorem dX12_listen_125 : decode cX12_listen 125 = .ok (.istore 6, 2) := by decide +kernel
theorem dX12_listen_127 : decode cX12_listen 127 = .ok (.iinc 7 1, 3) := by decide +kernel
theorem dX12_listen_130 : decode cX12_listen 130 = .ok (.goto (-68), 3) := by decide +kernel
theorem dX12_listen_133 : decode cX12_listen 133 = .ok (.iload 6, 2) := by decide +kernel
theorem dX12_listen_135 : decode cX12_listen 135 = .ok (.iload_n 3, 1) := by decide +kernel
theorem dX12_listen_136 : decode cX12_listen 136 = .ok (.if_icmp .ge 8, 3) := by decide +kernel
theorem dX12_listen_139 : decode cX12_listen 139 = .ok (.iload 5, 2) := by decide +kernel
theorem dX12_listen_141 : decode cX12_listen 141 = .ok (.goto 4, 3) := by decide +kernel
theorem dX12_listen_144 : decode cX12_listen 144 = .ok (.iload_n 2, 1) := by decide +kernel
theorem dX12_listen_145 : decode cX12_listen 145 = .ok (.istore_n 2, 1) := by decide +kernel
theorem dX12_listen_146 : decode cX12_listen 146 = .ok (.iload 6, 2) := by decide +kernel
theorem dX12_listen_148 : decode cX12_listen 148 = .ok (.iload_n 3, 1) := by decide +kernel
theorem dX12_listen_149 : decode cX12_listen 149 = .ok (.if_icmp .ge 8, 3) := by decide +kernel
theorem dX12_listen_152 : decode cX12_listen 152 = .ok (.iload 6, 2) := by decide +kernel
theorem dX12_listen_154 : decode cX12_listen 154 = .ok (.goto 4, 3) := by decide +kernel
theorem dX12_listen_157 : decode cX12_listen 157 = .ok (.iload_n 3, 1) := by decide +kernel
theorem dX12_listen_158 : decode cX12_listen 158 = .ok (.istore_n 3, 1) := by decide +kernel
theorem dX12_listen_159 : decode cX12_listen 159 = .ok (.iinc 5 1, 3) := by decide +kernel
theorem dX12_listen_162 : decode cX12_listen 162 = .ok (.goto (-140), 3) := by decide +kernel
theorem dX12_listen_165 : decode cX12_listen 165 = .ok (.iload_n 2, 1) := by decide +kernel
theorem dX12_listen_166 : decode cX12_listen 166 = .ok (.ireturn, 1) := by decide +kernel
set_option maxRecDepth 20000 in
theorem ggX12_isRest_X12_has : GoodIn wsX12_isRest wsX12_has := goodIn_r _ [6] (by decide +kernel) (by decide +kernel)
set_option maxRecDepth 20000 in
theorem gX12_isRest_X12_has : GoodIn wsX12_isRest (va_wsS RX12 94 yX12_has wsX12_has) := goodIn_app (goodIn_of _ (by decide +kernel)) ggX12_isRest_X12_has
theorem dX12_isRest_0 : decode cX12_isRest 0 = .ok (.aload_n 0, 1) := by decide +kernel
theorem dX12_isRest_1 : decode cX12_isRest 1 = .ok (.getfield 19, 3) := by decide +kernel
theorem dX12_isRest_4 : decode cX12_isRest 4 = .ok (.iconst 3, 1) := by decide +kernel
theorem dX12_isRest_5 : decode cX12_isRest 5 = .ok (.iaload, 1) := by decide +kernel
theorem dX12_isRest_6 : decode cX12_isRest 6 = .ok (.iload_n 1, 1) := by decide +kernel
theorem dX12_isRest_7 : decode cX12_isRest 7 = .ok (.invokestatic 94, 3) := by decide +kernel
theorem dX12_isRest_10 : decode cX12_isRest 10 = .ok (.ifCond .ne 20, 3) := by decide +kernel
theorem dX12_isRest_13 : decode cX12_isRest 13 = .ok (.aload_n 0, 1) := by decide +kernel
theorem dX12_isRest_14 : decode cX12_isRest 14 = .ok (.getfield 13, 3) := by decide +kernel
theorem dX12_isRest_17 : decode cX12_isRest 17 = .ok (.bipush 22, 2) := by decide +kernel
theorem dX12_isRest_19 : decode cX12_isRest 19 = .ok (.iload_n 1, 1) := by decide +kernel
theorem dX12_isRest_20 : decode cX12_isRest 20 = .ok (.iadd, 1) := by decide +kernel
theorem dX12_isRest_21 : decode cX12_isRest 21 = .ok (.iaload, 1) := by decide +kernel
theorem dX12_isRest_22 : decode cX12_isRest 22 = .ok (.iconst 2, 1) := by decide +kernel
theorem dX12_isRest_23 : decode cX12_isRest 23 = .ok (.if_icmp .eq 7, 3) := by decide +kernel
theorem dX12_isRest_26 : decode cX12_isRest 26 = .ok (.iconst 1, 1) := by decide +kernel
theorem dX12_isRest_27 : decode cX12_isRest 27 = .ok (.goto 4, 3) := by decide +kernel
theorem dX12_isRest_30 : decode cX12_isRest 30 = .ok (.iconst 0, 1) := by decide +kernel
theorem dX12_isRest_31 : decode cX12_isRest 31 = .ok (.ireturn, 1) := by decide +kernel
set_option maxRecDepth 20000 in
theorem ggX12_fits_X12_isRest : GoodIn wsX12_fits wsX12_isRest := goodIn_r _ [8, 9, 1, 10, 11, 7, 12, 17, 18, 19, 20, 21, 22, 23, 24, 25, 26, 27, 28, 29, 30, 31, 32, 33, 34] (by decide +kernel) (by decide +kernel)
set_option maxRecDepth 20000 in
theorem gX12_fits_X12_isRest : GoodIn wsX12_fits (wsV RX12 146 RX12 yX12_isRest wsX12_isRest) := goodIn_app (goodIn_of _ (by decide +kernel)) ggX12_fits_X12_isRest
set_option maxRecDepth 20000 in
theorem ggX12_fits_X12_minutes : GoodIn wsX12_fits wsX12_minutes := goodIn_r _ [16, 1, 17, 18, 19, 20, 21, 22, 23, 24, 25, 26, 27, 28, 29, 30, 31, 32, 33, 34] (by decide +kernel) (by decide +kernel)
set_option maxRecDepth 20000 in
theorem gX12_fits_X12_minutes : GoodIn wsX12_fits (wsV RX12 98 RX12 yX12_minutes wsX12_minutes) := goodIn_app (goodIn_of _ (by decide +kernel)) ggX12_fits_X12_minutes
set_option maxRecDepth 20000 in
theorem ggX12_fits_X12_has : GoodIn wsX12_fits wsX12_has := goodIn_r _ [12] (by decide +kernel) (by decide +kernel)
set_option maxRecDepth 20000 in
theorem gX12_fits_X12_has : GoodIn wsX12_fits (va_wsS RX12 94 yX12_has wsX12_has) := goodIn_app (goodIn_of _ (by decide +kernel)) ggX12_fits_X12_has
theorem dX12_fits_0 : decode cX12_fits 0 = .ok (.iconst 0, 1) := by decide +kernel
theorem dX12_fits_1 : decode cX12_fits 1 = .ok (.istore_n 2, 1) := by decide +kernel
theorem dX12_fits_2 : decode cX12_fits 2 = .ok (.iload_n 2, 1) := by decide +kernel
theorem dX12_fits_3 : decode cX12_fits 3 = .ok (.aload_n 0, 1) := by decide +kernel
theorem dX12_fits_4 : decode cX12_fits 4 = .ok (.getfield 13, 3) := by decide +kernel
theorem dX12_fits_7 : decode cX12_fits 7 = .ok (.iconst 0, 1) := by decide +kernel
theorem dX12_fits_8 : decode cX12_fits 8 = .ok (.iaload, 1) := by decide +kernel
theorem dX12_fits_9 : decode cX12_fits 9 = .ok (.if_icmp .ge 32, 3) := by decide +kernel
theorem dX12_fits_12 : decode cX12_fits 12 = .ok (.aload_n 0, 1) := by decide +kernel
theorem dX12_fits_13 : decode cX12_fits 13 = .ok (.getfield 38, 3) := by decide +kernel
theorem dX12_fits_16 : decode cX12_fits 16 = .ok (.iload_n 2, 1) := by decide +kernel
theorem dX12_fits_17 : decode cX12_fits 17 = .ok (.aload_n 0, 1) := by decide +kernel
theorem dX12_fits_18 : decode cX12_fits 18 = .ok (.iload_n 2, 1) := by decide +kernel
theorem dX12_fits_19 : decode cX12_fits 19 = .ok (.invokevirtual 146, 3) := by decide +kernel
theorem dX12_fits_22 : decode cX12_fits 22 = .ok (.ifCond .eq 11, 3) := by decide +kernel
theorem dX12_fits_25 : decode cX12_fits 25 = .ok (.aload_n 0, 1) := by decide +kernel
theorem dX12_fits_26 : decode cX12_fits 26 = .ok (.iload_n 2, 1) := by decide +kernel
theorem dX12_fits_27 : decode cX12_fits 27 = .ok (.invokevirtual 98, 3) := by decide +kernel
theorem dX12_fits_30 : decode cX12_fits 30 = .ok (.goto 4, 3) := by decide +kernel
theorem dX12_fits_33 : decode cX12_fits 33 = .ok (.iconst 0, 1) := by decide +kernel
theorem dX12_fits_34 : decode cX12_fits 34 = .ok (.iastore, 1) := by decide +kernel
theorem dX12_fits_35 : decode cX12_fits 35 = .ok (.iinc 2 1, 3) := by decide +kernel
theorem dX12_fits_38 : decode cX12_fits 38 = .ok (.goto (-36), 3) := by decide +kernel
theorem dX12_fits_41 : decode cX12_fits 41 = .ok (.iconst 0, 1) := by decide +kernel
theorem dX12_fits_42 : decode cX12_fits 42 = .ok (.istore_n 2, 1) := by decide +kernel
theorem dX12_fits_43 : decode cX12_fits 43 = .ok (.aload_n 0, 1) := by decide +kernel
theorem dX12_fits_44 : decode cX12_fits 44 = .ok (.getfield 41, 3) := by decide +kernel
theorem dX12_fits_47 : decode cX12_fits 47 = .ok (.iconst 0, 1) := by decide +kernel
theorem dX12_fits_48 : decode cX12_fits 48 = .ok (.iconst (-1), 1) := by decide +kernel
theorem dX12_fits_49 : decode cX12_fits 49 = .ok (.iastore, 1) := by decide +kernel
theorem dX12_fits_50 : decode cX12_fits 50 = .ok (.iload_n 2, 1) := by decide +kernel
theorem dX12_fits_51 : decode cX12_fits 51 = .ok (.ifCond .lt 218, 3) := by decide +kernel
theorem dX12_fits_54 : decode cX12_fits 54 = .ok (.iload_n 2, 1) := by decide +kernel
theorem dX12_fits_55 : decode cX12_fits 55 = .ok (.aload_n 0, 1) := by decide +kernel
theorem dX12_fits_56 : decode cX12_fits 56 = .ok (.getfield 13, 3) := by decide +kernel
theorem dX12_fits_59 : decode cX12_fits 59 = .ok (.iconst 1, 1) := by decide +kernel
theorem dX12_fits_60 : decode cX12_fits 60 = .ok (.iaload, 1) := by decide +kernel
theorem dX12_fits_61 : decode cX12_fits 61 = .ok (.if_icmp .ge 208, 3) := by decide +kernel
theorem dX12_fits_64 : decode cX12_fits 64 = .ok (.iload_n 1, 1) := by decide +kernel
theorem dX12_fits_65 : decode cX12_fits 65 = .ok (.iload_n 2, 1) := by decide +kernel
theorem dX12_fits_66 : decode cX12_fits 66 = .ok (.invokestatic 94, 3) := by decide +kernel
theorem dX12_fits_69 : decode cX12_fits 69 = .ok (.istore_n 3, 1) := by decide +kernel
theorem dX12_fits_70 : decode cX12_fits 70 = .ok (.iload_n 3, 1) := by decide +kernel
theorem dX12_fits_71 : decode cX12_fits 71 = .ok (.ifCond .eq 35, 3) := by decide +kernel
theorem dX12_fits_74 : decode cX12_fits 74 = .ok (.aload_n 0, 1) := by decide +kernel
theorem dX12_fits_75 : decode cX12_fits 75 = .ok (.getfield 41, 3) := by decide +kernel
theorem dX12_fits_78 : decode cX12_fits 78 = .ok (.iload_n 2, 1) := by decide +kernel
theorem dX12_fits_79 : decode cX12_fits 79 = .ok (.iaload, 1) := by decide +kernel
theorem dX12_fits_80 : decode cX12_fits 80 = .ok (.ifCond .lt 26, 3) := by decide +kernel
theorem dX12_fits_83 : decode cX12_fits 83 = .ok (.aload_n 0, 1) := by decide +kernel
theorem dX12_fits_84 : decode cX12_fits 84 = .ok (.getfield 38, 3) := by decide +kernel
theorem dX12_fits_87 : decode cX12_fits 87 = .ok (.aload_n 0, 1) := by decide +kernel
theorem dX12_fits_88 : decode cX12_fits 88 = .ok (.getfield 41, 3) := by decide +kernel
theorem dX12_fits_91 : decode cX12_fits 91 = .ok (.iload_n 2, 1) := by decide +kernel
theorem dX12_fits_92 : decode cX12_fits 92 = .ok (.iaload, 1) := by decide +kernel
theorem dX12_fits_93 : decode cX12_fits 93 = .ok (.dup2, 1) := by decide +kernel
theorem dX12_fits_94 : decode cX12_fits 94 = .ok (.iaload, 1) := by decide +kernel
theorem dX12_fits_95 : decode cX12_fits 95 = .ok (.aload_n 0, 1) := by decide +kernel
theorem dX12_fits_96 : decode cX12_fits 96 = .ok (.getfield 13, 3) := by decide +kernel
theorem dX12_fits_99 : decode cX12_fits 99 = .ok (.bipush 30, 2) := by decide +kernel
theorem dX12_fits_101 : decode cX12_fits 101 = .ok (.iload_n 2, 1) := by decide +kernel
theorem dX12_fits_102 : decode cX12_fits 102 = .ok (.iadd, 1) := by decide +kernel
theorem dX12_fits_103 : decode cX12_fits 103 = .ok (.iaload, 1) := by decide +kernel
theorem dX12_fits_104 : decode cX12_fits 104 = .ok (.iadd, 1) := by decide +kernel
theorem dX12_fits_105 : decode cX12_fits 105 = .ok (.iastore, 1) := by decide +kernel
theorem dX12_fits_106 : decode cX12_fits 106 = .ok (.aload_n 0, 1) := by decide +kernel
theorem dX12_fits_107 : decode cX12_fits 107 = .ok (.getfield 41, 3) := by decide +kernel
theorem dX12_fits_110 : decode cX12_fits 110 = .ok (.iload_n 2, 1) := by decide +kernel
theorem dX12_fits_111 : decode cX12_fits 111 = .ok (.iaload, 1) := by decide +kernel
theorem dX12_fits_112 : decode cX12_fits 112 = .ok (.iconst 1, 1) := by decide +kernel
theorem dX12_fits_113 : decode cX12_fits 113 = .ok (.iadd, 1) := by decide +kernel
theorem dX12_fits_114 : decode cX12_fits 114 = .ok (.istore 4, 2) := by decide +kernel
theorem dX12_fits_116 : decode cX12_fits 116 = .ok (.iload_n 3, 1) := by decide +kernel
theorem dX12_fits_117 : decode cX12_fits 117 = .ok (.ifCond .eq 39, 3) := by decide +kernel
theorem dX12_fits_120 : decode cX12_fits 120 = .ok (.iload 4, 2) := by decide +kernel
theorem dX12_fits_122 : decode cX12_fits 122 = .ok (.aload_n 0, 1) := by decide +kernel
theorem dX12_fits_123 : decode cX12_fits 123 = .ok (.getfield 13, 3) := by decide +kernel
theorem dX12_fits_126 : decode cX12_fits 126 = .ok (.iconst 0, 1) := by decide +kernel
theorem dX12_fits_127 : decode cX12_fits 127 = .ok (.iaload, 1) := by decide +kernel
theorem dX12_fits_128 : decode cX12_fits 128 = .ok (.if_icmp .ge 28, 3) := by decide +kernel
theorem dX12_fits_131 : decode cX12_fits 131 = .ok (.aload_n 0, 1) := by decide +kernel
theorem dX12_fits_132 : decode cX12_fits 132 = .ok (.getfield 38, 3) := by decide +kernel
theorem dX12_fits_135 : decode cX12_fits 135 = .ok (.iload 4, 2) := by decide +kernel
theorem dX12_fits_137 : decode cX12_fits 137 = .ok (.iaload, 1) := by decide +kernel
theorem dX12_fits_138 : decode cX12_fits 138 = .ok (.aload_n 0, 1) := by decide +kernel
theorem dX12_fits_139 : decode cX12_fits 139 = .ok (.getfield 13, 3) := by decide +kernel
theorem dX12_fits_142 : decode cX12_fits 142 = .ok (.bipush 30, 2) := by decide +kernel
theorem dX12_fits_144 : decode cX12_fits 144 = .ok (.iload_n 2, 1) := by decide +kernel
theorem dX12_fits_145 : decode cX12_fits 145 = .ok (.iadd, 1) := by decide +kernel
theorem dX12_fits_146 : decode cX12_fits 146 = .ok (.iaload, 1) := by decide +kernel
theorem dX12_fits_147 : decode cX12_fits 147 = .ok (.if_icmp .ge 9, 3) := by decide +kernel
theorem dX12_fits_150 : decode cX12_fits 150 = .ok (.iinc 4 1, 3) := by decide +kernel
theorem dX12_fits_153 : decode cX12_fits 153 = .ok (.goto (-37), 3) := by decide +kernel
theorem dX12_fits_156 : decode cX12_fits 156 = .ok (.iload_n 3, 1) := by decide +kernel
theorem dX12_fits_157 : decode cX12_fits 157 = .ok (.ifCond .eq 22, 3) := by decide +kernel
theorem dX12_fits_160 : decode cX12_fits 160 = .ok (.iload 4, 2) := by decide +kernel
theorem dX12_fits_162 : decode cX12_fits 162 = .ok (.aload_n 0, 1) := by decide +kernel
theorem dX12_fits_163 : decode cX12_fits 163 = .ok (.getfield 13, 3) := by decide +kernel
theorem dX12_fits_166 : decode cX12_fits 166 = .ok (.iconst 0, 1) := by decide +kernel
theorem dX12_fits_167 : decode cX12_fits 167 = .ok (.iaload, 1) := by decide +kernel
theorem dX12_fits_168 : decode cX12_fits 168 = .ok (.if_icmp .ge 7, 3) := by decide +kernel
theorem dX12_fits_171 : decode cX12_fits 171 = .ok (.iconst 1, 1) := by decide +kernel
theorem dX12_fits_172 : decode cX12_fits 172 = .ok (.goto 21, 3) := by decide +kernel
theorem dX12_fits_175 : decode cX12_fits 175 = .ok (.iconst 0, 1) := by decide +kernel
theorem dX12_fits_176 : decode cX12_fits 176 = .ok (.goto 17, 3) := by decide +kernel
theorem dX12_fits_179 : decode cX12_fits 179 = .ok (.aload_n 0, 1) := by decide +kernel
theorem dX12_fits_180 : decode cX12_fits 180 = .ok (.getfield 41, 3) := by decide +kernel
theorem dX12_fits_183 : decode cX12_fits 183 = .ok (.iload_n 2, 1) := by decide +kernel
theorem dX12_fits_184 : decode cX12_fits 184 = .ok (.iaload, 1) := by decide +kernel
theorem dX12_fits_185 : decode cX12_fits 185 = .ok (.ifCond .ge 7, 3) := by decide +kernel
theorem dX12_fits_188 : decode cX12_fits 188 = .ok (.iconst 1, 1) := by decide +kernel
theorem dX12_fits_189 : decode cX12_fits 189 = .ok (.goto 4, 3) := by decide +kernel
theorem dX12_fits_192 : decode cX12_fits 192 = .ok (.iconst 0, 1) := by decide +kernel
theorem dX12_fits_193 : decode cX12_fits 193 = .ok (.istore 5, 2) := by decide +kernel
theorem dX12_fits_195 : decode cX12_fits 195 = .ok (.aload_n 0, 1) := by decide +kernel
theorem dX12_fits_196 : decode cX12_fits 196 = .ok (.getfield 41, 3) := by decide +kernel
theorem dX12_fits_199 : decode cX12_fits 199 = .ok (.iload_n 2, 1) := by decide +kernel
theorem dX12_fits_200 : decode cX12_fits 200 = .ok (.iload 4, 2) := by decide +kernel
theorem dX12_fits_202 : decode cX12_fits 202 = .ok (.iastore, 1) := by decide +kernel
theorem dX12_fits_203 : decode cX12_fits 203 = .ok (.iload 5, 2) := by decide +kernel
theorem dX12_fits_205 : decode cX12_fits 205 = .ok (.ifCond .eq 26, 3) := by decide +kernel
theorem dX12_fits_208 : decode cX12_fits 208 = .ok (.iload_n 3, 1) := by decide +kernel
theorem dX12_fits_209 : decode cX12_fits 209 = .ok (.ifCond .eq 22, 3) := by decide +kernel
theorem dX12_fits_212 : decode cX12_fits 212 = .ok (.aload_n 0, 1) := by decide +kernel
theorem dX12_fits_213 : decode cX12_fits 213 = .ok (.getfield 38, 3) := by decide +kernel
theorem dX12_fits_216 : decode cX12_fits 216 = .ok (.iload 4, 2) := by decide +kernel
theorem dX12_fits_218 : decode cX12_fits 218 = .ok (.dup2, 1) := by decide +kernel
theorem dX12_fits_219 : decode cX12_fits 219 = .ok (.iaload, 1) := by decide +kernel
theorem dX12_fits_220 : decode cX12_fits 220 = .ok (.aload_n 0, 1) := by decide +kernel
theorem dX12_fits_221 : decode cX12_fits 221 = .ok (.getfield 13, 3) := by decide +kernel
theorem dX12_fits_224 : decode cX12_fits 224 = .ok (.bipush 30, 2) := by decide +kernel
theorem dX12_fits_226 : decode cX12_fits 226 = .ok (.iload_n 2, 1) := by decide +kernel
theorem dX12_fits_227 : decode cX12_fits 227 = .ok (.iadd, 1) := by decide +kernel
theorem dX12_fits_228 : decode cX12_fits 228 = .ok (.iaload, 1) := by decide +kernel
theorem dX12_fits_229 : decode cX12_fits 229 = .ok (.isub, 1) := by decide +kernel
theorem dX12_fits_230 : decode cX12_fits 230 = .ok (.iastore, 1) := by decide +kernel
theorem dX12_fits_231 : decode cX12_fits 231 = .ok (.iload_n 2, 1) := by decide +kernel
theorem dX12_fits_232 : decode cX12_fits 232 = .ok (.iload 5, 2) := by decide +kernel
theorem dX12_fits_234 : decode cX12_fits 234 = .ok (.ifCond .eq 7, 3) := by decide +kernel
theorem dX12_fits_237 : decode cX12_fits 237 = .ok (.iconst 1, 1) := by decide +kernel
theorem dX12_fits_238 : decode cX12_fits 238 = .ok (.goto 4, 3) := by decide +kernel
theorem dX12_fits_241 : decode cX12_fits 241 = .ok (.iconst (-1), 1) := by decide +kernel
theorem dX12_fits_242 : decode cX12_fits 242 = .ok (.iadd, 1) := by decide +kernel
theorem dX12_fits_243 : decode cX12_fits 243 = .ok (.istore_n 2, 1) := by decide +kernel
theorem dX12_fits_244 : decode cX12_fits 244 = .ok (.iload 5, 2) := by decide +kernel
theorem dX12_fits_246 : decode cX12_fits 246 = .ok (.ifCond .eq 20, 3) := by decide +kernel
theorem dX12_fits_249 : decode cX12_fits 249 = .ok (.iload_n 2, 1) := by decide +kernel
theorem dX12_fits_250 : decode cX12_fits 250 = .ok (.aload_n 0, 1) := by decide +kernel
theorem dX12_fits_251 : decode cX12_fits 251 = .ok (.getfield 13, 3) := by decide +kernel
theorem dX12_fits_254 : decode cX12_fits 254 = .ok (.iconst 1, 1) := by decide +kernel
theorem dX12_fits_255 : decode cX12_fits 255 = .ok (.iaload, 1) := by decide +kernel
theorem dX12_fits_256 : decode cX12_fits 256 = .ok (.if_icmp .ge 10, 3) := by decide +kernel
theorem dX12_fits_259 : decode cX12_fits 259 = .ok (.aload_n 0, 1) := by decide +kernel
theorem dX12_fits_260 : decode cX12_fits 260 = .ok (.getfield 41, 3) := by decide +kernel
theorem dX12_fits_263 : decode cX12_fits 263 = .ok (.iload_n 2, 1) := by decide +kernel
theorem dX12_fits_264 : decode cX12_fits 264 = .ok (.iconst (-1), 1) := by decide +kernel
theorem dX12_fits_265 : decode cX12_fits 265 = .ok (.iastore, 1) := by decide +kernel
theorem dX12_fits_266 : decode cX12_fits 266 = .ok (.goto (-216), 3) := by decide +kernel
theorem dX12_fits_269 : decode cX12_fits 269 = .ok (.iload_n 2, 1) := by decide +kernel
theorem dX12_fits_270 : decode cX12_fits 270 = .ok (.ifCond .lt 7, 3) := by decide +kernel
theorem dX12_fits_273 : decode cX12_fits 273 = .ok (.iconst 1, 1) := by decide +kernel
theorem dX12_fits_274 : decode cX12_fits 274 = .ok (.goto 4, 3) := by decide +kernel
theorem dX12_fits_277 : decode cX12_fits 277 = .ok (.iconst 0, 1) := by decide +kernel
theorem dX12_fits_278 : decode cX12_fits 278 = .ok (.ireturn, 1) := by decide +kernel
set_option maxRecDepth 20000 in
theorem ggX12_pack_X12_in : GoodIn wsX12_pack wsX12_in := goodIn_r _ [6] (by decide +kernel) (by decide +kernel)
set_option maxRecDepth 20000 in
theorem gX12_pack_X12_in : GoodIn wsX12_pack (va_wsS RX12 51 yX12_in wsX12_in) := goodIn_app (goodIn_of _ (by decide +kernel)) ggX12_pack_X12_in
set_option maxRecDepth 20000 in
theorem ggX12_pack_X12_ones : GoodIn wsX12_pack wsX12_ones := goodIn_r _ [9] (by decide +kernel) (by decide +kernel)
set_option maxRecDepth 20000 in
theorem gX12_pack_X12_ones : GoodIn wsX12_pack (va_wsS RX12 134 yX12_ones wsX12_ones) := goodIn_app (goodIn_of _ (by decide +kernel)) ggX12_pack_X12_ones
set_option maxRecDepth 20000 in
theorem ggX12_pack_X12_fits : GoodIn wsX12_pack wsX12_fits := goodIn_r _ [13, 1, 14, 2, 15, 16, 17, 5, 18, 19, 20, 21, 22, 23, 24, 25, 26, 27, 28, 29, 30, 31, 32, 33, 34, 35, 36, 37, 38, 39, 40, 41, 42, 43, 44] (by decide +kernel) (by decide +kernel)
set_option maxRecDepth 20000 in
theorem gX12_pack_X12_fits : GoodIn wsX12_pack (wsV RX12 149 RX12 yX12_fits wsX12_fits) := goodIn_app (goodIn_of _ (by decide +kernel)) ggX12_pack_X12_fits
set_option maxRecDepth 20000 in
theorem ggX12_pack_X12_has : GoodIn wsX12_pack wsX12_has := goodIn_r _ [22] (by decide +kernel) (by decide +kernel)
set_option maxRecDepth 20000 in
theorem gX12_pack_X12_has : GoodIn wsX12_pack (va_wsS RX12 94 yX12_has wsX12_has) := goodIn_app (goodIn_of _ (by decide +kernel)) ggX12_pack_X12_has
theorem dX12_pack_0 : decode cX12_pack 0 = .ok (.iload_n 1, 1) := by decide +kernel
theorem dX12_pack_1 : decode cX12_pack 1 = .ok (.bipush (-2), 2) := by decide +kernel
theorem dX12_pack_3 : decode cX12_pack 3 = .ok (.aload_n 0, 1) := by decide +kernel
theorem dX12_pack_4 : decode cX12_pack 4 = .ok (.getfield 13, 3) := by decide +kernel
theorem dX12_pack_7 : decode cX12_pack 7 = .ok (.iconst 1, 1) := by decide +kernel
theorem dX12_pack_8 : decode cX12_pack 8 = .ok (.iaload, 1) := by decide +kernel
theorem dX12_pack_9 : decode cX12_pack 9 = .ok (.iconst 1, 1) := by decide +kernel
theorem dX12_pack_10 : decode cX12_pack 10 = .ok (.isub, 1) := by decide +kernel
theorem dX12_pack_11 : decode cX12_pack 11 = .ok (.invokestatic 51, 3) := by decide +kernel
theorem dX12_pack_14 : decode cX12_pack 14 = .ok (.ifCond .ne 5, 3) := by decide +kernel
theorem dX12_pack_17 : decode cX12_pack 17 = .ok (.iconst (-1), 1) := by decide +kernel
theorem dX12_pack_18 : decode cX12_pack 18 = .ok (.ireturn, 1) := by decide +kernel
theorem dX12_pack_19 : decode cX12_pack 19 = .ok (.iconst 0, 1) := by decide +kernel
theorem dX12_pack_20 : decode cX12_pack 20 = .ok (.istore_n 2, 1) := by decide +kernel
theorem dX12_pack_21 : decode cX12_pack 21 = .ok (.iconst 1, 1) := by decide +kernel
theorem dX12_pack_22 : decode cX12_pack 22 = .ok (.istore_n 3, 1) := by decide +kernel
theorem dX12_pack_23 : decode cX12_pack 23 = .ok (.iload_n 3, 1) := by decide +kernel
theorem dX12_pack_24 : decode cX12_pack 24 = .ok (.iconst 1, 1) := by decide +kernel
theorem dX12_pack_25 : decode cX12_pack 25 = .ok (.aload_n 0, 1) := by decide +kernel
theorem dX12_pack_26 : decode cX12_pack 26 = .ok (.getfield 13, 3) := by decide +kernel
theorem dX12_pack_29 : decode cX12_pack 29 = .ok (.iconst 1, 1) := by decide +kernel
theorem dX12_pack_30 : decode cX12_pack 30 = .ok (.iaload, 1) := by decide +kernel
theorem dX12_pack_31 : decode cX12_pack 31 = .ok (.ishl, 1) := by decide +kernel
theorem dX12_pack_32 : decode cX12_pack 32 = .ok (.if_icmp .ge 34, 3) := by decide +kernel
theorem dX12_pack_35 : decode cX12_pack 35 = .ok (.iload_n 3, 1) := by decide +kernel
theorem dX12_pack_36 : decode cX12_pack 36 = .ok (.invokestatic 134, 3) := by decide +kernel
theorem dX12_pack_39 : decode cX12_pack 39 = .ok (.iload_n 2, 1) := by decide +kernel
theorem dX12_pack_40 : decode cX12_pack 40 = .ok (.invokestatic 134, 3) := by decide +kernel
theorem dX12_pack_43 : decode cX12_pack 43 = .ok (.if_icmp .le 15, 3) := by decide +kernel
theorem dX12_pack_46 : decode cX12_pack 46 = .ok (.aload_n 0, 1) := by decide +kernel
theorem dX12_pack_47 : decode cX12_pack 47 = .ok (.iload_n 3, 1) := by decide +kernel
theorem dX12_pack_48 : decode cX12_pack 48 = .ok (.invokevirtual 149, 3) := by decide +kernel
theorem dX12_pack_51 : decode cX12_pack 51 = .ok (.ifCond .eq 7, 3) := by decide +kernel
theorem dX12_pack_54 : decode cX12_pack 54 = .ok (.iload_n 3, 1) := by decide +kernel
theorem dX12_pack_55 : decode cX12_pack 55 = .ok (.goto 4, 3) := by decide +kernel
theorem dX12_pack_58 : decode cX12_pack 58 = .ok (.iload_n 2, 1) := by decide +kernel
theorem dX12_pack_59 : decode cX12_pack 59 = .ok (.istore_n 2, 1) := by decide +kernel
theorem dX12_pack_60 : decode cX12_pack 60 = .ok (.iinc 3 1, 3) := by decide +kernel
theorem dX12_pack_63 : decode cX12_pack 63 = .ok (.goto (-40), 3) := by decide +kernel
theorem dX12_pack_66 : decode cX12_pack 66 = .ok (.iload_n 1, 1) := by decide +kernel
theorem dX12_pack_67 : decode cX12_pack 67 = .ok (.ifCond .ge 17, 3) := by decide +kernel
theorem dX12_pack_70 : decode cX12_pack 70 = .ok (.iload_n 1, 1) := by decide +kernel
theorem dX12_pack_71 : decode cX12_pack 71 = .ok (.iconst (-1), 1) := by decide +kernel
theorem dX12_pack_72 : decode cX12_pack 72 = .ok (.if_icmp .ne 10, 3) := by decide +kernel
theorem dX12_pack_75 : decode cX12_pack 75 = .ok (.iload_n 2, 1) := by decide +kernel
theorem dX12_pack_76 : decode cX12_pack 76 = .ok (.invokestatic 134, 3) := by decide +kernel
theorem dX12_pack_79 : decode cX12_pack 79 = .ok (.goto 4, 3) := by decide +kernel
theorem dX12_pack_82 : decode cX12_pack 82 = .ok (.iload_n 2, 1) := by decide +kernel
theorem dX12_pack_83 : decode cX12_pack 83 = .ok (.ireturn, 1) := by decide +kernel
theorem dX12_pack_84 : decode cX12_pack 84 = .ok (.aload_n 0, 1) := by decide +kernel
theorem dX12_pack_85 : decode cX12_pack 85 = .ok (.iload_n 2, 1) := by decide +kernel
theorem dX12_pack_86 : decode cX12_pack 86 = .ok (.invokevirtual 149, 3) := by decide +kernel
theorem dX12_pack_89 : decode cX12_pack 89 = .ok (.ifCond .eq 20, 3) := by decide +kernel
theorem dX12_pack_92 : decode cX12_pack 92 = .ok (.iload_n 2, 1) := by decide +kernel
theorem dX12_pack_93 : decode cX12_pack 93 = .ok (.iload_n 1, 1) := by decide +kernel
theorem dX12_pack_94 : decode cX12_pack 94 = .ok (.invokestatic 94, 3) := by decide +kernel
theorem dX12_pack_97 : decode cX12_pack 97 = .ok (.ifCond .eq 12, 3) := by decide +kernel
theorem dX12_pack_100 : decode cX12_pack 100 = .ok (.aload_n 0, 1) := by decide +kernel
theorem dX12_pack_101 : decode cX12_pack 101 = .ok (.getfield 41, 3) := by decide +kernel
theorem dX12_pack_104 : decode cX12_pack 104 = .ok (.iload_n 1, 1) := by decide +kernel
theorem dX12_pack_105 : decode cX12_pack 105 = .ok (.iaload, 1) := by decide +kernel
theorem dX12_pack_106 : decode cX12_pack 106 = .ok (.goto 5, 3) := by decide +kernel
theorem dX12_pack_109 : decode cX12_pack 109 = .ok (.bipush (-9), 2) := by decide +kernel
theorem dX12_pack_111 : decode cX12_pack 111 = .ok (.ireturn, 1) := by decide +kernel
set_option maxRecDepth 20000 in
theorem ggX12_mark_X12_in : GoodIn wsX12_mark wsX12_in := goodIn_r _ [13] (by decide +kernel) (by decide +kernel)
set_option maxRecDepth 20000 in
theorem gX12_mark_X12_in : GoodIn wsX12_mark (va_wsS RX12 51 yX12_in wsX12_in) := goodIn_app (goodIn_of _ (by decide +kernel)) ggX12_mark_X12_in
set_option maxRecDepth 20000 in
theorem ggX12_mark_X12_isSection : GoodIn wsX12_mark wsX12_isSection := goodIn_r _ [17, 8, 10, 11, 12, 13, 18, 19, 20, 21, 22, 23, 24, 25, 26, 27, 28, 29, 30, 31, 32, 33, 34, 35] (by decide +kernel) (by decide +kernel)
set_option maxRecDepth 20000 in
theorem gX12_mark_X12_isSection : GoodIn wsX12_mark (wsV RX12 111 RX12 yX12_isSection wsX12_isSection) := goodIn_app (goodIn_of _ (by decide +kernel)) ggX12_mark_X12_isSection
theorem dX12_mark_0 : decode cX12_mark 0 = .ok (.iload_n 1, 1) := by decide +kernel
theorem dX12_mark_1 : decode cX12_mark 1 = .ok (.iconst 0, 1) := by decide +kernel
theorem dX12_mark_2 : decode cX12_mark 2 = .ok (.iconst 5, 1) := by decide +kernel
theorem dX12_mark_3 : decode cX12_mark 3 = .ok (.invokestatic 51, 3) := by decide +kernel
theorem dX12_mark_6 : decode cX12_mark 6 = .ok (.ifCond .eq 11, 3) := by decide +kernel
theorem dX12_mark_9 : decode cX12_mark 9 = .ok (.aload_n 0, 1) := by decide +kernel
theorem dX12_mark_10 : decode cX12_mark 10 = .ok (.iload_n 2, 1) := by decide +kernel
theorem dX12_mark_11 : decode cX12_mark 11 = .ok (.invokevirtual 111, 3) := by decide +kernel
theorem dX12_mark_14 : decode cX12_mark 14 = .ok (.ifCond .ne 6, 3) := by decide +kernel
theorem dX12_mark_17 : decode cX12_mark 17 = .ok (.ldc 127, 2) := by decide +kernel
theorem dX12_mark_19 : decode cX12_mark 19 = .ok (.ireturn, 1) := by decide +kernel
theorem dX12_mark_20 : decode cX12_mark 20 = .ok (.aload_n 0, 1) := by decide +kernel
theorem dX12_mark_21 : decode cX12_mark 21 = .ok (.dup, 1) := by decide +kernel
theorem dX12_mark_22 : decode cX12_mark 22 = .ok (.getfield 152, 3) := by decide +kernel
theorem dX12_mark_25 : decode cX12_mark 25 = .ok (.iload_n 1, 1) := by decide +kernel
theorem dX12_mark_26 : decode cX12_mark 26 = .ok (.ifCond .ne 7, 3) := by decide +kernel
theorem dX12_mark_29 : decode cX12_mark 29 = .ok (.lconst 1, 1) := by decide +kernel
theorem dX12_mark_30 : decode cX12_mark 30 = .ok (.goto 50, 3) := by decide +kernel
theorem dX12_mark_33 : decode cX12_mark 33 = .ok (.iload_n 1, 1) := by decide +kernel
theorem dX12_mark_34 : decode cX12_mark 34 = .ok (.iconst 1, 1) := by decide +kernel
theorem dX12_mark_35 : decode cX12_mark 35 = .ok (.if_icmp .ne 9, 3) := by decide +kernel
theorem dX12_mark_38 : decode cX12_mark 38 = .ok (.ldc2_w 156, 3) := by decide +kernel
theorem dX12_mark_41 : decode cX12_mark 41 = .ok (.goto 39, 3) := by decide +kernel
theorem dX12_mark_44 : decode cX12_mark 44 = .ok (.iload_n 1, 1) := by decide +kernel
theorem dX12_mark_45 : decode cX12_mark 45 = .ok (.iconst 2, 1) := by decide +kernel
theorem dX12_mark_46 : decode cX12_mark 46 = .ok (.if_icmp .ne 9, 3) := by decide +kernel
theorem dX12_mark_49 : decode cX12_mark 49 = .ok (.ldc2_w 158, 3) := by decide +kernel
theorem dX12_mark_52 : decode cX12_mark 52 = .ok (.goto 28, 3) := by decide +kernel
theorem dX12_mark_55 : decode cX12_mark 55 = .ok (.iload_n 1, 1) := by decide +kernel
theorem dX12_mark_56 : decode cX12_mark 56 = .ok (.iconst 3, 1) := by decide +kernel
theorem dX12_mark_57 : decode cX12_mark 57 = .ok (.if_icmp .ne 9, 3) := by decide +kernel
theorem dX12_mark_60 : decode cX12_mark 60 = .ok (.ldc2_w 160, 3) := by decide +kernel
theorem dX12_mark_63 : decode cX12_mark 63 = .ok (.goto 17, 3) := by decide +kernel
theorem dX12_mark_66 : decode cX12_mark 66 = .ok (.iload_n 1, 1) := by decide +kernel
theorem dX12_mark_67 : decode cX12_mark 67 = .ok (.iconst 4, 1) := by decide +kernel
theorem dX12_mark_68 : decode cX12_mark 68 = .ok (.if_icmp .ne 9, 3) := by decide +kernel
theorem dX12_mark_71 : decode cX12_mark 71 = .ok (.ldc2_w 162, 3) := by decide +kernel
theorem dX12_mark_74 : decode cX12_mark 74 = .ok (.goto 6, 3) := by decide +kernel
theorem dX12_mark_77 : decode cX12_mark 77 = .ok (.ldc2_w 164, 3) := by decide +kernel
theorem dX12_mark_80 : decode cX12_mark 80 = .ok (.ladd, 1) := by decide +kernel
theorem dX12_mark_81 : decode cX12_mark 81 = .ok (.putfield 152, 3) := by decide +kernel
theorem dX12_mark_84 : decode cX12_mark 84 = .ok (.aload_n 0, 1) := by decide +kernel
theorem dX12_mark_85 : decode cX12_mark 85 = .ok (.getfield 13, 3) := by decide +kernel
theorem dX12_mark_88 : decode cX12_mark 88 = .ok (.bipush 6, 2) := by decide +kernel
theorem dX12_mark_90 : decode cX12_mark 90 = .ok (.iload_n 2, 1) := by decide +kernel
theorem dX12_mark_91 : decode cX12_mark 91 = .ok (.iadd, 1) := by decide +kernel
theorem dX12_mark_92 : decode cX12_mark 92 = .ok (.iaload, 1) := by decide +kernel
theorem dX12_mark_93 : decode cX12_mark 93 = .ok (.aload_n 0, 1) := by decide +kernel
theorem dX12_mark_94 : decode cX12_mark 94 = .ok (.getfield 13, 3) := by decide +kernel
theorem dX12_mark_97 : decode cX12_mark 97 = .ok (.bipush 14, 2) := by decide +kernel
theorem dX12_mark_99 : decode cX12_mark 99 = .ok (.iload_n 2, 1) := by decide +kernel
theorem dX12_mark_100 : decode cX12_mark 100 = .ok (.iadd, 1) := by decide +kernel
theorem dX12_mark_101 : decode cX12_mark 101 = .ok (.iaload, 1) := by decide +kernel
theorem dX12_mark_102 : decode cX12_mark 102 = .ok (.iadd, 1) := by decide +kernel
theorem dX12_mark_103 : decode cX12_mark 103 = .ok (.istore_n 3, 1) := by decide +kernel
theorem dX12_mark_104 : decode cX12_mark 104 = .ok (.aload_n 0, 1) := by decide +kernel
theorem dX12_mark_105 : decode cX12_mark 105 = .ok (.getfield 13, 3) := by decide +kernel
theorem dX12_mark_108 : decode cX12_mark 108 = .ok (.bipush 6, 2) := by decide +kernel
theorem dX12_mark_110 : decode cX12_mark 110 = .ok (.iload_n 2, 1) := by decide +kernel
theorem dX12_mark_111 : decode cX12_mark 111 = .ok (.iadd, 1) := by decide +kernel
theorem dX12_mark_112 : decode cX12_mark 112 = .ok (.iaload, 1) := by decide +kernel
theorem dX12_mark_113 : decode cX12_mark 113 = .ok (.aload_n 0, 1) := by decide +kernel
theorem dX12_mark_114 : decode cX12_mark 114 = .ok (.getfield 13, 3) := by decide +kernel
theorem dX12_mark_117 : decode cX12_mark 117 = .ok (.bipush 22, 2) := by decide +kernel
theorem dX12_mark_119 : decode cX12_mark 119 = .ok (.iload_n 2, 1) := by decide +kernel
