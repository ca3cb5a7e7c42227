theorem dX12_cue_2 : decode cX12_cue 2 = .ok (.istore_n 1, 1) := by decide +kernel
theorem dX12_cue_3 : decode cX12_cue 3 = .ok (.iconst 0, 1) := by decide +kernel
theorem dX12_cue_4 : decode cX12_cue 4 = .ok (.istore_n 2, 1) := by decide +kernel
theorem dX12_cue_5 : decode cX12_cue 5 = .ok (.iload_n 2, 1) := by decide +kernel
theorem dX12_cue_6 : decode cX12_cue 6 = .ok (.aload_n 0, 1) := by decide +kernel
theorem dX12_cue_7 : decode cX12_cue 7 = .ok (.getfield 13, 3) := by decide +kernel
theorem dX12_cue_10 : decode cX12_cue 10 = .ok (.iconst 0, 1) := by decide +kernel
theorem dX12_cue_11 : decode cX12_cue 11 = .ok (.iaload, 1) := by decide +kernel
theorem dX12_cue_12 : decode cX12_cue 12 = .ok (.if_icmp .ge 29, 3) := by decide +kernel
theorem dX12_cue_15 : decode cX12_cue 15 = .ok (.aload_n 0, 1) := by decide +kernel
theorem dX12_cue_16 : decode cX12_cue 16 = .ok (.iload_n 2, 1) := by decide +kernel
theorem dX12_cue_17 : decode cX12_cue 17 = .ok (.invokevirtual 105, 3) := by decide +kernel
theorem dX12_cue_20 : decode cX12_cue 20 = .ok (.aload_n 0, 1) := by decide +kernel
theorem dX12_cue_21 : decode cX12_cue 21 = .ok (.getfield 19, 3) := by decide +kernel
theorem dX12_cue_24 : decode cX12_cue 24 = .ok (.iconst 0, 1) := by decide +kernel
theorem dX12_cue_25 : decode cX12_cue 25 = .ok (.iaload, 1) := by decide +kernel
theorem dX12_cue_26 : decode cX12_cue 26 = .ok (.if_icmp .ne 7, 3) := by decide +kernel
theorem dX12_cue_29 : decode cX12_cue 29 = .ok (.iload_n 2, 1) := by decide +kernel
theorem dX12_cue_30 : decode cX12_cue 30 = .ok (.goto 4, 3) := by decide +kernel
theorem dX12_cue_33 : decode cX12_cue 33 = .ok (.iload_n 1, 1) := by decide +kernel
theorem dX12_cue_34 : decode cX12_cue 34 = .ok (.istore_n 1, 1) := by decide +kernel
theorem dX12_cue_35 : decode cX12_cue 35 = .ok (.iinc 2 1, 3) := by decide +kernel
theorem dX12_cue_38 : decode cX12_cue 38 = .ok (.goto (-33), 3) := by decide +kernel
theorem dX12_cue_41 : decode cX12_cue 41 = .ok (.iload_n 1, 1) := by decide +kernel
theorem dX12_cue_42 : decode cX12_cue 42 = .ok (.bipush (-9), 2) := by decide +kernel
theorem dX12_cue_44 : decode cX12_cue 44 = .ok (.if_icmp .ne 6, 3) := by decide +kernel
theorem dX12_cue_47 : decode cX12_cue 47 = .ok (.ldc 127, 2) := by decide +kernel
theorem dX12_cue_49 : decode cX12_cue 49 = .ok (.ireturn, 1) := by decide +kernel
theorem dX12_cue_50 : decode cX12_cue 50 = .ok (.aload_n 0, 1) := by decide +kernel
theorem dX12_cue_51 : decode cX12_cue 51 = .ok (.invokevirtual 121, 3) := by decide +kernel
theorem dX12_cue_54 : decode cX12_cue 54 = .ok (.aload_n 0, 1) := by decide +kernel
theorem dX12_cue_55 : decode cX12_cue 55 = .ok (.getfield 19, 3) := by decide +kernel
theorem dX12_cue_58 : decode cX12_cue 58 = .ok (.iconst 0, 1) := by decide +kernel
theorem dX12_cue_59 : decode cX12_cue 59 = .ok (.iaload, 1) := by decide +kernel
theorem dX12_cue_60 : decode cX12_cue 60 = .ok (.istore_n 2, 1) := by decide +kernel
theorem dX12_cue_61 : decode cX12_cue 61 = .ok (.aload_n 0, 1) := by decide +kernel
theorem dX12_cue_62 : decode cX12_cue 62 = .ok (.getfield 13, 3) := by decide +kernel
theorem dX12_cue_65 : decode cX12_cue 65 = .ok (.iconst 0, 1) := by decide +kernel
theorem dX12_cue_66 : decode cX12_cue 66 = .ok (.iaload, 1) := by decide +kernel
theorem dX12_cue_67 : decode cX12_cue 67 = .ok (.iconst 1, 1) := by decide +kernel
theorem dX12_cue_68 : decode cX12_cue 68 = .ok (.isub, 1) := by decide +kernel
theorem dX12_cue_69 : decode cX12_cue 69 = .ok (.istore_n 3, 1) := by decide +kernel
theorem dX12_cue_70 : decode cX12_cue 70 = .ok (.iload_n 3, 1) := by decide +kernel
theorem dX12_cue_71 : decode cX12_cue 71 = .ok (.ifCond .lt 140, 3) := by decide +kernel
theorem dX12_cue_74 : decode cX12_cue 74 = .ok (.aload_n 0, 1) := by decide +kernel
theorem dX12_cue_75 : decode cX12_cue 75 = .ok (.getfield 13, 3) := by decide +kernel
theorem dX12_cue_78 : decode cX12_cue 78 = .ok (.bipush 22, 2) := by decide +kernel
theorem dX12_cue_80 : decode cX12_cue 80 = .ok (.iload_n 3, 1) := by decide +kernel
theorem dX12_cue_81 : decode cX12_cue 81 = .ok (.iadd, 1) := by decide +kernel
theorem dX12_cue_82 : decode cX12_cue 82 = .ok (.iaload, 1) := by decide +kernel
theorem dX12_cue_83 : decode cX12_cue 83 = .ok (.aload_n 0, 1) := by decide +kernel
theorem dX12_cue_84 : decode cX12_cue 84 = .ok (.getfield 13, 3) := by decide +kernel
theorem dX12_cue_87 : decode cX12_cue 87 = .ok (.bipush 22, 2) := by decide +kernel
theorem dX12_cue_89 : decode cX12_cue 89 = .ok (.iload_n 1, 1) := by decide +kernel
theorem dX12_cue_90 : decode cX12_cue 90 = .ok (.iadd, 1) := by decide +kernel
theorem dX12_cue_91 : decode cX12_cue 91 = .ok (.iaload, 1) := by decide +kernel
theorem dX12_cue_92 : decode cX12_cue 92 = .ok (.if_icmp .ne 17, 3) := by decide +kernel
theorem dX12_cue_95 : decode cX12_cue 95 = .ok (.aload_n 0, 1) := by decide +kernel
theorem dX12_cue_96 : decode cX12_cue 96 = .ok (.iload_n 3, 1) := by decide +kernel
theorem dX12_cue_97 : decode cX12_cue 97 = .ok (.invokevirtual 105, 3) := by decide +kernel
theorem dX12_cue_100 : decode cX12_cue 100 = .ok (.bipush (-9), 2) := by decide +kernel
theorem dX12_cue_102 : decode cX12_cue 102 = .ok (.if_icmp .eq 7, 3) := by decide +kernel
theorem dX12_cue_105 : decode cX12_cue 105 = .ok (.iconst 1, 1) := by decide +kernel
theorem dX12_cue_106 : decode cX12_cue 106 = .ok (.goto 4, 3) := by decide +kernel
theorem dX12_cue_109 : decode cX12_cue 109 = .ok (.iconst 0, 1) := by decide +kernel
theorem dX12_cue_110 : decode cX12_cue 110 = .ok (.istore 4, 2) := by decide +kernel
theorem dX12_cue_112 : decode cX12_cue 112 = .ok (.iload 4, 2) := by decide +kernel
theorem dX12_cue_114 : decode cX12_cue 114 = .ok (.ifCond .eq 38, 3) := by decide +kernel
theorem dX12_cue_117 : decode cX12_cue 117 = .ok (.aload_n 0, 1) := by decide +kernel
theorem dX12_cue_118 : decode cX12_cue 118 = .ok (.iload_n 3, 1) := by decide +kernel
theorem dX12_cue_119 : decode cX12_cue 119 = .ok (.invokevirtual 105, 3) := by decide +kernel
theorem dX12_cue_122 : decode cX12_cue 122 = .ok (.aload_n 0, 1) := by decide +kernel
theorem dX12_cue_123 : decode cX12_cue 123 = .ok (.getfield 19, 3) := by decide +kernel
theorem dX12_cue_126 : decode cX12_cue 126 = .ok (.iconst 1, 1) := by decide +kernel
theorem dX12_cue_127 : decode cX12_cue 127 = .ok (.iaload, 1) := by decide +kernel
theorem dX12_cue_128 : decode cX12_cue 128 = .ok (.invokestatic 128, 3) := by decide +kernel
theorem dX12_cue_131 : decode cX12_cue 131 = .ok (.iload_n 2, 1) := by decide +kernel
theorem dX12_cue_132 : decode cX12_cue 132 = .ok (.aload_n 0, 1) := by decide +kernel
theorem dX12_cue_133 : decode cX12_cue 133 = .ok (.getfield 19, 3) := by decide +kernel
theorem dX12_cue_136 : decode cX12_cue 136 = .ok (.iconst 1, 1) := by decide +kernel
theorem dX12_cue_137 : decode cX12_cue 137 = .ok (.iaload, 1) := by decide +kernel
theorem dX12_cue_138 : decode cX12_cue 138 = .ok (.invokestatic 128, 3) := by decide +kernel
theorem dX12_cue_141 : decode cX12_cue 141 = .ok (.if_icmp .ge 11, 3) := by decide +kernel
theorem dX12_cue_144 : decode cX12_cue 144 = .ok (.aload_n 0, 1) := by decide +kernel
theorem dX12_cue_145 : decode cX12_cue 145 = .ok (.iload_n 3, 1) := by decide +kernel
theorem dX12_cue_146 : decode cX12_cue 146 = .ok (.invokevirtual 105, 3) := by decide +kernel
theorem dX12_cue_149 : decode cX12_cue 149 = .ok (.goto 4, 3) := by decide +kernel
theorem dX12_cue_152 : decode cX12_cue 152 = .ok (.iload_n 2, 1) := by decide +kernel
theorem dX12_cue_153 : decode cX12_cue 153 = .ok (.istore_n 2, 1) := by decide +kernel
theorem dX12_cue_154 : decode cX12_cue 154 = .ok (.iload 4, 2) := by decide +kernel
theorem dX12_cue_156 : decode cX12_cue 156 = .ok (.ifCond .eq 47, 3) := by decide +kernel
theorem dX12_cue_159 : decode cX12_cue 159 = .ok (.aload_n 0, 1) := by decide +kernel
theorem dX12_cue_160 : decode cX12_cue 160 = .ok (.iload_n 3, 1) := by decide +kernel
theorem dX12_cue_161 : decode cX12_cue 161 = .ok (.invokevirtual 105, 3) := by decide +kernel
theorem dX12_cue_164 : decode cX12_cue 164 = .ok (.aload_n 0, 1) := by decide +kernel
theorem dX12_cue_165 : decode cX12_cue 165 = .ok (.getfield 19, 3) := by decide +kernel
theorem dX12_cue_168 : decode cX12_cue 168 = .ok (.iconst 1, 1) := by decide +kernel
theorem dX12_cue_169 : decode cX12_cue 169 = .ok (.iaload, 1) := by decide +kernel
theorem dX12_cue_170 : decode cX12_cue 170 = .ok (.invokestatic 128, 3) := by decide +kernel
theorem dX12_cue_173 : decode cX12_cue 173 = .ok (.iload_n 2, 1) := by decide +kernel
theorem dX12_cue_174 : decode cX12_cue 174 = .ok (.aload_n 0, 1) := by decide +kernel
theorem dX12_cue_175 : decode cX12_cue 175 = .ok (.getfield 19, 3) := by decide +kernel
theorem dX12_cue_178 : decode cX12_cue 178 = .ok (.iconst 1, 1) := by decide +kernel
theorem dX12_cue_179 : decode cX12_cue 179 = .ok (.iaload, 1) := by decide +kernel
theorem dX12_cue_180 : decode cX12_cue 180 = .ok (.invokestatic 128, 3) := by decide +kernel
theorem dX12_cue_183 : decode cX12_cue 183 = .ok (.if_icmp .ne 20, 3) := by decide +kernel
theorem dX12_cue_186 : decode cX12_cue 186 = .ok (.aload_n 0, 1) := by decide +kernel
theorem dX12_cue_187 : decode cX12_cue 187 = .ok (.iload_n 3, 1) := by decide +kernel
theorem dX12_cue_188 : decode cX12_cue 188 = .ok (.invokevirtual 105, 3) := by decide +kernel
theorem dX12_cue_191 : decode cX12_cue 191 = .ok (.iload_n 2, 1) := by decide +kernel
theorem dX12_cue_192 : decode cX12_cue 192 = .ok (.if_icmp .ge 11, 3) := by decide +kernel
theorem dX12_cue_195 : decode cX12_cue 195 = .ok (.aload_n 0, 1) := by decide +kernel
theorem dX12_cue_196 : decode cX12_cue 196 = .ok (.iload_n 3, 1) := by decide +kernel
theorem dX12_cue_197 : decode cX12_cue 197 = .ok (.invokevirtual 105, 3) := by decide +kernel
theorem dX12_cue_200 : decode cX12_cue 200 = .ok (.goto 4, 3) := by decide +kernel
theorem dX12_cue_203 : decode cX12_cue 203 = .ok (.iload_n 2, 1) := by decide +kernel
theorem dX12_cue_204 : decode cX12_cue 204 = .ok (.istore_n 2, 1) := by decide +kernel
theorem dX12_cue_205 : decode cX12_cue 205 = .ok (.iinc 3 (-1), 3) := by decide +kernel
theorem dX12_cue_208 : decode cX12_cue 208 = .ok (.goto (-138), 3) := by decide +kernel
theorem dX12_cue_211 : decode cX12_cue 211 = .ok (.aload_n 0, 1) := by decide +kernel
theorem dX12_cue_212 : decode cX12_cue 212 = .ok (.getfield 19, 3) := by decide +kernel
theorem dX12_cue_215 : decode cX12_cue 215 = .ok (.iconst 1, 1) := by decide +kernel
theorem dX12_cue_216 : decode cX12_cue 216 = .ok (.iload_n 2, 1) := by decide +kernel
theorem dX12_cue_217 : decode cX12_cue 217 = .ok (.iastore, 1) := by decide +kernel
theorem dX12_cue_218 : decode cX12_cue 218 = .ok (.iload_n 2, 1) := by decide +kernel
theorem dX12_cue_219 : decode cX12_cue 219 = .ok (.ireturn, 1) := by decide +kernel
set_option maxRecDepth 20000 in
theorem ggX12_cuts_X12_isSection : GoodIn wsX12_cuts wsX12_isSection := goodIn_r _ [6, 7, 8, 9, 5, 10, 38, 39, 40, 41, 42, 43, 44, 45, 46, 47, 48, 49, 50, 51, 52, 53, 54, 55] (by decide +kernel) (by decide +kernel)
set_option maxRecDepth 20000 in
theorem gX12_cuts_X12_isSection : GoodIn wsX12_cuts (wsV RX12 111 RX12 yX12_isSection wsX12_isSection) := goodIn_app (goodIn_of _ (by decide +kernel)) ggX12_cuts_X12_isSection
set_option maxRecDepth 20000 in
theorem ggX12_cuts_X12_mayCut : GoodIn wsX12_cuts wsX12_mayCut := goodIn_r _ [14, 1, 7, 15, 16, 5, 17, 18, 19, 20, 21, 22, 23, 24, 25, 26, 27, 28, 29, 38, 39, 40, 41, 42, 43, 44, 45, 46, 47, 48, 49, 50, 51, 52, 53, 54, 55] (by decide +kernel) (by decide +kernel)
set_option maxRecDepth 20000 in
theorem gX12_cuts_X12_mayCut : GoodIn wsX12_cuts (wsV RX12 108 RX12 yX12_mayCut wsX12_mayCut) := goodIn_app (goodIn_of _ (by decide +kernel)) ggX12_cuts_X12_mayCut
set_option maxRecDepth 20000 in
theorem ggX12_cuts_X12_keeps : GoodIn wsX12_cuts wsX12_keeps := goodIn_r _ [33, 1, 38, 39, 40, 41, 42, 43, 44, 45, 46, 47, 48, 49, 50, 51, 52, 53, 54, 55] (by decide +kernel) (by decide +kernel)
set_option maxRecDepth 20000 in
theorem gX12_cuts_X12_keeps : GoodIn wsX12_cuts (wsV RX12 121 RX12 yX12_keeps wsX12_keeps) := goodIn_app (goodIn_of _ (by decide +kernel)) ggX12_cuts_X12_keeps
set_option maxRecDepth 20000 in
theorem ggX12_cuts_X12_length : GoodIn wsX12_cuts wsX12_length := goodIn_r _ [37, 7, 1, 22, 23, 24, 5, 25, 15, 16, 17, 26, 27, 28, 29, 38, 39, 40, 41, 42, 43, 44, 45, 46, 47, 48, 49, 50, 51, 52, 53, 54, 55] (by decide +kernel) (by decide +kernel)
set_option maxRecDepth 20000 in
theorem gX12_cuts_X12_length : GoodIn wsX12_cuts (wsV RX12 117 RX12 yX12_length wsX12_length) := goodIn_app (goodIn_of _ (by decide +kernel)) ggX12_cuts_X12_length
theorem dX12_cuts_0 : decode cX12_cuts 0 = .ok (.aload_n 0, 1) := by decide +kernel
theorem dX12_cuts_1 : decode cX12_cuts 1 = .ok (.iload_n 1, 1) := by decide +kernel
theorem dX12_cuts_2 : decode cX12_cuts 2 = .ok (.invokevirtual 111, 3) := by decide +kernel
theorem dX12_cuts_5 : decode cX12_cuts 5 = .ok (.ifCond .ne 5, 3) := by decide +kernel
theorem dX12_cuts_8 : decode cX12_cuts 8 = .ok (.iconst (-1), 1) := by decide +kernel
theorem dX12_cuts_9 : decode cX12_cuts 9 = .ok (.ireturn, 1) := by decide +kernel
theorem dX12_cuts_10 : decode cX12_cuts 10 = .ok (.aload_n 0, 1) := by decide +kernel
theorem dX12_cuts_11 : decode cX12_cuts 11 = .ok (.iload_n 1, 1) := by decide +kernel
theorem dX12_cuts_12 : decode cX12_cuts 12 = .ok (.invokevirtual 108, 3) := by decide +kernel
theorem dX12_cuts_15 : decode cX12_cuts 15 = .ok (.ifCond .ne 6, 3) := by decide +kernel
theorem dX12_cuts_18 : decode cX12_cuts 18 = .ok (.bipush (-2), 2) := by decide +kernel
theorem dX12_cuts_20 : decode cX12_cuts 20 = .ok (.ireturn, 1) := by decide +kernel
theorem dX12_cuts_21 : decode cX12_cuts 21 = .ok (.aload_n 0, 1) := by decide +kernel
theorem dX12_cuts_22 : decode cX12_cuts 22 = .ok (.invokevirtual 121, 3) := by decide +kernel
theorem dX12_cuts_25 : decode cX12_cuts 25 = .ok (.aload_n 0, 1) := by decide +kernel
theorem dX12_cuts_26 : decode cX12_cuts 26 = .ok (.getfield 19, 3) := by decide +kernel
theorem dX12_cuts_29 : decode cX12_cuts 29 = .ok (.iconst 3, 1) := by decide +kernel
theorem dX12_cuts_30 : decode cX12_cuts 30 = .ok (.dup2, 1) := by decide +kernel
theorem dX12_cuts_31 : decode cX12_cuts 31 = .ok (.iaload, 1) := by decide +kernel
theorem dX12_cuts_32 : decode cX12_cuts 32 = .ok (.iconst 1, 1) := by decide +kernel
theorem dX12_cuts_33 : decode cX12_cuts 33 = .ok (.iload_n 1, 1) := by decide +kernel
theorem dX12_cuts_34 : decode cX12_cuts 34 = .ok (.ishl, 1) := by decide +kernel
theorem dX12_cuts_35 : decode cX12_cuts 35 = .ok (.ior, 1) := by decide +kernel
theorem dX12_cuts_36 : decode cX12_cuts 36 = .ok (.iastore, 1) := by decide +kernel
theorem dX12_cuts_37 : decode cX12_cuts 37 = .ok (.aload_n 0, 1) := by decide +kernel
theorem dX12_cuts_38 : decode cX12_cuts 38 = .ok (.invokevirtual 117, 3) := by decide +kernel
theorem dX12_cuts_41 : decode cX12_cuts 41 = .ok (.ireturn, 1) := by decide +kernel
set_option maxRecDepth 20000 in
theorem ggX12_waits_X12_in : GoodIn wsX12_waits wsX12_in := goodIn_r _ [5] (by decide +kernel) (by decide +kernel)
set_option maxRecDepth 20000 in
theorem gX12_waits_X12_in : GoodIn wsX12_waits (va_wsS RX12 51 yX12_in wsX12_in) := goodIn_app (goodIn_of _ (by decide +kernel)) ggX12_waits_X12_in
set_option maxRecDepth 20000 in
theorem ggX12_waits_X12_keeps : GoodIn wsX12_waits wsX12_keeps := goodIn_r _ [9, 1, 10, 11, 12, 13, 14, 15, 16, 17, 18, 19, 20, 21, 22, 23, 24, 25, 26, 27] (by decide +kernel) (by decide +kernel)
set_option maxRecDepth 20000 in
theorem gX12_waits_X12_keeps : GoodIn wsX12_waits (wsV RX12 121 RX12 yX12_keeps wsX12_keeps) := goodIn_app (goodIn_of _ (by decide +kernel)) ggX12_waits_X12_keeps
theorem dX12_waits_0 : decode cX12_waits 0 = .ok (.iload_n 1, 1) := by decide +kernel
theorem dX12_waits_1 : decode cX12_waits 1 = .ok (.iconst 1, 1) := by decide +kernel
theorem dX12_waits_2 : decode cX12_waits 2 = .ok (.bipush 99, 2) := by decide +kernel
theorem dX12_waits_4 : decode cX12_waits 4 = .ok (.invokestatic 51, 3) := by decide +kernel
theorem dX12_waits_7 : decode cX12_waits 7 = .ok (.ifCond .ne 5, 3) := by decide +kernel
theorem dX12_waits_10 : decode cX12_waits 10 = .ok (.iconst (-1), 1) := by decide +kernel
theorem dX12_waits_11 : decode cX12_waits 11 = .ok (.ireturn, 1) := by decide +kernel
theorem dX12_waits_12 : decode cX12_waits 12 = .ok (.aload_n 0, 1) := by decide +kernel
theorem dX12_waits_13 : decode cX12_waits 13 = .ok (.getfield 19, 3) := by decide +kernel
theorem dX12_waits_16 : decode cX12_waits 16 = .ok (.iconst 2, 1) := by decide +kernel
theorem dX12_waits_17 : decode cX12_waits 17 = .ok (.iaload, 1) := by decide +kernel
theorem dX12_waits_18 : decode cX12_waits 18 = .ok (.iload_n 1, 1) := by decide +kernel
theorem dX12_waits_19 : decode cX12_waits 19 = .ok (.iadd, 1) := by decide +kernel
theorem dX12_waits_20 : decode cX12_waits 20 = .ok (.sipush 999, 3) := by decide +kernel
theorem dX12_waits_23 : decode cX12_waits 23 = .ok (.if_icmp .le 6, 3) := by decide +kernel
theorem dX12_waits_26 : decode cX12_waits 26 = .ok (.bipush (-2), 2) := by decide +kernel
theorem dX12_waits_28 : decode cX12_waits 28 = .ok (.ireturn, 1) := by decide +kernel
theorem dX12_waits_29 : decode cX12_waits 29 = .ok (.aload_n 0, 1) := by decide +kernel
theorem dX12_waits_30 : decode cX12_waits 30 = .ok (.invokevirtual 121, 3) := by decide +kernel
theorem dX12_waits_33 : decode cX12_waits 33 = .ok (.aload_n 0, 1) := by decide +kernel
theorem dX12_waits_34 : decode cX12_waits 34 = .ok (.getfield 19, 3) := by decide +kernel
theorem dX12_waits_37 : decode cX12_waits 37 = .ok (.iconst 2, 1) := by decide +kernel
theorem dX12_waits_38 : decode cX12_waits 38 = .ok (.dup2, 1) := by decide +kernel
theorem dX12_waits_39 : decode cX12_waits 39 = .ok (.iaload, 1) := by decide +kernel
theorem dX12_waits_40 : decode cX12_waits 40 = .ok (.iload_n 1, 1) := by decide +kernel
theorem dX12_waits_41 : decode cX12_waits 41 = .ok (.iadd, 1) := by decide +kernel
theorem dX12_waits_42 : decode cX12_waits 42 = .ok (.iastore, 1) := by decide +kernel
theorem dX12_waits_43 : decode cX12_waits 43 = .ok (.aload_n 0, 1) := by decide +kernel
theorem dX12_waits_44 : decode cX12_waits 44 = .ok (.getfield 19, 3) := by decide +kernel
theorem dX12_waits_47 : decode cX12_waits 47 = .ok (.iconst 2, 1) := by decide +kernel
theorem dX12_waits_48 : decode cX12_waits 48 = .ok (.iaload, 1) := by decide +kernel
theorem dX12_waits_49 : decode cX12_waits 49 = .ok (.ireturn, 1) := by decide +kernel
theorem dX12_undo_0 : decode cX12_undo 0 = .ok (.aload_n 0, 1) := by decide +kernel
theorem dX12_undo_1 : decode cX12_undo 1 = .ok (.getfield 19, 3) := by decide +kernel
theorem dX12_undo_4 : decode cX12_undo 4 = .ok (.iconst 5, 1) := by decide +kernel
theorem dX12_undo_5 : decode cX12_undo 5 = .ok (.iaload, 1) := by decide +kernel
theorem dX12_undo_6 : decode cX12_undo 6 = .ok (.ifCond .ne 6, 3) := by decide +kernel
theorem dX12_undo_9 : decode cX12_undo 9 = .ok (.bipush (-2), 2) := by decide +kernel
theorem dX12_undo_11 : decode cX12_undo 11 = .ok (.ireturn, 1) := by decide +kernel
theorem dX12_undo_12 : decode cX12_undo 12 = .ok (.aload_n 0, 1) := by decide +kernel
theorem dX12_undo_13 : decode cX12_undo 13 = .ok (.getfield 19, 3) := by decide +kernel
theorem dX12_undo_16 : decode cX12_undo 16 = .ok (.iconst 5, 1) := by decide +kernel
theorem dX12_undo_17 : decode cX12_undo 17 = .ok (.dup2, 1) := by decide +kernel
theorem dX12_undo_18 : decode cX12_undo 18 = .ok (.iaload, 1) := by decide +kernel
theorem dX12_undo_19 : decode cX12_undo 19 = .ok (.iconst 1, 1) := by decide +kernel
theorem dX12_undo_20 : decode cX12_undo 20 = .ok (.isub, 1) := by decide +kernel
theorem dX12_undo_21 : decode cX12_undo 21 = .ok (.iastore, 1) := by decide +kernel
theorem dX12_undo_22 : decode cX12_undo 22 = .ok (.iconst 0, 1) := by decide +kernel
theorem dX12_undo_23 : decode cX12_undo 23 = .ok (.istore_n 1, 1) := by decide +kernel
theorem dX12_undo_24 : decode cX12_undo 24 = .ok (.iload_n 1, 1) := by decide +kernel
theorem dX12_undo_25 : decode cX12_undo 25 = .ok (.iconst 5, 1) := by decide +kernel
theorem dX12_undo_26 : decode cX12_undo 26 = .ok (.if_icmp .ge 33, 3) := by decide +kernel
theorem dX12_undo_29 : decode cX12_undo 29 = .ok (.aload_n 0, 1) := by decide +kernel
theorem dX12_undo_30 : decode cX12_undo 30 = .ok (.getfield 19, 3) := by decide +kernel
theorem dX12_undo_33 : decode cX12_undo 33 = .ok (.iload_n 1, 1) := by decide +kernel
theorem dX12_undo_34 : decode cX12_undo 34 = .ok (.aload_n 0, 1) := by decide +kernel
theorem dX12_undo_35 : decode cX12_undo 35 = .ok (.getfield 19, 3) := by decide +kernel
theorem dX12_undo_38 : decode cX12_undo 38 = .ok (.bipush 6, 2) := by decide +kernel
theorem dX12_undo_40 : decode cX12_undo 40 = .ok (.iconst 5, 1) := by decide +kernel
theorem dX12_undo_41 : decode cX12_undo 41 = .ok (.aload_n 0, 1) := by decide +kernel
theorem dX12_undo_42 : decode cX12_undo 42 = .ok (.getfield 19, 3) := by decide +kernel
theorem dX12_undo_45 : decode cX12_undo 45 = .ok (.iconst 5, 1) := by decide +kernel
theorem dX12_undo_46 : decode cX12_undo 46 = .ok (.iaload, 1) := by decide +kernel
theorem dX12_undo_47 : decode cX12_undo 47 = .ok (.imul, 1) := by decide +kernel
theorem dX12_undo_48 : decode cX12_undo 48 = .ok (.iadd, 1) := by decide +kernel
theorem dX12_undo_49 : decode cX12_undo 49 = .ok (.iload_n 1, 1) := by decide +kernel
theorem dX12_undo_50 : decode cX12_undo 50 = .ok (.iadd, 1) := by decide +kernel
theorem dX12_undo_51 : decode cX12_undo 51 = .ok (.iaload, 1) := by decide +kernel
theorem dX12_undo_52 : decode cX12_undo 52 = .ok (.iastore, 1) := by decide +kernel
theorem dX12_undo_53 : decode cX12_undo 53 = .ok (.iinc 1 1, 3) := by decide +kernel
theorem dX12_undo_56 : decode cX12_undo 56 = .ok (.goto (-32), 3) := by decide +kernel
theorem dX12_undo_59 : decode cX12_undo 59 = .ok (.aload_n 0, 1) := by decide +kernel
theorem dX12_undo_60 : decode cX12_undo 60 = .ok (.getfield 19, 3) := by decide +kernel
theorem dX12_undo_63 : decode cX12_undo 63 = .ok (.iconst 5, 1) := by decide +kernel
theorem dX12_undo_64 : decode cX12_undo 64 = .ok (.iaload, 1) := by decide +kernel
theorem dX12_undo_65 : decode cX12_undo 65 = .ok (.ireturn, 1) := by decide +kernel
set_option maxRecDepth 20000 in
theorem ggX12_now_X12_length : GoodIn wsX12_now wsX12_length := goodIn_r _ [8, 1, 2, 9, 10, 11, 7, 12, 13, 14, 15, 16, 17, 18, 19, 36, 37, 38, 39, 40, 41, 42, 43, 44, 45, 46, 47, 48, 49, 50, 51, 52, 53] (by decide +kernel) (by decide +kernel)
set_option maxRecDepth 20000 in
theorem gX12_now_X12_length : GoodIn wsX12_now (wsV RX12 117 RX12 yX12_length wsX12_length) := goodIn_app (goodIn_of _ (by decide +kernel)) ggX12_now_X12_length
set_option maxRecDepth 20000 in
theorem ggX12_now_X12_noteBar : GoodIn wsX12_now wsX12_noteBar := goodIn_r _ [23, 1, 9, 10, 11, 7, 12, 13, 14, 15, 16, 17, 18, 19, 36, 37, 38, 39, 40, 41, 42, 43, 44, 45, 46, 47, 48, 49, 50, 51, 52, 53] (by decide +kernel) (by decide +kernel)
set_option maxRecDepth 20000 in
theorem gX12_now_X12_noteBar : GoodIn wsX12_now (wsV RX12 124 RX12 yX12_noteBar wsX12_noteBar) := goodIn_app (goodIn_of _ (by decide +kernel)) ggX12_now_X12_noteBar
set_option maxRecDepth 20000 in
theorem ggX12_now_X12_allThatMay : GoodIn wsX12_now wsX12_allThatMay := goodIn_r _ [27, 1, 28, 29, 30, 7, 31, 2, 13, 14, 15, 32, 33, 34, 35, 9, 10, 11, 12, 16, 17, 18, 19, 36, 37, 38, 39, 40, 41, 42, 43, 44, 45, 46, 47, 48, 49, 50, 51, 52, 53] (by decide +kernel) (by decide +kernel)
set_option maxRecDepth 20000 in
theorem gX12_now_X12_allThatMay : GoodIn wsX12_now (wsV RX12 131 RX12 yX12_allThatMay wsX12_allThatMay) := goodIn_app (goodIn_of _ (by decide +kernel)) ggX12_now_X12_allThatMay
theorem dX12_now_0 : decode cX12_now 0 = .ok (.aload_n 0, 1) := by decide +kernel
theorem dX12_now_1 : decode cX12_now 1 = .ok (.getfield 13, 3) := by decide +kernel
theorem dX12_now_4 : decode cX12_now 4 = .ok (.iconst 0, 1) := by decide +kernel
theorem dX12_now_5 : decode cX12_now 5 = .ok (.iaload, 1) := by decide +kernel
theorem dX12_now_6 : decode cX12_now 6 = .ok (.ifCond .ne 7, 3) := by decide +kernel
theorem dX12_now_9 : decode cX12_now 9 = .ok (.iconst 1, 1) := by decide +kernel
theorem dX12_now_10 : decode cX12_now 10 = .ok (.goto 4, 3) := by decide +kernel
theorem dX12_now_13 : decode cX12_now 13 = .ok (.iconst 0, 1) := by decide +kernel
theorem dX12_now_14 : decode cX12_now 14 = .ok (.istore_n 2, 1) := by decide +kernel
theorem dX12_now_15 : decode cX12_now 15 = .ok (.iload_n 1, 1) := by decide +kernel
theorem dX12_now_16 : decode cX12_now 16 = .ok (.tableswitch 136 0 8 #[52, 52, 52, 52, 52, 59, 64, 84, 111], 52) := by decide +kernel
theorem dX12_now_68 : decode cX12_now 68 = .ok (.aload_n 0, 1) := by decide +kernel
theorem dX12_now_69 : decode cX12_now 69 = .ok (.getfield 19, 3) := by decide +kernel
theorem dX12_now_72 : decode cX12_now 72 = .ok (.iload_n 1, 1) := by decide +kernel
theorem dX12_now_73 : decode cX12_now 73 = .ok (.iaload, 1) := by decide +kernel
theorem dX12_now_74 : decode cX12_now 74 = .ok (.ireturn, 1) := by decide +kernel
theorem dX12_now_75 : decode cX12_now 75 = .ok (.aload_n 0, 1) := by decide +kernel
theorem dX12_now_76 : decode cX12_now 76 = .ok (.invokevirtual 117, 3) := by decide +kernel
theorem dX12_now_79 : decode cX12_now 79 = .ok (.ireturn, 1) := by decide +kernel
theorem dX12_now_80 : decode cX12_now 80 = .ok (.iload_n 2, 1) := by decide +kernel
theorem dX12_now_81 : decode cX12_now 81 = .ok (.ifCond .eq 8, 3) := by decide +kernel
theorem dX12_now_84 : decode cX12_now 84 = .ok (.bipush (-9), 2) := by decide +kernel
theorem dX12_now_86 : decode cX12_now 86 = .ok (.goto 13, 3) := by decide +kernel
theorem dX12_now_89 : decode cX12_now 89 = .ok (.aload_n 0, 1) := by decide +kernel
theorem dX12_now_90 : decode cX12_now 90 = .ok (.aload_n 0, 1) := by decide +kernel
theorem dX12_now_91 : decode cX12_now 91 = .ok (.getfield 19, 3) := by decide +kernel
theorem dX12_now_94 : decode cX12_now 94 = .ok (.iconst 3, 1) := by decide +kernel
theorem dX12_now_95 : decode cX12_now 95 = .ok (.iaload, 1) := by decide +kernel
theorem dX12_now_96 : decode cX12_now 96 = .ok (.invokevirtual 124, 3) := by decide +kernel
theorem dX12_now_99 : decode cX12_now 99 = .ok (.ireturn, 1) := by decide +kernel
theorem dX12_now_100 : decode cX12_now 100 = .ok (.iload_n 2, 1) := by decide +kernel
theorem dX12_now_101 : decode cX12_now 101 = .ok (.ifCond .eq 8, 3) := by decide +kernel
theorem dX12_now_104 : decode cX12_now 104 = .ok (.ldc 127, 2) := by decide +kernel
theorem dX12_now_106 : decode cX12_now 106 = .ok (.goto 20, 3) := by decide +kernel
theorem dX12_now_109 : decode cX12_now 109 = .ok (.aload_n 0, 1) := by decide +kernel
theorem dX12_now_110 : decode cX12_now 110 = .ok (.aload_n 0, 1) := by decide +kernel
theorem dX12_now_111 : decode cX12_now 111 = .ok (.getfield 19, 3) := by decide +kernel
theorem dX12_now_114 : decode cX12_now 114 = .ok (.iconst 3, 1) := by decide +kernel
theorem dX12_now_115 : decode cX12_now 115 = .ok (.iaload, 1) := by decide +kernel
theorem dX12_now_116 : decode cX12_now 116 = .ok (.invokevirtual 124, 3) := by decide +kernel
theorem dX12_now_119 : decode cX12_now 119 = .ok (.aload_n 0, 1) := by decide +kernel
theorem dX12_now_120 : decode cX12_now 120 = .ok (.getfield 19, 3) := by decide +kernel
theorem dX12_now_123 : decode cX12_now 123 = .ok (.iconst 0, 1) := by decide +kernel
theorem dX12_now_124 : decode cX12_now 124 = .ok (.iaload, 1) := by decide +kernel
theorem dX12_now_125 : decode cX12_now 125 = .ok (.isub, 1) := by decide +kernel
theorem dX12_now_126 : decode cX12_now 126 = .ok (.ireturn, 1) := by decide +kernel
theorem dX12_now_127 : decode cX12_now 127 = .ok (.iload_n 2, 1) := by decide +kernel
theorem dX12_now_128 : decode cX12_now 128 = .ok (.ifCond .eq 8, 3) := by decide +kernel
theorem dX12_now_131 : decode cX12_now 131 = .ok (.bipush (-9), 2) := by decide +kernel
theorem dX12_now_133 : decode cX12_now 133 = .ok (.goto 18, 3) := by decide +kernel
theorem dX12_now_136 : decode cX12_now 136 = .ok (.aload_n 0, 1) := by decide +kernel
theorem dX12_now_137 : decode cX12_now 137 = .ok (.aload_n 0, 1) := by decide +kernel
theorem dX12_now_138 : decode cX12_now 138 = .ok (.getfield 19, 3) := by decide +kernel
theorem dX12_now_141 : decode cX12_now 141 = .ok (.iconst 3, 1) := by decide +kernel
theorem dX12_now_142 : decode cX12_now 142 = .ok (.iaload, 1) := by decide +kernel
theorem dX12_now_143 : decode cX12_now 143 = .ok (.aload_n 0, 1) := by decide +kernel
theorem dX12_now_144 : decode cX12_now 144 = .ok (.invokevirtual 131, 3) := by decide +kernel
theorem dX12_now_147 : decode cX12_now 147 = .ok (.ior, 1) := by decide +kernel
theorem dX12_now_148 : decode cX12_now 148 = .ok (.invokevirtual 124, 3) := by decide +kernel
theorem dX12_now_151 : decode cX12_now 151 = .ok (.ireturn, 1) := by decide +kernel
theorem dX12_now_152 : decode cX12_now 152 = .ok (.ldc 127, 2) := by decide +kernel
theorem dX12_now_154 : decode cX12_now 154 = .ok (.ireturn, 1) := by decide +kernel
set_option maxRecDepth 20000 in
theorem ggX12_trim_X12_in : GoodIn wsX12_trim wsX12_in := goodIn_r _ [6] (by decide +kernel) (by decide +kernel)
set_option maxRecDepth 20000 in
theorem gX12_trim_X12_in : GoodIn wsX12_trim (va_wsS RX12 51 yX12_in wsX12_in) := goodIn_app (goodIn_of _ (by decide +kernel)) ggX12_trim_X12_in
set_option maxRecDepth 20000 in
theorem ggX12_trim_X12_allThatMay : GoodIn wsX12_trim wsX12_allThatMay := goodIn_r _ [10, 1, 11, 12, 13, 5, 14, 2, 15, 16, 17, 18, 19, 20, 21, 22, 23, 24, 25, 26, 27, 28, 29, 37, 38, 39, 40, 41, 42, 43, 44, 45, 46, 47, 48, 49, 50, 51, 52, 53, 54] (by decide +kernel) (by decide +kernel)
set_option maxRecDepth 20000 in
theorem gX12_trim_X12_allThatMay : GoodIn wsX12_trim (wsV RX12 131 RX12 yX12_allThatMay wsX12_allThatMay) := goodIn_app (goodIn_of _ (by decide +kernel)) ggX12_trim_X12_allThatMay
set_option maxRecDepth 20000 in
theorem ggX12_trim_X12_noteBar : GoodIn wsX12_trim wsX12_noteBar := goodIn_r _ [33, 1, 22, 23, 24, 5, 25, 15, 16, 17, 26, 27, 28, 29, 37, 38, 39, 40, 41, 42, 43, 44, 45, 46, 47, 48, 49, 50, 51, 52, 53, 54] (by decide +kernel) (by decide +kernel)
set_option maxRecDepth 20000 in
theorem gX12_trim_X12_noteBar : GoodIn wsX12_trim (wsV RX12 124 RX12 yX12_noteBar wsX12_noteBar) := goodIn_app (goodIn_of _ (by decide +kernel)) ggX12_trim_X12_noteBar
set_option maxRecDepth 20000 in
theorem ggX12_trim_X12_ones : GoodIn wsX12_trim wsX12_ones := goodIn_r _ [36] (by decide +kernel) (by decide +kernel)
set_option maxRecDepth 20000 in
theorem gX12_trim_X12_ones : GoodIn wsX12_trim (va_wsS RX12 134 yX12_ones wsX12_ones) := goodIn_app (goodIn_of _ (by decide +kernel)) ggX12_trim_X12_ones
theorem dX12_trim_0 : decode cX12_trim 0 = .ok (.iload_n 1, 1) := by decide +kernel
theorem dX12_trim_1 : decode cX12_trim 1 = .ok (.iconst 0, 1) := by decide +kernel
theorem dX12_trim_2 : decode cX12_trim 2 = .ok (.sipush 999, 3) := by decide +kernel
theorem dX12_trim_5 : decode cX12_trim 5 = .ok (.invokestatic 51, 3) := by decide +kernel
theorem dX12_trim_8 : decode cX12_trim 8 = .ok (.ifCond .ne 5, 3) := by decide +kernel
theorem dX12_trim_11 : decode cX12_trim 11 = .ok (.iconst (-1), 1) := by decide +kernel
theorem dX12_trim_12 : decode cX12_trim 12 = .ok (.ireturn, 1) := by decide +kernel
theorem dX12_trim_13 : decode cX12_trim 13 = .ok (.aload_n 0, 1) := by decide +kernel
theorem dX12_trim_14 : decode cX12_trim 14 = .ok (.invokevirtual 131, 3) := by decide +kernel
theorem dX12_trim_17 : decode cX12_trim 17 = .ok (.istore_n 2, 1) := by decide +kernel
theorem dX12_trim_18 : decode cX12_trim 18 = .ok (.bipush (-9), 2) := by decide +kernel
theorem dX12_trim_20 : decode cX12_trim 20 = .ok (.istore_n 3, 1) := by decide +kernel
theorem dX12_trim_21 : decode cX12_trim 21 = .ok (.iconst 0, 1) := by decide +kernel
theorem dX12_trim_22 : decode cX12_trim 22 = .ok (.istore 4, 2) := by decide +kernel
theorem dX12_trim_24 : decode cX12_trim 24 = .ok (.iload 4, 2) := by decide +kernel
theorem dX12_trim_26 : decode cX12_trim 26 = .ok (.iconst 1, 1) := by decide +kernel
theorem dX12_trim_27 : decode cX12_trim 27 = .ok (.aload_n 0, 1) := by decide +kernel
theorem dX12_trim_28 : decode cX12_trim 28 = .ok (.getfield 13, 3) := by decide +kernel
theorem dX12_trim_31 : decode cX12_trim 31 = .ok (.iconst 0, 1) := by decide +kernel
theorem dX12_trim_32 : decode cX12_trim 32 = .ok (.iaload, 1) := by decide +kernel
theorem dX12_trim_33 : decode cX12_trim 33 = .ok (.ishl, 1) := by decide +kernel
theorem dX12_trim_34 : decode cX12_trim 34 = .ok (.if_icmp .ge 81, 3) := by decide +kernel
theorem dX12_trim_37 : decode cX12_trim 37 = .ok (.aload_n 0, 1) := by decide +kernel
theorem dX12_trim_38 : decode cX12_trim 38 = .ok (.getfield 13, 3) := by decide +kernel
theorem dX12_trim_41 : decode cX12_trim 41 = .ok (.iconst 0, 1) := by decide +kernel
theorem dX12_trim_42 : decode cX12_trim 42 = .ok (.iaload, 1) := by decide +kernel
theorem dX12_trim_43 : decode cX12_trim 43 = .ok (.ifCond .le 72, 3) := by decide +kernel
theorem dX12_trim_46 : decode cX12_trim 46 = .ok (.iload 4, 2) := by decide +kernel
theorem dX12_trim_48 : decode cX12_trim 48 = .ok (.iload_n 2, 1) := by decide +kernel
theorem dX12_trim_49 : decode cX12_trim 49 = .ok (.iconst (-1), 1) := by decide +kernel
theorem dX12_trim_50 : decode cX12_trim 50 = .ok (.ixor, 1) := by decide +kernel
theorem dX12_trim_51 : decode cX12_trim 51 = .ok (.iand, 1) := by decide +kernel
theorem dX12_trim_52 : decode cX12_trim 52 = .ok (.ifCond .ne 24, 3) := by decide +kernel
theorem dX12_trim_55 : decode cX12_trim 55 = .ok (.aload_n 0, 1) := by decide +kernel
theorem dX12_trim_56 : decode cX12_trim 56 = .ok (.aload_n 0, 1) := by decide +kernel
theorem dX12_trim_57 : decode cX12_trim 57 = .ok (.getfield 19, 3) := by decide +kernel
theorem dX12_trim_60 : decode cX12_trim 60 = .ok (.iconst 3, 1) := by decide +kernel
theorem dX12_trim_61 : decode cX12_trim 61 = .ok (.iaload, 1) := by decide +kernel
theorem dX12_trim_62 : decode cX12_trim 62 = .ok (.iload 4, 2) := by decide +kernel
theorem dX12_trim_64 : decode cX12_trim 64 = .ok (.ior, 1) := by decide +kernel
theorem dX12_trim_65 : decode cX12_trim 65 = .ok (.invokevirtual 124, 3) := by decide +kernel
theorem dX12_trim_68 : decode cX12_trim 68 = .ok (.iload_n 1, 1) := by decide +kernel
theorem dX12_trim_69 : decode cX12_trim 69 = .ok (.if_icmp .ne 7, 3) := by decide +kernel
theorem dX12_trim_72 : decode cX12_trim 72 = .ok (.iconst 1, 1) := by decide +kernel
theorem dX12_trim_73 : decode cX12_trim 73 = .ok (.goto 4, 3) := by decide +kernel
theorem dX12_trim_76 : decode cX12_trim 76 = .ok (.iconst 0, 1) := by decide +kernel
theorem dX12_trim_77 : decode cX12_trim 77 = .ok (.istore 5, 2) := by decide +kernel
theorem dX12_trim_79 : decode cX12_trim 79 = .ok (.iload 5, 2) := by decide +kernel
theorem dX12_trim_81 : decode cX12_trim 81 = .ok (.ifCond .eq 26, 3) := by decide +kernel
theorem dX12_trim_84 : decode cX12_trim 84 = .ok (.iload_n 3, 1) := by decide +kernel
theorem dX12_trim_85 : decode cX12_trim 85 = .ok (.bipush (-9), 2) := by decide +kernel
theorem dX12_trim_87 : decode cX12_trim 87 = .ok (.if_icmp .eq 15, 3) := by decide +kernel
theorem dX12_trim_90 : decode cX12_trim 90 = .ok (.iload 4, 2) := by decide +kernel
theorem dX12_trim_92 : decode cX12_trim 92 = .ok (.invokestatic 134, 3) := by decide +kernel
theorem dX12_trim_95 : decode cX12_trim 95 = .ok (.iload_n 3, 1) := by decide +kernel
theorem dX12_trim_96 : decode cX12_trim 96 = .ok (.invokestatic 134, 3) := by decide +kernel
theorem dX12_trim_99 : decode cX12_trim 99 = .ok (.if_icmp .ge 8, 3) := by decide +kernel
theorem dX12_trim_102 : decode cX12_trim 102 = .ok (.iload 4, 2) := by decide +kernel
theorem dX12_trim_104 : decode cX12_trim 104 = .ok (.goto 4, 3) := by decide +kernel
theorem dX12_trim_107 : decode cX12_trim 107 = .ok (.iload_n 3, 1) := by decide +kernel
theorem dX12_trim_108 : decode cX12_trim 108 = .ok (.istore_n 3, 1) := by decide +kernel
theorem dX12_trim_109 : decode cX12_trim 109 = .ok (.iinc 4 1, 3) := by decide +kernel
theorem dX12_trim_112 : decode cX12_trim 112 = .ok (.goto (-88), 3) := by decide +kernel
theorem dX12_trim_115 : decode cX12_trim 115 = .ok (.iload_n 3, 1) := by decide +kernel
theorem dX12_trim_116 : decode cX12_trim 116 = .ok (.ireturn, 1) := by decide +kernel
set_option maxRecDepth 20000 in
theorem ggX12_odds_X12_in : GoodIn wsX12_odds wsX12_in := goodIn_r _ [6] (by decide +kernel) (by decide +kernel)
set_option maxRecDepth 20000 in
theorem gX12_odds_X12_in : GoodIn wsX12_odds (va_wsS RX12 51 yX12_in wsX12_in) := goodIn_app (goodIn_of _ (by decide +kernel)) ggX12_odds_X12_in
set_option maxRecDepth 20000 in
theorem ggX12_odds_X12_allThatMay : GoodIn wsX12_odds wsX12_allThatMay := goodIn_r _ [10, 1, 11, 12, 13, 5, 14, 2, 15, 16, 17, 18, 19, 20, 21, 22, 23, 24, 25, 26, 27, 28, 29, 34, 35, 36, 37, 38, 39, 40, 41, 42, 43, 44, 45, 46, 47, 48, 49, 50, 51] (by decide +kernel) (by decide +kernel)
set_option maxRecDepth 20000 in
theorem gX12_odds_X12_allThatMay : GoodIn wsX12_odds (wsV RX12 131 RX12 yX12_allThatMay wsX12_allThatMay) := goodIn_app (goodIn_of _ (by decide +kernel)) ggX12_odds_X12_allThatMay
set_option maxRecDepth 20000 in
theorem ggX12_odds_X12_has : GoodIn wsX12_odds wsX12_has := goodIn_r _ [17] (by decide +kernel) (by decide +kernel)
set_option maxRecDepth 20000 in
theorem gX12_odds_X12_has : GoodIn wsX12_odds (va_wsS RX12 94 yX12_has wsX12_has) := goodIn_app (goodIn_of _ (by decide +kernel)) ggX12_odds_X12_has
set_option maxRecDepth 20000 in
theorem ggX12_odds_X12_noteBar : GoodIn wsX12_odds wsX12_noteBar := goodIn_r _ [33, 1, 22, 23, 24, 5, 25, 15, 16, 17, 26, 27, 28, 29, 34, 35, 36, 37, 38, 39, 40, 41, 42, 43, 44, 45, 46, 47, 48, 49, 50, 51] (by decide +kernel) (by decide +kernel)
set_option maxRecDepth 20000 in
theorem gX12_odds_X12_noteBar : GoodIn wsX12_odds (wsV RX12 124 RX12 yX12_noteBar wsX12_noteBar) := goodIn_app (goodIn_of _ (by decide +kernel)) ggX12_odds_X12_noteBar
theorem dX12_odds_0 : decode cX12_odds 0 = .ok (.iload_n 1, 1) := by decide +kernel
theorem dX12_odds_1 : decode cX12_odds 1 = .ok (.iconst 0, 1) := by decide +kernel
theorem dX12_odds_2 : decode cX12_odds 2 = .ok (.bipush 10, 2) := by decide +kernel
theorem dX12_odds_4 : decode cX12_odds 4 = .ok (.invokestatic 51, 3) := by decide +kernel
theorem dX12_odds_7 : decode cX12_odds 7 = .ok (.ifCond .eq 23, 3) := by decide +kernel
theorem dX12_odds_10 : decode cX12_odds 10 = .ok (.iload_n 2, 1) := by decide +kernel
theorem dX12_odds_11 : decode cX12_odds 11 = .ok (.iconst 0, 1) := by decide +kernel
theorem dX12_odds_12 : decode cX12_odds 12 = .ok (.sipush 999, 3) := by decide +kernel
theorem dX12_odds_15 : decode cX12_odds 15 = .ok (.invokestatic 51, 3) := by decide +kernel
theorem dX12_odds_18 : decode cX12_odds 18 = .ok (.ifCond .eq 12, 3) := by decide +kernel
theorem dX12_odds_21 : decode cX12_odds 21 = .ok (.iload_n 3, 1) := by decide +kernel
theorem dX12_odds_22 : decode cX12_odds 22 = .ok (.iconst 0, 1) := by decide +kernel
theorem dX12_odds_23 : decode cX12_odds 23 = .ok (.iconst 1, 1) := by decide +kernel
theorem dX12_odds_24 : decode cX12_odds 24 = .ok (.invokestatic 51, 3) := by decide +kernel
theorem dX12_odds_27 : decode cX12_odds 27 = .ok (.ifCond .ne 5, 3) := by decide +kernel
theorem dX12_odds_30 : decode cX12_odds 30 = .ok (.iconst (-1), 1) := by decide +kernel
theorem dX12_odds_31 : decode cX12_odds 31 = .ok (.ireturn, 1) := by decide +kernel
theorem dX12_odds_32 : decode cX12_odds 32 = .ok (.aload_n 0, 1) := by decide +kernel
theorem dX12_odds_33 : decode cX12_odds 33 = .ok (.invokevirtual 131, 3) := by decide +kernel
theorem dX12_odds_36 : decode cX12_odds 36 = .ok (.istore 4, 2) := by decide +kernel
theorem dX12_odds_38 : decode cX12_odds 38 = .ok (.iconst 0, 1) := by decide +kernel
theorem dX12_odds_39 : decode cX12_odds 39 = .ok (.istore 5, 2) := by decide +kernel
theorem dX12_odds_41 : decode cX12_odds 41 = .ok (.iconst 1, 1) := by decide +kernel
theorem dX12_odds_42 : decode cX12_odds 42 = .ok (.istore 6, 2) := by decide +kernel
theorem dX12_odds_44 : decode cX12_odds 44 = .ok (.iconst 0, 1) := by decide +kernel
theorem dX12_odds_45 : decode cX12_odds 45 = .ok (.istore 7, 2) := by decide +kernel
theorem dX12_odds_47 : decode cX12_odds 47 = .ok (.iload 7, 2) := by decide +kernel
theorem dX12_odds_49 : decode cX12_odds 49 = .ok (.aload_n 0, 1) := by decide +kernel
theorem dX12_odds_50 : decode cX12_odds 50 = .ok (.getfield 13, 3) := by decide +kernel
theorem dX12_odds_53 : decode cX12_odds 53 = .ok (.iconst 0, 1) := by decide +kernel
theorem dX12_odds_54 : decode cX12_odds 54 = .ok (.iaload, 1) := by decide +kernel
theorem dX12_odds_55 : decode cX12_odds 55 = .ok (.if_icmp .ge 30, 3) := by decide +kernel
theorem dX12_odds_58 : decode cX12_odds 58 = .ok (.iload 6, 2) := by decide +kernel
theorem dX12_odds_60 : decode cX12_odds 60 = .ok (.iload 4, 2) := by decide +kernel
theorem dX12_odds_62 : decode cX12_odds 62 = .ok (.iload 7, 2) := by decide +kernel
theorem dX12_odds_64 : decode cX12_odds 64 = .ok (.invokestatic 94, 3) := by decide +kernel
theorem dX12_odds_67 : decode cX12_odds 67 = .ok (.ifCond .eq 8, 3) := by decide +kernel
theorem dX12_odds_70 : decode cX12_odds 70 = .ok (.bipush 10, 2) := by decide +kernel
theorem dX12_odds_72 : decode cX12_odds 72 = .ok (.goto 4, 3) := by decide +kernel
theorem dX12_odds_75 : decode cX12_odds 75 = .ok (.iconst 1, 1) := by decide +kernel
theorem dX12_odds_76 : decode cX12_odds 76 = .ok (.imul, 1) := by decide +kernel
theorem dX12_odds_77 : decode cX12_odds 77 = .ok (.istore 6, 2) := by decide +kernel
theorem dX12_odds_79 : decode cX12_odds 79 = .ok (.iinc 7 1, 3) := by decide +kernel
theorem dX12_odds_82 : decode cX12_odds 82 = .ok (.goto (-35), 3) := by decide +kernel
theorem dX12_odds_85 : decode cX12_odds 85 = .ok (.iconst 0, 1) := by decide +kernel
theorem dX12_odds_86 : decode cX12_odds 86 = .ok (.istore 7, 2) := by decide +kernel
theorem dX12_odds_88 : decode cX12_odds 88 = .ok (.iload 7, 2) := by decide +kernel
theorem dX12_odds_90 : decode cX12_odds 90 = .ok (.iconst 1, 1) := by decide +kernel
theorem dX12_odds_91 : decode cX12_odds 91 = .ok (.aload_n 0, 1) := by decide +kernel
theorem dX12_odds_92 : decode cX12_odds 92 = .ok (.getfield 13, 3) := by decide +kernel
theorem dX12_odds_95 : decode cX12_odds 95 = .ok (.iconst 0, 1) := by decide +kernel
theorem dX12_odds_96 : decode cX12_odds 96 = .ok (.iaload, 1) := by decide +kernel
theorem dX12_odds_97 : decode cX12_odds 97 = .ok (.ishl, 1) := by decide +kernel
theorem dX12_odds_98 : decode cX12_odds 98 = .ok (.if_icmp .ge 120, 3) := by decide +kernel
theorem dX12_odds_101 : decode cX12_odds 101 = .ok (.aload_n 0, 1) := by decide +kernel
theorem dX12_odds_102 : decode cX12_odds 102 = .ok (.getfield 13, 3) := by decide +kernel
theorem dX12_odds_105 : decode cX12_odds 105 = .ok (.iconst 0, 1) := by decide +kernel
theorem dX12_odds_106 : decode cX12_odds 106 = .ok (.iaload, 1) := by decide +kernel
theorem dX12_odds_107 : decode cX12_odds 107 = .ok (.ifCond .le 111, 3) := by decide +kernel
theorem dX12_odds_110 : decode cX12_odds 110 = .ok (.iload 7, 2) := by decide +kernel
theorem dX12_odds_112 : decode cX12_odds 112 = .ok (.iload 4, 2) := by decide +kernel
theorem dX12_odds_114 : decode cX12_odds 114 = .ok (.iconst (-1), 1) := by decide +kernel
theorem dX12_odds_115 : decode cX12_odds 115 = .ok (.ixor, 1) := by decide +kernel
theorem dX12_odds_116 : decode cX12_odds 116 = .ok (.iand, 1) := by decide +kernel
theorem dX12_odds_117 : decode cX12_odds 117 = .ok (.ifCond .ne 7, 3) := by decide +kernel
theorem dX12_odds_120 : decode cX12_odds 120 = .ok (.iconst 1, 1) := by decide +kernel
theorem dX12_odds_121 : decode cX12_odds 121 = .ok (.goto 4, 3) := by decide +kernel
theorem dX12_odds_124 : decode cX12_odds 124 = .ok (.iconst 0, 1) := by decide +kernel
theorem dX12_odds_125 : decode cX12_odds 125 = .ok (.istore 8, 2) := by decide +kernel
theorem dX12_odds_127 : decode cX12_odds 127 = .ok (.iconst 0, 1) := by decide +kernel
theorem dX12_odds_128 : decode cX12_odds 128 = .ok (.istore 9, 2) := by decide +kernel
theorem dX12_odds_130 : decode cX12_odds 130 = .ok (.iload 9, 2) := by decide +kernel
theorem dX12_odds_132 : decode cX12_odds 132 = .ok (.aload_n 0, 1) := by decide +kernel
theorem dX12_odds_133 : decode cX12_odds 133 = .ok (.getfield 13, 3) := by decide +kernel
theorem dX12_odds_136 : decode cX12_odds 136 = .ok (.iconst 0, 1) := by decide +kernel
theorem dX12_odds_137 : decode cX12_odds 137 = .ok (.iaload, 1) := by decide +kernel
theorem dX12_odds_138 : decode cX12_odds 138 = .ok (.if_icmp .ge 46, 3) := by decide +kernel
theorem dX12_odds_141 : decode cX12_odds 141 = .ok (.iload 8, 2) := by decide +kernel
theorem dX12_odds_143 : decode cX12_odds 143 = .ok (.iload 4, 2) := by decide +kernel
theorem dX12_odds_145 : decode cX12_odds 145 = .ok (.iload 9, 2) := by decide +kernel
theorem dX12_odds_147 : decode cX12_odds 147 = .ok (.invokestatic 94, 3) := by decide +kernel
theorem dX12_odds_150 : decode cX12_odds 150 = .ok (.ifCond .ne 7, 3) := by decide +kernel
theorem dX12_odds_153 : decode cX12_odds 153 = .ok (.iconst 1, 1) := by decide +kernel
theorem dX12_odds_154 : decode cX12_odds 154 = .ok (.goto 21, 3) := by decide +kernel
theorem dX12_odds_157 : decode cX12_odds 157 = .ok (.iload 7, 2) := by decide +kernel
theorem dX12_odds_159 : decode cX12_odds 159 = .ok (.iload 9, 2) := by decide +kernel
theorem dX12_odds_161 : decode cX12_odds 161 = .ok (.invokestatic 94, 3) := by decide +kernel
theorem dX12_odds_164 : decode cX12_odds 164 = .ok (.ifCond .eq 7, 3) := by decide +kernel
theorem dX12_odds_167 : decode cX12_odds 167 = .ok (.iload_n 1, 1) := by decide +kernel
theorem dX12_odds_168 : decode cX12_odds 168 = .ok (.goto 7, 3) := by decide +kernel
theorem dX12_odds_171 : decode cX12_odds 171 = .ok (.bipush 10, 2) := by decide +kernel
theorem dX12_odds_173 : decode cX12_odds 173 = .ok (.iload_n 1, 1) := by decide +kernel
theorem dX12_odds_174 : decode cX12_odds 174 = .ok (.isub, 1) := by decide +kernel
theorem dX12_odds_175 : decode cX12_odds 175 = .ok (.imul, 1) := by decide +kernel
theorem dX12_odds_176 : decode cX12_odds 176 = .ok (.istore 8, 2) := by decide +kernel
theorem dX12_odds_178 : decode cX12_odds 178 = .ok (.iinc 9 1, 3) := by decide +kernel
theorem dX12_odds_181 : decode cX12_odds 181 = .ok (.goto (-51), 3) := by decide +kernel
theorem dX12_odds_184 : decode cX12_odds 184 = .ok (.iload 5, 2) := by decide +kernel
theorem dX12_odds_186 : decode cX12_odds 186 = .ok (.aload_n 0, 1) := by decide +kernel
theorem dX12_odds_187 : decode cX12_odds 187 = .ok (.aload_n 0, 1) := by decide +kernel
theorem dX12_odds_188 : decode cX12_odds 188 = .ok (.getfield 19, 3) := by decide +kernel
theorem dX12_odds_191 : decode cX12_odds 191 = .ok (.iconst 3, 1) := by decide +kernel
theorem dX12_odds_192 : decode cX12_odds 192 = .ok (.iaload, 1) := by decide +kernel
theorem dX12_odds_193 : decode cX12_odds 193 = .ok (.iload 7, 2) := by decide +kernel
theorem dX12_odds_195 : decode cX12_odds 195 = .ok (.ior, 1) := by decide +kernel
theorem dX12_odds_196 : decode cX12_odds 196 = .ok (.invokevirtual 124, 3) := by decide +kernel
theorem dX12_odds_199 : decode cX12_odds 199 = .ok (.iload_n 2, 1) := by decide +kernel
theorem dX12_odds_200 : decode cX12_odds 200 = .ok (.if_icmp .gt 8, 3) := by decide +kernel
theorem dX12_odds_203 : decode cX12_odds 203 = .ok (.iload 8, 2) := by decide +kernel
theorem dX12_odds_205 : decode cX12_odds 205 = .ok (.goto 4, 3) := by decide +kernel
theorem dX12_odds_208 : decode cX12_odds 208 = .ok (.iconst 0, 1) := by decide +kernel
theorem dX12_odds_209 : decode cX12_odds 209 = .ok (.iadd, 1) := by decide +kernel
theorem dX12_odds_210 : decode cX12_odds 210 = .ok (.istore 5, 2) := by decide +kernel
theorem dX12_odds_212 : decode cX12_odds 212 = .ok (.iinc 7 1, 3) := by decide +kernel
theorem dX12_odds_215 : decode cX12_odds 215 = .ok (.goto (-127), 3) := by decide +kernel
theorem dX12_odds_218 : decode cX12_odds 218 = .ok (.iload 5, 2) := by decide +kernel
theorem dX12_odds_220 : decode cX12_odds 220 = .ok (.istore 7, 2) := by decide +kernel
theorem dX12_odds_222 : decode cX12_odds 222 = .ok (.iload 6, 2) := by decide +kernel
theorem dX12_odds_224 : decode cX12_odds 224 = .ok (.istore 8, 2) := by decide +kernel
theorem dX12_odds_226 : decode cX12_odds 226 = .ok (.iload 8, 2) := by decide +kernel
theorem dX12_odds_228 : decode cX12_odds 228 = .ok (.ifCond .le 21, 3) := by decide +kernel
theorem dX12_odds_231 : decode cX12_odds 231 = .ok (.iload 7, 2) := by decide +kernel
theorem dX12_odds_233 : decode cX12_odds 233 = .ok (.iload 8, 2) := by decide +kernel
theorem dX12_odds_235 : decode cX12_odds 235 = .ok (.irem, 1) := by decide +kernel
theorem dX12_odds_236 : decode cX12_odds 236 = .ok (.istore 9, 2) := by decide +kernel
theorem dX12_odds_238 : decode cX12_odds 238 = .ok (.iload 8, 2) := by decide +kernel
theorem dX12_odds_240 : decode cX12_odds 240 = .ok (.istore 7, 2) := by decide +kernel
theorem dX12_odds_242 : decode cX12_odds 242 = .ok (.iload 9, 2) := by decide +kernel
theorem dX12_odds_244 : decode cX12_odds 244 = .ok (.istore 8, 2) := by decide +kernel
theorem dX12_odds_246 : decode cX12_odds 246 = .ok (.goto (-20), 3) := by decide +kernel
theorem dX12_odds_249 : decode cX12_odds 249 = .ok (.iload_n 3, 1) := by decide +kernel
theorem dX12_odds_250 : decode cX12_odds 250 = .ok (.ifCond .ne 11, 3) := by decide +kernel
theorem dX12_odds_253 : decode cX12_odds 253 = .ok (.iload 5, 2) := by decide +kernel
theorem dX12_odds_255 : decode cX12_odds 255 = .ok (.iload 7, 2) := by decide +kernel
theorem dX12_odds_257 : decode cX12_odds 257 = .ok (.idiv, 1) := by decide +kernel
theorem dX12_odds_258 : decode cX12_odds 258 = .ok (.goto 8, 3) := by decide +kernel
theorem dX12_odds_261 : decode cX12_odds 261 = .ok (.iload 6, 2) := by decide +kernel
theorem dX12_odds_263 : decode cX12_odds 263 = .ok (.iload 7, 2) := by decide +kernel
theorem dX12_odds_265 : decode cX12_odds 265 = .ok (.idiv, 1) := by decide +kernel
theorem dX12_odds_266 : decode cX12_odds 266 = .ok (.ireturn, 1) := by decide +kernel
set_option maxRecDepth 20000 in
theorem ggX12_hears_X12_in : GoodIn wsX12_hears wsX12_in := goodIn_r _ [6] (by decide +kernel) (by decide +kernel)
set_option maxRecDepth 20000 in
theorem gX12_hears_X12_in : GoodIn wsX12_hears (va_wsS RX12 51 yX12_in wsX12_in) := goodIn_app (goodIn_of _ (by decide +kernel)) ggX12_hears_X12_in
theorem dX12_hears_0 : decode cX12_hears 0 = .ok (.iload_n 1, 1) := by decide +kernel
theorem dX12_hears_1 : decode cX12_hears 1 = .ok (.iconst 0, 1) := by decide +kernel
theorem dX12_hears_2 : decode cX12_hears 2 = .ok (.bipush 60, 2) := by decide +kernel
theorem dX12_hears_4 : decode cX12_hears 4 = .ok (.invokestatic 51, 3) := by decide +kernel
theorem dX12_hears_7 : decode cX12_hears 7 = .ok (.ifCond .eq 12, 3) := by decide +kernel
theorem dX12_hears_10 : decode cX12_hears 10 = .ok (.iload_n 2, 1) := by decide +kernel
theorem dX12_hears_11 : decode cX12_hears 11 = .ok (.iconst 0, 1) := by decide +kernel
theorem dX12_hears_12 : decode cX12_hears 12 = .ok (.iconst 3, 1) := by decide +kernel
theorem dX12_hears_13 : decode cX12_hears 13 = .ok (.invokestatic 51, 3) := by decide +kernel
theorem dX12_hears_16 : decode cX12_hears 16 = .ok (.ifCond .ne 5, 3) := by decide +kernel
theorem dX12_hears_19 : decode cX12_hears 19 = .ok (.iconst (-1), 1) := by decide +kernel
theorem dX12_hears_20 : decode cX12_hears 20 = .ok (.ireturn, 1) := by decide +kernel
theorem dX12_hears_21 : decode cX12_hears 21 = .ok (.aload_n 0, 1) := by decide +kernel
theorem dX12_hears_22 : decode cX12_hears 22 = .ok (.getfield 91, 3) := by decide +kernel
theorem dX12_hears_25 : decode cX12_hears 25 = .ok (.iconst 4, 1) := by decide +kernel
theorem dX12_hears_26 : decode cX12_hears 26 = .ok (.if_icmp .ne 6, 3) := by decide +kernel
theorem dX12_hears_29 : decode cX12_hears 29 = .ok (.bipush (-3), 2) := by decide +kernel
theorem dX12_hears_31 : decode cX12_hears 31 = .ok (.ireturn, 1) := by decide +kernel
theorem dX12_hears_32 : decode cX12_hears 32 = .ok (.aload_n 0, 1) := by decide +kernel
theorem dX12_hears_33 : decode cX12_hears 33 = .ok (.getfield 29, 3) := by decide +kernel
theorem dX12_hears_36 : decode cX12_hears 36 = .ok (.iconst 2, 1) := by decide +kernel
theorem dX12_hears_37 : decode cX12_hears 37 = .ok (.aload_n 0, 1) := by decide +kernel
theorem dX12_hears_38 : decode cX12_hears 38 = .ok (.getfield 91, 3) := by decide +kernel
theorem dX12_hears_41 : decode cX12_hears 41 = .ok (.imul, 1) := by decide +kernel
theorem dX12_hears_42 : decode cX12_hears 42 = .ok (.iload_n 1, 1) := by decide +kernel
theorem dX12_hears_43 : decode cX12_hears 43 = .ok (.iastore, 1) := by decide +kernel
theorem dX12_hears_44 : decode cX12_hears 44 = .ok (.aload_n 0, 1) := by decide +kernel
theorem dX12_hears_45 : decode cX12_hears 45 = .ok (.getfield 29, 3) := by decide +kernel
theorem dX12_hears_48 : decode cX12_hears 48 = .ok (.iconst 2, 1) := by decide +kernel
theorem dX12_hears_49 : decode cX12_hears 49 = .ok (.aload_n 0, 1) := by decide +kernel
theorem dX12_hears_50 : decode cX12_hears 50 = .ok (.getfield 91, 3) := by decide +kernel
theorem dX12_hears_53 : decode cX12_hears 53 = .ok (.imul, 1) := by decide +kernel
theorem dX12_hears_54 : decode cX12_hears 54 = .ok (.iconst 1, 1) := by decide +kernel
theorem dX12_hears_55 : decode cX12_hears 55 = .ok (.iadd, 1) := by decide +kernel
theorem dX12_hears_56 : decode cX12_hears 56 = .ok (.iload_n 2, 1) := by decide +kernel
theorem dX12_hears_57 : decode cX12_hears 57 = .ok (.iastore, 1) := by decide +kernel
theorem dX12_hears_58 : decode cX12_hears 58 = .ok (.aload_n 0, 1) := by decide +kernel
theorem dX12_hears_59 : decode cX12_hears 59 = .ok (.dup, 1) := by decide +kernel
theorem dX12_hears_60 : decode cX12_hears 60 = .ok (.getfield 91, 3) := by decide +kernel
theorem dX12_hears_63 : decode cX12_hears 63 = .ok (.iconst 1, 1) := by decide +kernel
theorem dX12_hears_64 : decode cX12_hears 64 = .ok (.iadd, 1) := by decide +kernel
theorem dX12_hears_65 : decode cX12_hears 65 = .ok (.putfield 91, 3) := by decide +kernel
theorem dX12_hears_68 : decode cX12_hears 68 = .ok (.aload_n 0, 1) := by decide +kernel
theorem dX12_hears_69 : decode cX12_hears 69 = .ok (.getfield 91, 3) := by decide +kernel
theorem dX12_hears_72 : decode cX12_hears 72 = .ok (.ireturn, 1) := by decide +kernel
theorem dX12_forget_0 : decode cX12_forget 0 = .ok (.aload_n 0, 1) := by decide +kernel
theorem dX12_forget_1 : decode cX12_forget 1 = .ok (.getfield 91, 3) := by decide +kernel
theorem dX12_forget_4 : decode cX12_forget 4 = .ok (.istore_n 1, 1) := by decide +kernel
theorem dX12_forget_5 : decode cX12_forget 5 = .ok (.aload_n 0, 1) := by decide +kernel
theorem dX12_forget_6 : decode cX12_forget 6 = .ok (.iconst 0, 1) := by decide +kernel
theorem dX12_forget_7 : decode cX12_forget 7 = .ok (.putfield 91, 3) := by decide +kernel
theorem dX12_forget_10 : decode cX12_forget 10 = .ok (.iload_n 1, 1) := by decide +kernel
theorem dX12_forget_11 : decode cX12_forget 11 = .ok (.ireturn, 1) := by decide +kernel
set_option maxRecDepth 20000 in
theorem ggX12_writes_X12_minutes : GoodIn wsX12_writes wsX12_minutes := goodIn_r _ [8, 1, 12, 13, 14, 15, 16, 17, 18, 19, 20, 21, 22, 23, 24, 25, 26, 27, 28, 29] (by decide +kernel) (by decide +kernel)
set_option maxRecDepth 20000 in
theorem gX12_writes_X12_minutes : GoodIn wsX12_writes (wsV RX12 98 RX12 yX12_minutes wsX12_minutes) := goodIn_app (goodIn_of _ (by decide +kernel)) ggX12_writes_X12_minutes
set_option maxRecDepth 20000 in
theorem ggX12_writes_X12_has : GoodIn wsX12_writes wsX12_has := goodIn_r _ [11] (by decide +kernel) (by decide +kernel)
set_option maxRecDepth 20000 in
theorem gX12_writes_X12_has : GoodIn wsX12_writes (va_wsS RX12 94 yX12_has wsX12_has) := goodIn_app (goodIn_of _ (by decide +kernel)) ggX12_writes_X12_has
theorem dX12_writes_0 : decode cX12_writes 0 = .ok (.iconst 0, 1) := by decide +kernel
theorem dX12_writes_1 : decode cX12_writes 1 = .ok (.istore_n 1, 1) := by decide +kernel
theorem dX12_writes_2 : decode cX12_writes 2 = .ok (.iconst 0, 1) := by decide +kernel
theorem dX12_writes_3 : decode cX12_writes 3 = .ok (.istore_n 2, 1) := by decide +kernel
theorem dX12_writes_4 : decode cX12_writes 4 = .ok (.iload_n 2, 1) := by decide +kernel
theorem dX12_writes_5 : decode cX12_writes 5 = .ok (.aload_n 0, 1) := by decide +kernel
theorem dX12_writes_6 : decode cX12_writes 6 = .ok (.getfield 13, 3) := by decide +kernel
theorem dX12_writes_9 : decode cX12_writes 9 = .ok (.iconst 0, 1) := by decide +kernel
theorem dX12_writes_10 : decode cX12_writes 10 = .ok (.iaload, 1) := by decide +kernel
theorem dX12_writes_11 : decode cX12_writes 11 = .ok (.if_icmp .ge 57, 3) := by decide +kernel
theorem dX12_writes_14 : decode cX12_writes 14 = .ok (.iconst 0, 1) := by decide +kernel
theorem dX12_writes_15 : decode cX12_writes 15 = .ok (.istore_n 3, 1) := by decide +kernel
theorem dX12_writes_16 : decode cX12_writes 16 = .ok (.iload_n 3, 1) := by decide +kernel
theorem dX12_writes_17 : decode cX12_writes 17 = .ok (.aload_n 0, 1) := by decide +kernel
theorem dX12_writes_18 : decode cX12_writes 18 = .ok (.iload_n 2, 1) := by decide +kernel
theorem dX12_writes_19 : decode cX12_writes 19 = .ok (.invokevirtual 98, 3) := by decide +kernel
theorem dX12_writes_22 : decode cX12_writes 22 = .ok (.if_icmp .ge 40, 3) := by decide +kernel
theorem dX12_writes_25 : decode cX12_writes 25 = .ok (.aload_n 0, 1) := by decide +kernel
theorem dX12_writes_26 : decode cX12_writes 26 = .ok (.getfield 19, 3) := by decide +kernel
theorem dX12_writes_29 : decode cX12_writes 29 = .ok (.iconst 3, 1) := by decide +kernel
theorem dX12_writes_30 : decode cX12_writes 30 = .ok (.iaload, 1) := by decide +kernel
theorem dX12_writes_31 : decode cX12_writes 31 = .ok (.iload_n 2, 1) := by decide +kernel
theorem dX12_writes_32 : decode cX12_writes 32 = .ok (.invokestatic 94, 3) := by decide +kernel
theorem dX12_writes_35 : decode cX12_writes 35 = .ok (.ifCond .ne 27, 3) := by decide +kernel
theorem dX12_writes_38 : decode cX12_writes 38 = .ok (.aload_n 0, 1) := by decide +kernel
theorem dX12_writes_39 : decode cX12_writes 39 = .ok (.getfield 32, 3) := by decide +kernel
theorem dX12_writes_42 : decode cX12_writes 42 = .ok (.iload_n 1, 1) := by decide +kernel
theorem dX12_writes_43 : decode cX12_writes 43 = .ok (.aload_n 0, 1) := by decide +kernel
theorem dX12_writes_44 : decode cX12_writes 44 = .ok (.getfield 13, 3) := by decide +kernel
theorem dX12_writes_47 : decode cX12_writes 47 = .ok (.bipush 22, 2) := by decide +kernel
theorem dX12_writes_49 : decode cX12_writes 49 = .ok (.iload_n 2, 1) := by decide +kernel
theorem dX12_writes_50 : decode cX12_writes 50 = .ok (.iadd, 1) := by decide +kernel
theorem dX12_writes_51 : decode cX12_writes 51 = .ok (.iaload, 1) := by decide +kernel
theorem dX12_writes_52 : decode cX12_writes 52 = .ok (.iastore, 1) := by decide +kernel
theorem dX12_writes_53 : decode cX12_writes 53 = .ok (.iinc 1 1, 3) := by decide +kernel
theorem dX12_writes_56 : decode cX12_writes 56 = .ok (.iinc 3 1, 3) := by decide +kernel
theorem dX12_writes_59 : decode cX12_writes 59 = .ok (.goto (-43), 3) := by decide +kernel
theorem dX12_writes_62 : decode cX12_writes 62 = .ok (.iinc 2 1, 3) := by decide +kernel
theorem dX12_writes_65 : decode cX12_writes 65 = .ok (.goto (-61), 3) := by decide +kernel
theorem dX12_writes_68 : decode cX12_writes 68 = .ok (.iload_n 1, 1) := by decide +kernel
theorem dX12_writes_69 : decode cX12_writes 69 = .ok (.sipush 1100, 3) := by decide +kernel
theorem dX12_writes_72 : decode cX12_writes 72 = .ok (.if_icmp .ge 16, 3) := by decide +kernel
theorem dX12_writes_75 : decode cX12_writes 75 = .ok (.aload_n 0, 1) := by decide +kernel
theorem dX12_writes_76 : decode cX12_writes 76 = .ok (.getfield 32, 3) := by decide +kernel
theorem dX12_writes_79 : decode cX12_writes 79 = .ok (.iload_n 1, 1) := by decide +kernel
theorem dX12_writes_80 : decode cX12_writes 80 = .ok (.iconst 4, 1) := by decide +kernel
theorem dX12_writes_81 : decode cX12_writes 81 = .ok (.iastore, 1) := by decide +kernel
theorem dX12_writes_82 : decode cX12_writes 82 = .ok (.iinc 1 1, 3) := by decide +kernel
theorem dX12_writes_85 : decode cX12_writes 85 = .ok (.goto (-17), 3) := by decide +kernel
theorem dX12_writes_88 : decode cX12_writes 88 = .ok (.return_, 1) := by decide +kernel
theorem dX12_isSo_0 : decode cX12_isSo 0 = .ok (.iconst 1, 1) := by decide +kernel
theorem dX12_isSo_1 : decode cX12_isSo 1 = .ok (.istore_n 2, 1) := by decide +kernel
theorem dX12_isSo_2 : decode cX12_isSo 2 = .ok (.iconst 0, 1) := by decide +kernel
theorem dX12_isSo_3 : decode cX12_isSo 3 = .ok (.istore_n 3, 1) := by decide +kernel
theorem dX12_isSo_4 : decode cX12_isSo 4 = .ok (.iload_n 3, 1) := by decide +kernel
theorem dX12_isSo_5 : decode cX12_isSo 5 = .ok (.aload_n 0, 1) := by decide +kernel
theorem dX12_isSo_6 : decode cX12_isSo 6 = .ok (.getfield 91, 3) := by decide +kernel
theorem dX12_isSo_9 : decode cX12_isSo 9 = .ok (.if_icmp .ge 47, 3) := by decide +kernel
theorem dX12_isSo_12 : decode cX12_isSo 12 = .ok (.iload_n 2, 1) := by decide +kernel
theorem dX12_isSo_13 : decode cX12_isSo 13 = .ok (.ifCond .eq 35, 3) := by decide +kernel
theorem dX12_isSo_16 : decode cX12_isSo 16 = .ok (.aload_n 0, 1) := by decide +kernel
theorem dX12_isSo_17 : decode cX12_isSo 17 = .ok (.getfield 32, 3) := by decide +kernel
theorem dX12_isSo_20 : decode cX12_isSo 20 = .ok (.iload_n 1, 1) := by decide +kernel
theorem dX12_isSo_21 : decode cX12_isSo 21 = .ok (.aload_n 0, 1) := by decide +kernel
theorem dX12_isSo_22 : decode cX12_isSo 22 = .ok (.getfield 29, 3) := by decide +kernel
theorem dX12_isSo_25 : decode cX12_isSo 25 = .ok (.iconst 2, 1) := by decide +kernel
theorem dX12_isSo_26 : decode cX12_isSo 26 = .ok (.iload_n 3, 1) := by decide +kernel
theorem dX12_isSo_27 : decode cX12_isSo 27 = .ok (.imul, 1) := by decide +kernel
theorem dX12_isSo_28 : decode cX12_isSo 28 = .ok (.iaload, 1) := by decide +kernel
theorem dX12_isSo_29 : decode cX12_isSo 29 = .ok (.iadd, 1) := by decide +kernel
theorem dX12_isSo_30 : decode cX12_isSo 30 = .ok (.iaload, 1) := by decide +kernel
theorem dX12_isSo_31 : decode cX12_isSo 31 = .ok (.aload_n 0, 1) := by decide +kernel
theorem dX12_isSo_32 : decode cX12_isSo 32 = .ok (.getfield 29, 3) := by decide +kernel
theorem dX12_isSo_35 : decode cX12_isSo 35 = .ok (.iconst 2, 1) := by decide +kernel
theorem dX12_isSo_36 : decode cX12_isSo 36 = .ok (.iload_n 3, 1) := by decide +kernel
theorem dX12_isSo_37 : decode cX12_isSo 37 = .ok (.imul, 1) := by decide +kernel
theorem dX12_isSo_38 : decode cX12_isSo 38 = .ok (.iconst 1, 1) := by decide +kernel
theorem dX12_isSo_39 : decode cX12_isSo 39 = .ok (.iadd, 1) := by decide +kernel
theorem dX12_isSo_40 : decode cX12_isSo 40 = .ok (.iaload, 1) := by decide +kernel
theorem dX12_isSo_41 : decode cX12_isSo 41 = .ok (.if_icmp .ne 7, 3) := by decide +kernel
theorem dX12_isSo_44 : decode cX12_isSo 44 = .ok (.iconst 1, 1) := by decide +kernel
theorem dX12_isSo_45 : decode cX12_isSo 45 = .ok (.goto 4, 3) := by decide +kernel
theorem dX12_isSo_48 : decode cX12_isSo 48 = .ok (.iconst 0, 1) := by decide +kernel
theorem dX12_isSo_49 : decode cX12_isSo 49 = .ok (.istore_n 2, 1) := by decide +kernel
theorem dX12_isSo_50 : decode cX12_isSo 50 = .ok (.iinc 3 1, 3) := by decide +kernel
theorem dX12_isSo_53 : decode cX12_isSo 53 = .ok (.goto (-49), 3) := by decide +kernel
theorem dX12_isSo_56 : decode cX12_isSo 56 = .ok (.iload_n 2, 1) := by decide +kernel
theorem dX12_isSo_57 : decode cX12_isSo 57 = .ok (.ireturn, 1) := by decide +kernel
set_option maxRecDepth 20000 in
theorem ggX12_placesBy_X12_writes : GoodIn wsX12_placesBy wsX12_writes := goodIn_r _ [5, 6, 7, 8, 9, 10, 11, 4, 12, 13, 14, 15, 30, 31, 32, 33, 34, 35, 36, 37, 38, 39, 40, 41, 42, 43, 44, 45, 46, 47] (by decide +kernel) (by decide +kernel)
set_option maxRecDepth 20000 in
theorem gX12_placesBy_X12_writes : GoodIn wsX12_placesBy (wsV RX12 137 RX12 yX12_writes wsX12_writes) := goodIn_app (goodIn_of _ (by decide +kernel)) ggX12_placesBy_X12_writes
set_option maxRecDepth 20000 in
theorem ggX12_placesBy_X12_length : GoodIn wsX12_placesBy wsX12_length := goodIn_r _ [19, 6, 7, 20, 21, 22, 4, 23, 13, 14, 15, 9, 10, 11, 12, 30, 31, 32, 33, 34, 35, 36, 37, 38, 39, 40, 41, 42, 43, 44, 45, 46, 47] (by decide +kernel) (by decide +kernel)
set_option maxRecDepth 20000 in
theorem gX12_placesBy_X12_length : GoodIn wsX12_placesBy (wsV RX12 117 RX12 yX12_length wsX12_length) := goodIn_app (goodIn_of _ (by decide +kernel)) ggX12_placesBy_X12_length
set_option maxRecDepth 20000 in
theorem ggX12_placesBy_X12_isSo : GoodIn wsX12_placesBy wsX12_isSo := goodIn_r _ [27, 28, 8, 29, 30, 31, 32, 33, 34, 35, 36, 37, 38, 39, 40, 41, 42, 43, 44, 45, 46, 47] (by decide +kernel) (by decide +kernel)
set_option maxRecDepth 20000 in
theorem gX12_placesBy_X12_isSo : GoodIn wsX12_placesBy (wsV RX12 140 RX12 yX12_isSo wsX12_isSo) := goodIn_app (goodIn_of _ (by decide +kernel)) ggX12_placesBy_X12_isSo
theorem dX12_placesBy_0 : decode cX12_placesBy 0 = .ok (.aload_n 0, 1) := by decide +kernel
theorem dX12_placesBy_1 : decode cX12_placesBy 1 = .ok (.invokevirtual 137, 3) := by decide +kernel
theorem dX12_placesBy_4 : decode cX12_placesBy 4 = .ok (.iconst 0, 1) := by decide +kernel
theorem dX12_placesBy_5 : decode cX12_placesBy 5 = .ok (.istore_n 2, 1) := by decide +kernel
theorem dX12_placesBy_6 : decode cX12_placesBy 6 = .ok (.bipush (-9), 2) := by decide +kernel
theorem dX12_placesBy_8 : decode cX12_placesBy 8 = .ok (.istore_n 3, 1) := by decide +kernel
theorem dX12_placesBy_9 : decode cX12_placesBy 9 = .ok (.aload_n 0, 1) := by decide +kernel
theorem dX12_placesBy_10 : decode cX12_placesBy 10 = .ok (.invokevirtual 117, 3) := by decide +kernel
theorem dX12_placesBy_13 : decode cX12_placesBy 13 = .ok (.istore 4, 2) := by decide +kernel
theorem dX12_placesBy_15 : decode cX12_placesBy 15 = .ok (.iconst 0, 1) := by decide +kernel
theorem dX12_placesBy_16 : decode cX12_placesBy 16 = .ok (.istore 5, 2) := by decide +kernel
theorem dX12_placesBy_18 : decode cX12_placesBy 18 = .ok (.iload 5, 2) := by decide +kernel
theorem dX12_placesBy_20 : decode cX12_placesBy 20 = .ok (.iload 4, 2) := by decide +kernel
theorem dX12_placesBy_22 : decode cX12_placesBy 22 = .ok (.if_icmp .ge 33, 3) := by decide +kernel
theorem dX12_placesBy_25 : decode cX12_placesBy 25 = .ok (.aload_n 0, 1) := by decide +kernel
theorem dX12_placesBy_26 : decode cX12_placesBy 26 = .ok (.iload 5, 2) := by decide +kernel
theorem dX12_placesBy_28 : decode cX12_placesBy 28 = .ok (.invokevirtual 140, 3) := by decide +kernel
theorem dX12_placesBy_31 : decode cX12_placesBy 31 = .ok (.ifCond .eq 18, 3) := by decide +kernel
theorem dX12_placesBy_34 : decode cX12_placesBy 34 = .ok (.iload_n 2, 1) := by decide +kernel
theorem dX12_placesBy_35 : decode cX12_placesBy 35 = .ok (.iload_n 1, 1) := by decide +kernel
theorem dX12_placesBy_36 : decode cX12_placesBy 36 = .ok (.if_icmp .ne 8, 3) := by decide +kernel
theorem dX12_placesBy_39 : decode cX12_placesBy 39 = .ok (.iload 5, 2) := by decide +kernel
theorem dX12_placesBy_41 : decode cX12_placesBy 41 = .ok (.goto 4, 3) := by decide +kernel
theorem dX12_placesBy_44 : decode cX12_placesBy 44 = .ok (.iload_n 3, 1) := by decide +kernel
theorem dX12_placesBy_45 : decode cX12_placesBy 45 = .ok (.istore_n 3, 1) := by decide +kernel
theorem dX12_placesBy_46 : decode cX12_placesBy 46 = .ok (.iinc 2 1, 3) := by decide +kernel
theorem dX12_placesBy_49 : decode cX12_placesBy 49 = .ok (.iinc 5 1, 3) := by decide +kernel
theorem dX12_placesBy_52 : decode cX12_placesBy 52 = .ok (.goto (-34), 3) := by decide +kernel
theorem dX12_placesBy_55 : decode cX12_placesBy 55 = .ok (.iload_n 1, 1) := by decide +kernel
theorem dX12_placesBy_56 : decode cX12_placesBy 56 = .ok (.iconst (-1), 1) := by decide +kernel
theorem dX12_placesBy_57 : decode cX12_placesBy 57 = .ok (.if_icmp .ne 7, 3) := by decide +kernel
theorem dX12_placesBy_60 : decode cX12_placesBy 60 = .ok (.iload_n 2, 1) := by decide +kernel
theorem dX12_placesBy_61 : decode cX12_placesBy 61 = .ok (.goto 4, 3) := by decide +kernel
theorem dX12_placesBy_64 : decode cX12_placesBy 64 = .ok (.iload_n 3, 1) := by decide +kernel
theorem dX12_placesBy_65 : decode cX12_placesBy 65 = .ok (.ireturn, 1) := by decide +kernel
set_option maxRecDepth 20000 in
theorem ggX12_places_X12_in : GoodIn wsX12_places wsX12_in := goodIn_r _ [4] (by decide +kernel) (by decide +kernel)
set_option maxRecDepth 20000 in
theorem gX12_places_X12_in : GoodIn wsX12_places (va_wsS RX12 51 yX12_in wsX12_in) := goodIn_app (goodIn_of _ (by decide +kernel)) ggX12_places_X12_in
set_option maxRecDepth 20000 in
theorem ggX12_places_X12_placesBy : GoodIn wsX12_places wsX12_placesBy := goodIn_r _ [8, 9, 10, 11, 3, 12, 13, 14, 15, 16, 17, 18, 19, 20, 21, 22, 23, 24, 25, 26, 27, 28, 29, 30, 31, 32, 33, 34, 35, 36, 37, 38, 39, 40, 41, 42, 43, 44, 45, 46, 47, 48, 49, 50, 51, 52, 53, 54] (by decide +kernel) (by decide +kernel)
set_option maxRecDepth 20000 in
theorem gX12_places_X12_placesBy : GoodIn wsX12_places (wsV RX12 143 RX12 yX12_placesBy wsX12_placesBy) := goodIn_app (goodIn_of _ (by decide +kernel)) ggX12_places_X12_placesBy
theorem dX12_places_0 : decode cX12_places 0 = .ok (.iload_n 1, 1) := by decide +kernel
theorem dX12_places_1 : decode cX12_places 1 = .ok (.iconst (-1), 1) := by decide +kernel
theorem dX12_places_2 : decode cX12_places 2 = .ok (.bipush 9, 2) := by decide +kernel
theorem dX12_places_4 : decode cX12_places 4 = .ok (.invokestatic 51, 3) := by decide +kernel
theorem dX12_places_7 : decode cX12_places 7 = .ok (.ifCond .eq 11, 3) := by decide +kernel
theorem dX12_places_10 : decode cX12_places 10 = .ok (.aload_n 0, 1) := by decide +kernel
theorem dX12_places_11 : decode cX12_places 11 = .ok (.iload_n 1, 1) := by decide +kernel
theorem dX12_places_12 : decode cX12_places 12 = .ok (.invokevirtual 143, 3) := by decide +kernel
theorem dX12_places_15 : decode cX12_places 15 = .ok (.goto 4, 3) := by decide +kernel
theorem dX12_places_18 : decode cX12_places 18 = .ok (.iconst (-1), 1) := by decide +kernel
theorem dX12_places_19 : decode cX12_places 19 = .ok (.ireturn, 1) := by decide +kernel
set_option maxRecDepth 20000 in
theorem ggX12_listen_X12_placesBy : GoodIn wsX12_listen wsX12_placesBy := goodIn_r _ [7, 8, 9, 10, 6, 11, 12, 13, 2, 14, 15, 16, 17, 18, 19, 20, 21, 22, 23, 24, 25, 26, 27, 28, 29, 30, 31, 32, 33, 34, 35, 36, 37, 38, 39, 40, 41, 42, 43, 44, 45, 46, 47, 48, 49, 50, 51, 52] (by decide +kernel) (by decide +kernel)
set_option maxRecDepth 20000 in
theorem gX12_listen_X12_placesBy : GoodIn wsX12_listen (wsV RX12 143 RX12 yX12_placesBy wsX12_placesBy) := goodIn_app (goodIn_of _ (by decide +kernel)) ggX12_listen_X12_placesBy
set_option maxRecDepth 20000 in
theorem ggX12_listen_X12_length : GoodIn wsX12_listen wsX12_length := goodIn_r _ [24, 12, 13, 25, 26, 27, 6, 28, 18, 19, 20, 14, 15, 16, 17, 35, 36, 37, 38, 39, 40, 41, 42, 43, 44, 45, 46, 47, 48, 49, 50, 51, 52] (by decide +kernel) (by decide +kernel)
set_option maxRecDepth 20000 in
theorem gX12_listen_X12_length : GoodIn wsX12_listen (wsV RX12 117 RX12 yX12_length wsX12_length) := goodIn_app (goodIn_of _ (by decide +kernel)) ggX12_listen_X12_length
set_option maxRecDepth 20000 in
theorem ggX12_listen_X12_isSo : GoodIn wsX12_listen wsX12_isSo := goodIn_r _ [32, 33, 2, 34, 35, 36, 37, 38, 39, 40, 41, 42, 43, 44, 45, 46, 47, 48, 49, 50, 51, 52] (by decide +kernel) (by decide +kernel)
set_option maxRecDepth 20000 in
theorem gX12_listen_X12_isSo : GoodIn wsX12_listen (wsV RX12 140 RX12 yX12_isSo wsX12_isSo) := goodIn_app (goodIn_of _ (by decide +kernel)) ggX12_listen_X12_isSo
theorem dX12_listen_0 : decode cX12_listen 0 = .ok (.aload_n 0, 1) := by decide +kernel
theorem dX12_listen_1 : decode cX12_listen 1 = .ok (.iconst (-1), 1) := by decide +kernel
theorem dX12_listen_2 : decode cX12_listen 2 = .ok (.invokevirtual 143, 3) := by decide +kernel
theorem dX12_listen_5 : decode cX12_listen 5 = .ok (.istore_n 1, 1) := by decide +kernel
theorem dX12_listen_6 : decode cX12_listen 6 = .ok (.bipush (-9), 2) := by decide +kernel
theorem dX12_listen_8 : decode cX12_listen 8 = .ok (.istore_n 2, 1) := by decide +kernel
theorem dX12_listen_9 : decode cX12_listen 9 = .ok (.iload_n 1, 1) := by decide +kernel
theorem dX12_listen_10 : decode cX12_listen 10 = .ok (.iconst 1, 1) := by decide +kernel
theorem dX12_listen_11 : decode cX12_listen 11 = .ok (.iadd, 1) := by decide +kernel
theorem dX12_listen_12 : decode cX12_listen 12 = .ok (.istore_n 3, 1) := by decide +kernel
theorem dX12_listen_13 : decode cX12_listen 13 = .ok (.aload_n 0, 1) := by decide +kernel
theorem dX12_listen_14 : decode cX12_listen 14 = .ok (.invokevirtual 117, 3) := by decide +kernel
theorem dX12_listen_17 : decode cX12_listen 17 = .ok (.istore 4, 2) := by decide +kernel
theorem dX12_listen_19 : decode cX12_listen 19 = .ok (.iconst 0, 1) := by decide +kernel
theorem dX12_listen_20 : decode cX12_listen 20 = .ok (.istore 5, 2) := by decide +kernel
theorem dX12_listen_22 : decode cX12_listen 22 = .ok (.iload 5, 2) := by decide +kernel
theorem dX12_listen_24 : decode cX12_listen 24 = .ok (.bipush 60, 2) := by decide +kernel
theorem dX12_listen_26 : decode cX12_listen 26 = .ok (.if_icmp .gt 139, 3) := by decide +kernel
theorem dX12_listen_29 : decode cX12_listen 29 = .ok (.iload_n 1, 1) := by decide +kernel
theorem dX12_listen_30 : decode cX12_listen 30 = .ok (.ifCond .le 135, 3) := by decide +kernel
theorem dX12_listen_33 : decode cX12_listen 33 = .ok (.iconst 0, 1) := by decide +kernel
theorem dX12_listen_34 : decode cX12_listen 34 = .ok (.istore 6, 2) := by decide +kernel
theorem dX12_listen_36 : decode cX12_listen 36 = .ok (.iload 6, 2) := by decide +kernel
theorem dX12_listen_38 : decode cX12_listen 38 = .ok (.iconst 5, 1) := by decide +kernel
theorem dX12_listen_39 : decode cX12_listen 39 = .ok (.if_icmp .ge 17, 3) := by decide +kernel
theorem dX12_listen_42 : decode cX12_listen 42 = .ok (.aload_n 0, 1) := by decide +kernel
theorem dX12_listen_43 : decode cX12_listen 43 = .ok (.getfield 35, 3) := by decide +kernel
theorem dX12_listen_46 : decode cX12_listen 46 = .ok (.iload 6, 2) := by decide +kernel
theorem dX12_listen_48 : decode cX12_listen 48 = .ok (.iconst 0, 1) := by decide +kernel
theorem dX12_listen_49 : decode cX12_listen 49 = .ok (.iastore, 1) := by decide +kernel
theorem dX12_listen_50 : decode cX12_listen 50 = .ok (.iinc 6 1, 3) := by decide +kernel
theorem dX12_listen_53 : decode cX12_listen 53 = .ok (.goto (-17), 3) := by decide +kernel
theorem dX12_listen_56 : decode cX12_listen 56 = .ok (.iconst 0, 1) := by decide +kernel
theorem dX12_listen_57 : decode cX12_listen 57 = .ok (.istore 6, 2) := by decide +kernel
theorem dX12_listen_59 : decode cX12_listen 59 = .ok (.iconst 0, 1) := by decide +kernel
theorem dX12_listen_60 : decode cX12_listen 60 = .ok (.istore 7, 2) := by decide +kernel
theorem dX12_listen_62 : decode cX12_listen 62 = .ok (.iload 7, 2) := by decide +kernel
theorem dX12_listen_64 : decode cX12_listen 64 = .ok (.iload 4, 2) := by decide +kernel
theorem dX12_listen_66 : decode cX12_listen 66 = .ok (.if_icmp .ge 67, 3) := by decide +kernel
theorem dX12_listen_69 : decode cX12_listen 69 = .ok (.aload_n 0, 1) := by decide +kernel
theorem dX12_listen_70 : decode cX12_listen 70 = .ok (.iload 7, 2) := by decide +kernel
theorem dX12_listen_72 : decode cX12_listen 72 = .ok (.invokevirtual 140, 3) := by decide +kernel
theorem dX12_listen_75 : decode cX12_listen 75 = .ok (.ifCond .eq 52, 3) := by decide +kernel
theorem dX12_listen_78 : decode cX12_listen 78 = .ok (.aload_n 0, 1) := by decide +kernel
theorem dX12_listen_79 : decode cX12_listen 79 = .ok (.getfield 32, 3) := by decide +kernel
theorem dX12_listen_82 : decode cX12_listen 82 = .ok (.iload 7, 2) := by decide +kernel
theorem dX12_listen_84 : decode cX12_listen 84 = .ok (.iload 5, 2) := by decide +kernel
theorem dX12_listen_86 : decode cX12_listen 86 = .ok (.iadd, 1) := by decide +kernel
theorem dX12_listen_87 : decode cX12_listen 87 = .ok (.iaload, 1) := by decide +kernel
theorem dX12_listen_88 : decode cX12_listen 88 = .ok (.istore 8, 2) := by decide +kernel
theorem dX12_listen_90 : decode cX12_listen 90 = .ok (.aload_n 0, 1) := by decide +kernel
theorem dX12_listen_91 : decode cX12_listen 91 = .ok (.getfield 35, 3) := by decide +kernel
theorem dX12_listen_94 : decode cX12_listen 94 = .ok (.iload 8, 2) := by decide +kernel
theorem dX12_listen_96 : decode cX12_listen 96 = .ok (.dup2, 1) := by decide +kernel
theorem dX12_listen_97 : decode cX12_listen 97 = .ok (.iaload, 1) := by decide +kernel
theorem dX12_listen_98 : decode cX12_listen 98 = .ok (.iconst 1, 1) := by decide +kernel
theorem dX12_listen_99 : decode cX12_listen 99 = .ok (.iadd, 1) := by decide +kernel
theorem dX12_listen_100 : decode cX12_listen 100 = .ok (.iastore, 1) := by decide +kernel
theorem dX12_listen_101 : decode cX12_listen 101 = .ok (.aload_n 0, 1) := by decide +kernel
theorem dX12_listen_102 : decode cX12_listen 102 = .ok (.getfield 35, 3) := by decide +kernel
theorem dX12_listen_105 : decode cX12_listen 105 = .ok (.iload 8, 2) := by decide +kernel
theorem dX12_listen_107 : decode cX12_listen 107 = .ok (.iaload, 1) := by decide +kernel
theorem dX12_listen_108 : decode cX12_listen 108 = .ok (.iload 6, 2) := by decide +kernel
theorem dX12_listen_110 : decode cX12_listen 110 = .ok (.if_icmp .le 13, 3) := by decide +kernel
theorem dX12_listen_113 : decode cX12_listen 113 = .ok (.aload_n 0, 1) := by decide +kernel
theorem dX12_listen_114 : decode cX12_listen 114 = .ok (.getfield 35, 3) := by decide +kernel
theorem dX12_listen_117 : decode cX12_listen 117 = .ok (.iload 8, 2) := by decide +kernel
theorem dX12_listen_119 : decode cX12_listen 119 = .ok (.iaload, 1) := by decide +kernel
theorem dX12_listen_120 : decode cX12_listen 120 = .ok (.goto 5, 3) := by decide +kernel
theorem dX12_listen_123 : decode cX12_listen 123 = .ok (.iload 6, 2) := by decide +kernel
theorem dX12_listen_125 : decode cX12_listen 125 = .ok (.istore 6, 2) := by decide +kernel
theorem dX12_listen_127 : decode cX12_listen 127 = .ok (.iinc 7 1, 3) := by decide +kernel
theorem dX12_listen_130 : decode cX12_listen 130 = .ok (.goto (-68), 3) := by decide +kernel
theorem dX12_listen_133 : decode cX12_listen 133 = .ok (.iload 6, 2) := by decide +kernel
theorem dX12_listen_135 : decode cX12_listen 135 = .ok (.iload_n 3, 1) := by decide +kernel
theorem dX12_listen_136 : decode cX12_listen 136 = .ok (.if_icmp .ge 8, 3) := by decide +kernel
theorem dX12_listen_139 : decode cX12_listen 139 = .ok (.iload 5, 2) := by decide +kernel
theorem dX12_listen_141 : decode cX12_listen 141 = .ok (.goto 4, 3) := by decide +kernel
theorem dX12_listen_144 : decode cX12_listen 144 = .ok (.iload_n 2, 1) := by decide +kernel
theorem dX12_listen_145 : decode cX12_listen 145 = .ok (.istore_n 2, 1) := by decide +kernel
theorem dX12_listen_146 : decode cX12_listen 146 = .ok (.iload 6, 2) := by decide +kernel
theorem dX12_listen_148 : decode cX12_listen 148 = .ok (.iload_n 3, 1) := by decide +kernel
theorem dX12_listen_149 : decode cX12_listen 149 = .ok (.if_icmp .ge 8, 3) := by decide +kernel
theorem dX12_listen_152 : decode cX12_listen 152 = .ok (.iload 6, 2) := by decide +kernel
theorem dX12_listen_154 : decode cX12_listen 154 = .ok (.goto 4, 3) := by decide +kernel
theorem dX12_listen_157 : decode cX12_listen 157 = .ok (.iload_n 3, 1) := by decide +kernel
theorem dX12_listen_158 : decode cX12_listen 158 = .ok (.istore_n 3, 1) := by decide +kernel
theorem dX12_listen_159 : decode cX12_listen 159 = .ok (.iinc 5 1, 3) := by decide +kernel
theorem dX12_listen_162 : decode cX12_listen 162 = .ok (.goto (-140), 3) := by decide +kernel
theorem dX12_listen_165 : decode cX12_listen 165 = .ok (.iload_n 2, 1) := by decide +kernel
theorem dX12_listen_166 : decode cX12_listen 166 = .ok (.ireturn, 1) := by decide +kernel
set_option maxRecDepth 20000 in
theorem ggX12_isRest_X12_has : GoodIn wsX12_isRest wsX12_has := goodIn_r _ [6] (by decide +kernel) (by decide +kernel)
set_option maxRecDepth 20000 in
theorem gX12_isRest_X12_has : GoodIn wsX12_isRest (va_wsS RX12 94 yX12_has wsX12_has) := goodIn_app (goodIn_of _ (by decide +kernel)) ggX12_isRest_X12_has
theorem dX12_isRest_0 : decode cX12_isRest 0 = .ok (.aload_n 0, 1) := by decide +kernel
theorem dX12_isRest_1 : decode cX12_isRest 1 = .ok (.getfield 19, 3) := by decide +kernel
theorem dX12_isRest_4 : decode cX12_isRest 4 = .ok (.iconst 3, 1) := by decide +kernel
theorem dX12_isRest_5 : decode cX12_isRest 5 = .ok (.iaload, 1) := by decide +kernel
theorem dX12_isRest_6 : decode cX12_isRest 6 = .ok (.iload_n 1, 1) := by decide +kernel
theorem dX12_isRest_7 : decode cX12_isRest 7 = .ok (.invokestatic 94, 3) := by decide +kernel
theorem dX12_isRest_10 : decode cX12_isRest 10 = .ok (.ifCond .ne 20, 3) := by decide +kernel
theorem dX12_isRest_13 : decode cX12_isRest 13 = .ok (.aload_n 0, 1) := by decide +kernel
theorem dX12_isRest_14 : decode cX12_isRest 14 = .ok (.getfield 13, 3) := by decide +kernel
theorem dX12_isRest_17 : decode cX12_isRest 17 = .ok (.bipush 22, 2) := by decide +kernel
theorem dX12_isRest_19 : decode cX12_isRest 19 = .ok (.iload_n 1, 1) := by decide +kernel
theorem dX12_isRest_20 : decode cX12_isRest 20 = .ok (.iadd, 1) := by decide +kernel
theorem dX12_isRest_21 : decode cX12_isRest 21 = .ok (.iaload, 1) := by decide +kernel
theorem dX12_isRest_22 : decode cX12_isRest 22 = .ok (.iconst 2, 1) := by decide +kernel
theorem dX12_isRest_23 : decode cX12_isRest 23 = .ok (.if_icmp .eq 7, 3) := by decide +kernel
theorem dX12_isRest_26 : decode cX12_isRest 26 = .ok (.iconst 1, 1) := by decide +kernel
theorem dX12_isRest_27 : decode cX12_isRest 27 = .ok (.goto 4, 3) := by decide +kernel
theorem dX12_isRest_30 : decode cX12_isRest 30 = .ok (.iconst 0, 1) := by decide +kernel
theorem dX12_isRest_31 : decode cX12_isRest 31 = .ok (.ireturn, 1) := by decide +kernel
set_option maxRecDepth 20000 in
theorem ggX12_fits_X12_isRest : GoodIn wsX12_fits wsX12_isRest := goodIn_r _ [8, 9, 1, 10, 11, 7, 12, 17, 18, 19, 20, 21, 22, 23, 24, 25, 26, 27, 28, 29, 30, 31, 32, 33, 34] (by decide +kernel) (by decide +kernel)
set_option maxRecDepth 20000 in
theorem gX12_fits_X12_isRest : GoodIn wsX12_fits (wsV RX12 146 RX12 yX12_isRest wsX12_isRest) := goodIn_app (goodIn_of _ (by decide +kernel)) ggX12_fits_X12_isRest
set_option maxRecDepth 20000 in
theorem ggX12_fits_X12_minutes : GoodIn wsX12_fits wsX12_minutes := goodIn_r _ [16, 1, 17, 18, 19, 20, 21, 22, 23, 24, 25, 26, 27, 28, 29, 30, 31, 32, 33, 34] (by decide +kernel) (by decide +kernel)
set_option maxRecDepth 20000 in
theorem gX12_fits_X12_minutes : GoodIn wsX12_fits (wsV RX12 98 RX12 yX12_minutes wsX12_minutes) := goodIn_app (goodIn_of _ (by decide +kernel)) ggX12_fits_X12_minutes
set_option maxRecDepth 20000 in
theorem ggX12_fits_X12_has : GoodIn wsX12_fits wsX12_has := goodIn_r _ [12] (by decide +kernel) (by decide +kernel)
set_option maxRecDepth 20000 in
theorem gX12_fits_X12_has : GoodIn wsX12_fits (va_wsS RX12 94 yX12_has wsX12_has) := goodIn_app (goodIn_of _ (by decide +kernel)) ggX12_fits_X12_has
theorem dX12_fits_0 : decode cX12_fits 0 = .ok (.iconst 0, 1) := by decide +kernel
theorem dX12_fits_1 : decode cX12_fits 1 = .ok (.istore_n 2, 1) := by decide +kernel
theorem dX12_fits_2 : decode cX12_fits 2 = .ok (.iload_n 2, 1) := by decide +kernel
theorem dX12_fits_3 : decode cX12_fits 3 = .ok (.aload_n 0, 1) := by decide +kernel
theorem dX12_fits_4 : decode cX12_fits 4 = .ok (.getfield 13, 3) := by decide +kernel
theorem dX12_fits_7 : decode cX12_fits 7 = .ok (.iconst 0, 1) := by decide +kernel
theorem dX12_fits_8 : decode cX12_fits 8 = .ok (.iaload, 1) := by decide +kernel
theorem dX12_fits_9 : decode cX12_fits 9 = .ok (.if_icmp .ge 32, 3) := by decide +kernel
theorem dX12_fits_12 : decode cX12_fits 12 = .ok (.aload_n 0, 1) := by decide +kernel
theorem dX12_fits_13 : decode cX12_fits 13 = .ok (.getfield 38, 3) := by decide +kernel
theorem dX12_fits_16 : decode cX12_fits 16 = .ok (.iload_n 2, 1) := by decide +kernel
theorem dX12_fits_17 : decode cX12_fits 17 = .ok (.aload_n 0, 1) := by decide +kernel
theorem dX12_fits_18 : decode cX12_fits 18 = .ok (.iload_n 2, 1) := by decide +kernel
theorem dX12_fits_19 : decode cX12_fits 19 = .ok (.invokevirtual 146, 3) := by decide +kernel
theorem dX12_fits_22 : decode cX12_fits 22 = .ok (.ifCond .eq 11, 3) := by decide +kernel
theorem dX12_fits_25 : decode cX12_fits 25 = .ok (.aload_n 0, 1) := by decide +kernel
theorem dX12_fits_26 : decode cX12_fits 26 = .ok (.iload_n 2, 1) := by decide +kernel
theorem dX12_fits_27 : decode cX12_fits 27 = .ok (.invokevirtual 98, 3) := by decide +kernel
theorem dX12_fits_30 : decode cX12_fits 30 = .ok (.goto 4, 3) := by decide +kernel
theorem dX12_fits_33 : decode cX12_fits 33 = .ok (.iconst 0, 1) := by decide +kernel
theorem dX12_fits_34 : decode cX12_fits 34 = .ok (.iastore, 1) := by decide +kernel
theorem dX12_fits_35 : decode cX12_fits 35 = .ok (.iinc 2 1, 3) := by decide +kernel
theorem dX12_fits_38 : decode cX12_fits 38 = .ok (.goto (-36), 3) := by decide +kernel
theorem dX12_fits_41 : decode cX12_fits 41 = .ok (.iconst 0, 1) := by decide +kernel
theorem dX12_fits_42 : decode cX12_fits 42 = .ok (.istore_n 2, 1) := by decide +kernel
theorem dX12_fits_43 : decode cX12_fits 43 = .ok (.aload_n 0, 1) := by decide +kernel
theorem dX12_fits_44 : decode cX12_fits 44 = .ok (.getfield 41, 3) := by decide +kernel
theorem dX12_fits_47 : decode cX12_fits 47 = .ok (.iconst 0, 1) := by decide +kernel
theorem dX12_fits_48 : decode cX12_fits 48 = .ok (.iconst (-1), 1) := by decide +kernel
theorem dX12_fits_49 : decode cX12_fits 49 = .ok (.iastore, 1) := by decide +kernel
theorem dX12_fits_50 : decode cX12_fits 50 = .ok (.iload_n 2, 1) := by decide +kernel
theorem dX12_fits_51 : decode cX12_fits 51 = .ok (.ifCond .lt 218, 3) := by decide +kernel
theorem dX12_fits_54 : decode cX12_fits 54 = .ok (.iload_n 2, 1) := by decide +kernel
theorem dX12_fits_55 : decode cX12_fits 55 = .ok (.aload_n 0, 1) := by decide +kernel
theorem dX12_fits_56 : decode cX12_fits 56 = .ok (.getfield 13, 3) := by decide +kernel
theorem dX12_fits_59 : decode cX12_fits 59 = .ok (.iconst 1, 1) := by decide +kernel
theorem dX12_fits_60 : decode cX12_fits 60 = .ok (.iaload, 1) := by decide +kernel
theorem dX12_fits_61 : decode cX12_fits 61 = .ok (.if_icmp .ge 208, 3) := by decide +kernel
theorem dX12_fits_64 : decode cX12_fits 64 = .ok (.iload_n 1, 1) := by decide +kernel
theorem dX12_fits_65 : decode cX12_fits 65 = .ok (.iload_n 2, 1) := by decide +kernel
theorem dX12_fits_66 : decode cX12_fits 66 = .ok (.invokestatic 94, 3) := by decide +kernel
theorem dX12_fits_69 : decode cX12_fits 69 = .ok (.istore_n 3, 1) := by decide +kernel
theorem dX12_fits_70 : decode cX12_fits 70 = .ok (.iload_n 3, 1) := by decide +kernel
theorem dX12_fits_71 : decode cX12_fits 71 = .ok (.ifCond .eq 35, 3) := by decide +kernel
theorem dX12_fits_74 : decode cX12_fits 74 = .ok (.aload_n 0, 1) := by decide +kernel
theorem dX12_fits_75 : decode cX12_fits 75 = .ok (.getfield 41, 3) := by decide +kernel
theorem dX12_fits_78 : decode cX12_fits 78 = .ok (.iload_n 2, 1) := by decide +kernel
theorem dX12_fits_79 : decode cX12_fits 79 = .ok (.iaload, 1) := by decide +kernel
theorem dX12_fits_80 : decode cX12_fits 80 = .ok (.ifCond .lt 26, 3) := by decide +kernel
theorem dX12_fits_83 : decode cX12_fits 83 = .ok (.aload_n 0, 1) := by decide +kernel
theorem dX12_fits_84 : decode cX12_fits 84 = .ok (.getfield 38, 3) := by decide +kernel
theorem dX12_fits_87 : decode cX12_fits 87 = .ok (.aload_n 0, 1) := by decide +kernel
theorem dX12_fits_88 : decode cX12_fits 88 = .ok (.getfield 41, 3) := by decide +kernel
theorem dX12_fits_91 : decode cX12_fits 91 = .ok (.iload_n 2, 1) := by decide +kernel
theorem dX12_fits_92 : decode cX12_fits 92 = .ok (.iaload, 1) := by decide +kernel
theorem dX12_fits_93 : decode cX12_fits 93 = .ok (.dup2, 1) := by decide +kernel
theorem dX12_fits_94 : decode cX12_fits 94 = .ok (.iaload, 1) := by decide +kernel
theorem dX12_fits_95 : decode cX12_fits 95 = .ok (.aload_n 0, 1) := by decide +kernel
theorem dX12_fits_96 : decode cX12_fits 96 = .ok (.getfield 13, 3) := by decide +kernel
theorem dX12_fits_99 : decode cX12_fits 99 = .ok (.bipush 30, 2) := by decide +kernel
theorem dX12_fits_101 : decode cX12_fits 101 = .ok (.iload_n 2, 1) := by decide +kernel
theorem dX12_fits_102 : decode cX12_fits 102 = .ok (.iadd, 1) := by decide +kernel
theorem dX12_fits_103 : decode cX12_fits 103 = .ok (.iaload, 1) := by decide +kernel
theorem dX12_fits_104 : decode cX12_fits 104 = .ok (.iadd, 1) := by decide +kernel
theorem dX12_fits_105 : decode cX12_fits 105 = .ok (.iastore, 1) := by decide +kernel
theorem dX12_fits_106 : decode cX12_fits 106 = .ok (.aload_n 0, 1) := by decide +kernel
theorem dX12_fits_107 : decode cX12_fits 107 = .ok (.getfield 41, 3) := by decide +kernel
theorem dX12_fits_110 : decode cX12_fits 110 = .ok (.iload_n 2, 1) := by decide +kernel
theorem dX12_fits_111 : decode cX12_fits 111 = .ok (.iaload, 1) := by decide +kernel
theorem dX12_fits_112 : decode cX12_fits 112 = .ok (.iconst 1, 1) := by decide +kernel
theorem dX12_fits_113 : decode cX12_fits 113 = .ok (.iadd, 1) := by decide +kernel
theorem dX12_fits_114 : decode cX12_fits 114 = .ok (.istore 4, 2) := by decide +kernel
theorem dX12_fits_116 : decode cX12_fits 116 = .ok (.iload_n 3, 1) := by decide +kernel
theorem dX12_fits_117 : decode cX12_fits 117 = .ok (.ifCond .eq 39, 3) := by decide +kernel
theorem dX12_fits_120 : decode cX12_fits 120 = .ok (.iload 4, 2) := by decide +kernel
theorem dX12_fits_122 : decode cX12_fits 122 = .ok (.aload_n 0, 1) := by decide +kernel
theorem dX12_fits_123 : decode cX12_fits 123 = .ok (.getfield 13, 3) := by decide +kernel
theorem dX12_fits_126 : decode cX12_fits 126 = .ok (.iconst 0, 1) := by decide +kernel
theorem dX12_fits_127 : decode cX12_fits 127 = .ok (.iaload, 1) := by decide +kernel
theorem dX12_fits_128 : decode cX12_fits 128 = .ok (.if_icmp .ge 28, 3) := by decide +kernel
theorem dX12_fits_131 : decode cX12_fits 131 = .ok (.aload_n 0, 1) := by decide +kernel
theorem dX12_fits_132 : decode cX12_fits 132 = .ok (.getfield 38, 3) := by decide +kernel
theorem dX12_fits_135 : decode cX12_fits 135 = .ok (.iload 4, 2) := by decide +kernel
theorem dX12_fits_137 : decode cX12_fits 137 = .ok (.iaload, 1) := by decide +kernel
theorem dX12_fits_138 : decode cX12_fits 138 = .ok (.aload_n 0, 1) := by decide +kernel
theorem dX12_fits_139 : decode cX12_fits 139 = .ok (.getfield 13, 3) := by decide +kernel
theorem dX12_fits_142 : decode cX12_fits 142 = .ok (.bipush 30, 2) := by decide +kernel
theorem dX12_fits_144 : decode cX12_fits 144 = .ok (.iload_n 2, 1) := by decide +kernel
theorem dX12_fits_145 : decode cX12_fits 145 = .ok (.iadd, 1) := by decide +kernel
theorem dX12_fits_146 : decode cX12_fits 146 = .ok (.iaload, 1) := by decide +kernel
theorem dX12_fits_147 : decode cX12_fits 147 = .ok (.if_icmp .ge 9, 3) := by decide +kernel
theorem dX12_fits_150 : decode cX12_fits 150 = .ok (.iinc 4 1, 3) := by decide +kernel
theorem dX12_fits_153 : decode cX12_fits 153 = .ok (.goto (-37), 3) := by decide +kernel
theorem dX12_fits_156 : decode cX12_fits 156 = .ok (.iload_n 3, 1) := by decide +kernel
theorem dX12_fits_157 : decode cX12_fits 157 = .ok (.ifCond .eq 22, 3) := by decide +kernel
theorem dX12_fits_160 : decode cX12_fits 160 = .ok (.iload 4, 2) := by decide +kernel
theorem dX12_fits_162 : decode cX12_fits 162 = .ok (.aload_n 0, 1) := by decide +kernel
theorem dX12_fits_163 : decode cX12_fits 163 = .ok (.getfield 13, 3) := by decide +kernel
theorem dX12_fits_166 : decode cX12_fits 166 = .ok (.iconst 0, 1) := by decide +kernel
theorem dX12_fits_167 : decode cX12_fits 167 = .ok (.iaload, 1) := by decide +kernel
theorem dX12_fits_168 : decode cX12_fits 168 = .ok (.if_icmp .ge 7, 3) := by decide +kernel
theorem dX12_fits_171 : decode cX12_fits 171 = .ok (.iconst 1, 1) := by decide +kernel
theorem dX12_fits_172 : decode cX12_fits 172 = .ok (.goto 21, 3) := by decide +kernel
theorem dX12_fits_175 : decode cX12_fits 175 = .ok (.iconst 0, 1) := by decide +kernel
theorem dX12_fits_176 : decode cX12_fits 176 = .ok (.goto 17, 3) := by decide +kernel
theorem dX12_fits_179 : decode cX12_fits 179 = .ok (.aload_n 0, 1) := by decide +kernel
theorem dX12_fits_180 : decode cX12_fits 180 = .ok (.getfield 41, 3) := by decide +kernel
theorem dX12_fits_183 : decode cX12_fits 183 = .ok (.iload_n 2, 1) := by decide +kernel
theorem dX12_fits_184 : decode cX12_fits 184 = .ok (.iaload, 1) := by decide +kernel
theorem dX12_fits_185 : decode cX12_fits 185 = .ok (.ifCond .ge 7, 3) := by decide +kernel
theorem dX12_fits_188 : decode cX12_fits 188 = .ok (.iconst 1, 1) := by decide +kernel
theorem dX12_fits_189 : decode cX12_fits 189 = .ok (.goto 4, 3) := by decide +kernel
theorem dX12_fits_192 : decode cX12_fits 192 = .ok (.iconst 0, 1) := by decide +kernel
theorem dX12_fits_193 : decode cX12_fits 193 = .ok (.istore 5, 2) := by decide +kernel
theorem dX12_fits_195 : decode cX12_fits 195 = .ok (.aload_n 0, 1) := by decide +kernel
theorem dX12_fits_196 : decode cX12_fits 196 = .ok (.getfield 41, 3) := by decide +kernel
theorem dX12_fits_199 : decode cX12_fits 199 = .ok (.iload_n 2, 1) := by decide +kernel
theorem dX12_fits_200 : decode cX12_fits 200 = .ok (.iload 4, 2) := by decide +kernel
theorem dX12_fits_202 : decode cX12_fits 202 = .ok (.iastore, 1) := by decide +kernel
theorem dX12_fits_203 : decode cX12_fits 203 = .ok (.iload 5, 2) := by decide +kernel
theorem dX12_fits_205 : decode cX12_fits 205 = .ok (.ifCond .eq 26, 3) := by decide +kernel
theorem dX12_fits_208 : decode cX12_fits 208 = .ok (.iload_n 3, 1) := by decide +kernel
theorem dX12_fits_209 : decode cX12_fits 209 = .ok (.ifCond .eq 22, 3) := by decide +kernel
theorem dX12_fits_212 : decode cX12_fits 212 = .ok (.aload_n 0, 1) := by decide +kernel
theorem dX12_fits_213 : decode cX12_fits 213 = .ok (.getfield 38, 3) := by decide +kernel
theorem dX12_fits_216 : decode cX12_fits 216 = .ok (.iload 4, 2) := by decide +kernel
theorem dX12_fits_218 : decode cX12_fits 218 = .ok (.dup2, 1) := by decide +kernel
theorem dX12_fits_219 : decode cX12_fits 219 = .ok (.iaload, 1) := by decide +kernel
theorem dX12_fits_220 : decode cX12_fits 220 = .ok (.aload_n 0, 1) := by decide +kernel
theorem dX12_fits_221 : decode cX12_fits 221 = .ok (.getfield 13, 3) := by decide +kernel
theorem dX12_fits_224 : decode cX12_fits 224 = .ok (.bipush 30, 2) := by decide +kernel
theorem dX12_fits_226 : decode cX12_fits 226 = .ok (.iload_n 2, 1) := by decide +kernel
theorem dX12_fits_227 : decode cX12_fits 227 = .ok (.iadd, 1) := by decide +kernel
theorem dX12_fits_228 : decode cX12_fits 228 = .ok (.iaload, 1) := by decide +kernel
theorem dX12_fits_229 : decode cX12_fits 229 = .ok (.isub, 1) := by decide +kernel
theorem dX12_fits_230 : decode cX12_fits 230 = .ok (.iastore, 1) := by decide +kernel
theorem dX12_fits_231 : decode cX12_fits 231 = .ok (.iload_n 2, 1) := by decide +kernel
theorem dX12_fits_232 : decode cX12_fits 232 = .ok (.iload 5, 2) := by decide +kernel
theorem dX12_fits_234 : decode cX12_fits 234 = .ok (.ifCond .eq 7, 3) := by decide +kernel
theorem dX12_fits_237 : decode cX12_fits 237 = .ok (.iconst 1, 1) := by decide +kernel
theorem dX12_fits_238 : decode cX12_fits 238 = .ok (.goto 4, 3) := by decide +kernel
theorem dX12_fits_241 : decode cX12_fits 241 = .ok (.iconst (-1), 1) := by decide +kernel
theorem dX12_fits_242 : decode cX12_fits 242 = .ok (.iadd, 1) := by decide +kernel
theorem dX12_fits_243 : decode cX12_fits 243 = .ok (.istore_n 2, 1) := by decide +kernel
theorem dX12_fits_244 : decode cX12_fits 244 = .ok (.iload 5, 2) := by decide +kernel
theorem dX12_fits_246 : decode cX12_fits 246 = .ok (.ifCond .eq 20, 3) := by decide +kernel
theorem dX12_fits_249 : decode cX12_fits 249 = .ok (.iload_n 2, 1) := by decide +kernel
theorem dX12_fits_250 : decode cX12_fits 250 = .ok (.aload_n 0, 1) := by decide +kernel
theorem dX12_fits_251 : decode cX12_fits 251 = .ok (.getfield 13, 3) := by decide +kernel
theorem dX12_fits_254 : decode cX12_fits 254 = .ok (.iconst 1, 1) := by decide +kernel
theorem dX12_fits_255 : decode cX12_fits 255 = .ok (.iaload, 1) := by decide +kernel
theorem dX12_fits_256 : decode cX12_fits 256 = .ok (.if_icmp .ge 10, 3) := by decide +kernel
theorem dX12_fits_259 : decode cX12_fits 259 = .ok (.aload_n 0, 1) := by decide +kernel
theorem dX12_fits_260 : decode cX12_fits 260 = .ok (.getfield 41, 3) := by decide +kernel
theorem dX12_fits_263 : decode cX12_fits 263 = .ok (.iload_n 2, 1) := by decide +kernel
theorem dX12_fits_264 : decode cX12_fits 264 = .ok (.iconst (-1), 1) := by decide +kernel
theorem dX12_fits_265 : decode cX12_fits 265 = .ok (.iastore, 1) := by decide +kernel
theorem dX12_fits_266 : decode cX12_fits 266 = .ok (.goto (-216), 3) := by decide +kernel
theorem dX12_fits_269 : decode cX12_fits 269 = .ok (.iload_n 2, 1) := by decide +kernel
theorem dX12_fits_270 : decode cX12_fits 270 = .ok (.ifCond .lt 7, 3) := by decide +kernel
theorem dX12_fits_273 : decode cX12_fits 273 = .ok (.iconst 1, 1) := by decide +kernel
theorem dX12_fits_274 : decode cX12_fits 274 = .ok (.goto 4, 3) := by decide +kernel
theorem dX12_fits_277 : decode cX12_fits 277 = .ok (.iconst 0, 1) := by decide +kernel
theorem dX12_fits_278 : decode cX12_fits 278 = .ok (.ireturn, 1) := by decide +kernel
set_option maxRecDepth 20000 in
theorem ggX12_pack_X12_in : GoodIn wsX12_pack wsX12_in := goodIn_r _ [6] (by decide +kernel) (by decide +kernel)
set_option maxRecDepth 20000 in
theorem gX12_pack_X12_in : GoodIn wsX12_pack (va_wsS RX12 51 yX12_in wsX12_in) := goodIn_app (goodIn_of _ (by decide +kernel)) ggX12_pack_X12_in
set_option maxRecDepth 20000 in
theorem ggX12_pack_X12_ones : GoodIn wsX12_pack wsX12_ones := goodIn_r _ [9] (by decide +kernel) (by decide +kernel)
set_option maxRecDepth 20000 in
theorem gX12_pack_X12_ones : GoodIn wsX12_pack (va_wsS RX12 134 yX12_ones wsX12_ones) := goodIn_app (goodIn_of _ (by decide +kernel)) ggX12_pack_X12_ones
set_option maxRecDepth 20000 in
theorem ggX12_pack_X12_fits : GoodIn wsX12_pack wsX12_fits := goodIn_r _ [13, 1, 14, 2, 15, 16, 17, 5, 18, 19, 20, 21, 22, 23, 24, 25, 26, 27, 28, 29, 30, 31, 32, 33, 34, 35, 36, 37, 38, 39, 40, 41, 42, 43, 44] (by decide +kernel) (by decide +kernel)
set_option maxRecDepth 20000 in
theorem gX12_pack_X12_fits : GoodIn wsX12_pack (wsV RX12 149 RX12 yX12_fits wsX12_fits) := goodIn_app (goodIn_of _ (by decide +kernel)) ggX12_pack_X12_fits
set_option maxRecDepth 20000 in
theorem ggX12_pack_X12_has : GoodIn wsX12_pack wsX12_has := goodIn_r _ [22] (by decide +kernel) (by decide +kernel)
set_option maxRecDepth 20000 in
theorem gX12_pack_X12_has : GoodIn wsX12_pack (va_wsS RX12 94 yX12_has wsX12_has) := goodIn_app (goodIn_of _ (by decide +kernel)) ggX12_pack_X12_has
theorem dX12_pack_0 : decode cX12_pack 0 = .ok (.iload_n 1, 1) := by decide +kernel
theorem dX12_pack_1 : decode cX12_pack 1 = .ok (.bipush (-2), 2) := by decide +kernel
theorem dX12_pack_3 : decode cX12_pack 3 = .ok (.aload_n 0, 1) := by decide +kernel
theorem dX12_pack_4 : decode cX12_pack 4 = .ok (.getfield 13, 3) := by decide +kernel
theorem dX12_pack_7 : decode cX12_pack 7 = .ok (.iconst 1, 1) := by decide +kernel
theorem dX12_pack_8 : decode cX12_pack 8 = .ok (.iaload, 1) := by decide +kernel
theorem dX12_pack_9 : decode cX12_pack 9 = .ok (.iconst 1, 1) := by decide +kernel
theorem dX12_pack_10 : decode cX12_pack 10 = .ok (.isub, 1) := by decide +kernel
theorem dX12_pack_11 : decode cX12_pack 11 = .ok (.invokestatic 51, 3) := by decide +kernel
theorem dX12_pack_14 : decode cX12_pack 14 = .ok (.ifCond .ne 5, 3) := by decide +kernel
theorem dX12_pack_17 : decode cX12_pack 17 = .ok (.iconst (-1), 1) := by decide +kernel
theorem dX12_pack_18 : decode cX12_pack 18 = .ok (.ireturn, 1) := by decide +kernel
theorem dX12_pack_19 : decode cX12_pack 19 = .ok (.iconst 0, 1) := by decide +kernel
theorem dX12_pack_20 : decode cX12_pack 20 = .ok (.istore_n 2, 1) := by decide +kernel
theorem dX12_pack_21 : decode cX12_pack 21 = .ok (.iconst 1, 1) := by decide +kernel
theorem dX12_pack_22 : decode cX12_pack 22 = .ok (.istore_n 3, 1) := by decide +kernel
theorem dX12_pack_23 : decode cX12_pack 23 = .ok (.iload_n 3, 1) := by decide +kernel
theorem dX12_pack_24 : decode cX12_pack 24 = .ok (.iconst 1, 1) := by decide +kernel
theorem dX12_pack_25 : decode cX12_pack 25 = .ok (.aload_n 0, 1) := by decide +kernel
theorem dX12_pack_26 : decode cX12_pack 26 = .ok (.getfield 13, 3) := by decide +kernel
theorem dX12_pack_29 : decode cX12_pack 29 = .ok (.iconst 1, 1) := by decide +kernel
theorem dX12_pack_30 : decode cX12_pack 30 = .ok (.iaload, 1) := by decide +kernel
theorem dX12_pack_31 : decode cX12_pack 31 = .ok (.ishl, 1) := by decide +kernel
theorem dX12_pack_32 : decode cX12_pack 32 = .ok (.if_icmp .ge 34, 3) := by decide +kernel
theorem dX12_pack_35 : decode cX12_pack 35 = .ok (.iload_n 3, 1) := by decide +kernel
theorem dX12_pack_36 : decode cX12_pack 36 = .ok (.invokestatic 134, 3) := by decide +kernel
theorem dX12_pack_39 : decode cX12_pack 39 = .ok (.iload_n 2, 1) := by decide +kernel
theorem dX12_pack_40 : decode cX12_pack 40 = .ok (.invokestatic 134, 3) := by decide +kernel
theorem dX12_pack_43 : decode cX12_pack 43 = .ok (.if_icmp .le 15, 3) := by decide +kernel
theorem dX12_pack_46 : decode cX12_pack 46 = .ok (.aload_n 0, 1) := by decide +kernel
theorem dX12_pack_47 : decode cX12_pack 47 = .ok (.iload_n 3, 1) := by decide +kernel
theorem dX12_pack_48 : decode cX12_pack 48 = .ok (.invokevirtual 149, 3) := by decide +kernel
theorem dX12_pack_51 : decode cX12_pack 51 = .ok (.ifCond .eq 7, 3) := by decide +kernel
theorem dX12_pack_54 : decode cX12_pack 54 = .ok (.iload_n 3, 1) := by decide +kernel
theorem dX12_pack_55 : decode cX12_pack 55 = .ok (.goto 4, 3) := by decide +kernel
theorem dX12_pack_58 : decode cX12_pack 58 = .ok (.iload_n 2, 1) := by decide +kernel
theorem dX12_pack_59 : decode cX12_pack 59 = .ok (.istore_n 2, 1) := by decide +kernel
theorem dX12_pack_60 : decode cX12_pack 60 = .ok (.iinc 3 1, 3) := by decide +kernel
theorem dX12_pack_63 : decode cX12_pack 63 = .ok (.goto (-40), 3) := by decide +kernel
theorem dX12_pack_66 : decode cX12_pack 66 = .ok (.iload_n 1, 1) := by decide +kernel
theorem dX12_pack_67 : decode cX12_pack 67 = .ok (.ifCond .ge 17, 3) := by decide +kernel
theorem dX12_pack_70 : decode cX12_pack 70 = .ok (.iload_n 1, 1) := by decide +kernel
theorem dX12_pack_71 : decode cX12_pack 71 = .ok (.iconst (-1), 1) := by decide +kernel
theorem dX12_pack_72 : decode cX12_pack 72 = .ok (.if_icmp .ne 10, 3) := by decide +kernel
theorem dX12_pack_75 : decode cX12_pack 75 = .ok (.iload_n 2, 1) := by decide +kernel
theorem dX12_pack_76 : decode cX12_pack 76 = .ok (.invokestatic 134, 3) := by decide +kernel
theorem dX12_pack_79 : decode cX12_pack 79 = .ok (.goto 4, 3) := by decide +kernel
theorem dX12_pack_82 : decode cX12_pack 82 = .ok (.iload_n 2, 1) := by decide +kernel
theorem dX12_pack_83 : decode cX12_pack 83 = .ok (.ireturn, 1) := by decide +kernel
theorem dX12_pack_84 : decode cX12_pack 84 = .ok (.aload_n 0, 1) := by decide +kernel
theorem dX12_pack_85 : decode cX12_pack 85 = .ok (.iload_n 2, 1) := by decide +kernel
theorem dX12_pack_86 : decode cX12_pack 86 = .ok (.invokevirtual 149, 3) := by decide +kernel
theorem dX12_pack_89 : decode cX12_pack 89 = .ok (.ifCond .eq 20, 3) := by decide +kernel
theorem dX12_pack_92 : decode cX12_pack 92 = .ok (.iload_n 2, 1) := by decide +kernel
theorem dX12_pack_93 : decode cX12_pack 93 = .ok (.iload_n 1, 1) := by decide +kernel
theorem dX12_pack_94 : decode cX12_pack 94 = .ok (.invokestatic 94, 3) := by decide +kernel
theorem dX12_pack_97 : decode cX12_pack 97 = .ok (.ifCond .eq 12, 3) := by decide +kernel
theorem dX12_pack_100 : decode cX12_pack 100 = .ok (.aload_n 0, 1) := by decide +kernel
theorem dX12_pack_101 : decode cX12_pack 101 = .ok (.getfield 41, 3) := by decide +kernel
theorem dX12_pack_104 : decode cX12_pack 104 = .ok (.iload_n 1, 1) := by decide +kernel
theorem dX12_pack_105 : decode cX12_pack 105 = .ok (.iaload, 1) := by decide +kernel
theorem dX12_pack_106 : decode cX12_pack 106 = .ok (.goto 5, 3) := by decide +kernel
theorem dX12_pack_109 : decode cX12_pack 109 = .ok (.bipush (-9), 2) := by decide +kernel
theorem dX12_pack_111 : decode cX12_pack 111 = .ok (.ireturn, 1) := by decide +kernel
set_option maxRecDepth 20000 in
theorem ggX12_mark_X12_in : GoodIn wsX12_mark wsX12_in := goodIn_r _ [13] (by decide +kernel) (by decide +kernel)
set_option maxRecDepth 20000 in
theorem gX12_mark_X12_in : GoodIn wsX12_mark (va_wsS RX12 51 yX12_in wsX12_in) := goodIn_app (goodIn_of _ (by decide +kernel)) ggX12_mark_X12_in
set_option maxRecDepth 20000 in
theorem ggX12_mark_X12_isSection : GoodIn wsX12_mark wsX12_isSection := goodIn_r _ [17, 8, 10, 11, 12, 13, 18, 19, 20, 21, 22, 23, 24, 25, 26, 27, 28, 29, 30, 31, 32, 33, 34, 35] (by decide +kernel) (by decide +kernel)
set_option maxRecDepth 20000 in
theorem gX12_mark_X12_isSection : GoodIn wsX12_mark (wsV RX12 111 RX12 yX12_isSection wsX12_isSection) := goodIn_app (goodIn_of _ (by decide +kernel)) ggX12_mark_X12_isSection
theorem dX12_mark_0 : decode cX12_mark 0 = .ok (.iload_n 1, 1) := by decide +kernel
theorem dX12_mark_1 : decode cX12_mark 1 = .ok (.iconst 0, 1) := by decide +kernel
theorem dX12_mark_2 : decode cX12_mark 2 = .ok (.iconst 5, 1) := by decide +kernel
theorem dX12_mark_3 : decode cX12_mark 3 = .ok (.invokestatic 51, 3) := by decide +kernel
theorem dX12_mark_6 : decode cX12_mark 6 = .ok (.ifCond .eq 11, 3) := by decide +kernel
theorem dX12_mark_9 : decode cX12_mark 9 = .ok (.aload_n 0, 1) := by decide +kernel
theorem dX12_mark_10 : decode cX12_mark 10 = .ok (.iload_n 2, 1) := by decide +kernel
theorem dX12_mark_11 : decode cX12_mark 11 = .ok (.invokevirtual 111, 3) := by decide +kernel
theorem dX12_mark_14 : decode cX12_mark 14 = .ok (.ifCond .ne 6, 3) := by decide +kernel
theorem dX12_mark_17 : decode cX12_mark 17 = .ok (.ldc 127, 2) := by decide +kernel
theorem dX12_mark_19 : decode cX12_mark 19 = .ok (.ireturn, 1) := by decide +kernel
theorem dX12_mark_20 : decode cX12_mark 20 = .ok (.aload_n 0, 1) := by decide +kernel
theorem dX12_mark_21 : decode cX12_mark 21 = .ok (.dup, 1) := by decide +kernel
theorem dX12_mark_22 : decode cX12_mark 22 = .ok (.getfield 152, 3) := by decide +kernel
theorem dX12_mark_25 : decode cX12_mark 25 = .ok (.iload_n 1, 1) := by decide +kernel
theorem dX12_mark_26 : decode cX12_mark 26 = .ok (.ifCond .ne 7, 3) := by decide +kernel
theorem dX12_mark_29 : decode cX12_mark 29 = .ok (.lconst 1, 1) := by decide +kernel
theorem dX12_mark_30 : decode cX12_mark 30 = .ok (.goto 50, 3) := by decide +kernel
theorem dX12_mark_33 : decode cX12_mark 33 = .ok (.iload_n 1, 1) := by decide +kernel
theorem dX12_mark_34 : decode cX12_mark 34 = .ok (.iconst 1, 1) := by decide +kernel
theorem dX12_mark_35 : decode cX12_mark 35 = .ok (.if_icmp .ne 9, 3) := by decide +kernel
theorem dX12_mark_38 : decode cX12_mark 38 = .ok (.ldc2_w 156, 3) := by decide +kernel
theorem dX12_mark_41 : decode cX12_mark 41 = .ok (.goto 39, 3) := by decide +kernel
theorem dX12_mark_44 : decode cX12_mark 44 = .ok (.iload_n 1, 1) := by decide +kernel
theorem dX12_mark_45 : decode cX12_mark 45 = .ok (.iconst 2, 1) := by decide +kernel
theorem dX12_mark_46 : decode cX12_mark 46 = .ok (.if_icmp .ne 9, 3) := by decide +kernel
theorem dX12_mark_49 : decode cX12_mark 49 = .ok (.ldc2_w 158, 3) := by decide +kernel
theorem dX12_mark_52 : decode cX12_mark 52 = .ok (.goto 28, 3) := by decide +kernel
theorem dX12_mark_55 : decode cX12_mark 55 = .ok (.iload_n 1, 1) := by decide +kernel
theorem dX12_mark_56 : decode cX12_mark 56 = .ok (.iconst 3, 1) := by decide +kernel
theorem dX12_mark_57 : decode cX12_mark 57 = .ok (.if_icmp .ne 9, 3) := by decide +kernel
theorem dX12_mark_60 : decode cX12_mark 60 = .ok (.ldc2_w 160, 3) := by decide +kernel
theorem dX12_mark_63 : decode cX12_mark 63 = .ok (.goto 17, 3) := by decide +kernel
theorem dX12_mark_66 : decode cX12_mark 66 = .ok (.iload_n 1, 1) := by decide +kernel
theorem dX12_mark_67 : decode cX12_mark 67 = .ok (.iconst 4, 1) := by decide +kernel
theorem dX12_mark_68 : decode cX12_mark 68 = .ok (.if_icmp .ne 9, 3) := by decide +kernel
theorem dX12_mark_71 : decode cX12_mark 71 = .ok (.ldc2_w 162, 3) := by decide +kernel
theorem dX12_mark_74 : decode cX12_mark 74 = .ok (.goto 6, 3) := by decide +kernel
theorem dX12_mark_77 : decode cX12_mark 77 = .ok (.ldc2_w 164, 3) := by decide +kernel
theorem dX12_mark_80 : decode cX12_mark 80 = .ok (.ladd, 1) := by decide +kernel
theorem dX12_mark_81 : decode cX12_mark 81 = .ok (.putfield 152, 3) := by decide +kernel
theorem dX12_mark_84 : decode cX12_mark 84 = .ok (.aload_n 0, 1) := by decide +kernel
theorem dX12_mark_85 : decode cX12_mark 85 = .ok (.getfield 13, 3) := by decide +kernel
theorem dX12_mark_88 : decode cX12_mark 88 = .ok (.bipush 6, 2) := by decide +kernel
theorem dX12_mark_90 : decode cX12_mark 90 = .ok (.iload_n 2, 1) := by decide +kernel
theorem dX12_mark_91 : decode cX12_mark 91 = .ok (.iadd, 1) := by decide +kernel
theorem dX12_mark_92 : decode cX12_mark 92 = .ok (.iaload, 1) := by decide +kernel
theorem dX12_mark_93 : decode cX12_mark 93 = .ok (.aload_n 0, 1) := by decide +kernel
theorem dX12_mark_94 : decode cX12_mark 94 = .ok (.getfield 13, 3) := by decide +kernel
theorem dX12_mark_97 : decode cX12_mark 97 = .ok (.bipush 14, 2) := by decide +kernel
theorem dX12_mark_99 : decode cX12_mark 99 = .ok (.iload_n 2, 1) := by decide +kernel
theorem dX12_mark_100 : decode cX12_mark 100 = .ok (.iadd, 1) := by decide +kernel
theorem dX12_mark_101 : decode cX12_mark 101 = .ok (.iaload, 1) := by decide +kernel
theorem dX12_mark_102 : decode cX12_mark 102 = .ok (.iadd, 1) := by decide +kernel
theorem dX12_mark_103 : decode cX12_mark 103 = .ok (.istore_n 3, 1) := by decide +kernel
theorem dX12_mark_104 : decode cX12_mark 104 = .ok (.aload_n 0, 1) := by decide +kernel
theorem dX12_mark_105 : decode cX12_mark 105 = .ok (.getfield 13, 3) := by decide +kernel
theorem dX12_mark_108 : decode cX12_mark 108 = .ok (.bipush 6, 2) := by decide +kernel
theorem dX12_mark_110 : decode cX12_mark 110 = .ok (.iload_n 2, 1) := by decide +kernel
theorem dX12_mark_111 : decode cX12_mark 111 = .ok (.iadd, 1) := by decide +kernel
theorem dX12_mark_112 : decode cX12_mark 112 = .ok (.iaload, 1) := by decide +kernel
theorem dX12_mark_113 : decode cX12_mark 113 = .ok (.aload_n 0, 1) := by decide +kernel
theorem dX12_mark_114 : decode cX12_mark 114 = .ok (.getfield 13, 3) := by decide +kernel
theorem dX12_mark_117 : decode cX12_mark 117 = .ok (.bipush 22, 2) := by decide +kernel
theorem dX12_mark_119 : decode cX12_mark 119 = .ok (.iload_n 2, 1) := by decide +kernel
theorem dX12_mark_120 : decode cX12_mark 120 = .ok (.iadd, 1) := by decide +kernel
theorem dX12_mark_121 : decode cX12_mark 121 = .ok (.iaload, 1) := by decide +kernel
theorem dX12_mark_122 : decode cX12_mark 122 = .ok (.isub, 1) := by decide +kernel
theorem dX12_mark_123 : decode cX12_mark 123 = .ok (.istore 4, 2) := by decide +kernel
theorem dX12_mark_125 : decode cX12_mark 125 = .ok (.iload_n 1, 1) := by decide +kernel
theorem dX12_mark_126 : decode cX12_mark 126 = .ok (.ifCond .ne 15, 3) := by decide +kernel
theorem dX12_mark_129 : decode cX12_mark 129 = .ok (.aload_n 0, 1) := by decide +kernel
theorem dX12_mark_130 : decode cX12_mark 130 = .ok (.getfield 13, 3) := by decide +kernel
theorem dX12_mark_133 : decode cX12_mark 133 = .ok (.bipush 6, 2) := by decide +kernel
theorem dX12_mark_135 : decode cX12_mark 135 = .ok (.iload_n 2, 1) := by decide +kernel
theorem dX12_mark_136 : decode cX12_mark 136 = .ok (.iadd, 1) := by decide +kernel
theorem dX12_mark_137 : decode cX12_mark 137 = .ok (.iaload, 1) := by decide +kernel
theorem dX12_mark_138 : decode cX12_mark 138 = .ok (.goto 61, 3) := by decide +kernel
theorem dX12_mark_141 : decode cX12_mark 141 = .ok (.iload_n 1, 1) := by decide +kernel
theorem dX12_mark_142 : decode cX12_mark 142 = .ok (.iconst 1, 1) := by decide +kernel
theorem dX12_mark_143 : decode cX12_mark 143 = .ok (.if_icmp .ne 7, 3) := by decide +kernel
theorem dX12_mark_146 : decode cX12_mark 146 = .ok (.iload_n 3, 1) := by decide +kernel
theorem dX12_mark_147 : decode cX12_mark 147 = .ok (.goto 52, 3) := by decide +kernel
theorem dX12_mark_150 : decode cX12_mark 150 = .ok (.iload_n 1, 1) := by decide +kernel
theorem dX12_mark_151 : decode cX12_mark 151 = .ok (.iconst 2, 1) := by decide +kernel
theorem dX12_mark_152 : decode cX12_mark 152 = .ok (.if_icmp .ne 8, 3) := by decide +kernel
theorem dX12_mark_155 : decode cX12_mark 155 = .ok (.iload 4, 2) := by decide +kernel
theorem dX12_mark_157 : decode cX12_mark 157 = .ok (.goto 42, 3) := by decide +kernel
theorem dX12_mark_160 : decode cX12_mark 160 = .ok (.iload_n 1, 1) := by decide +kernel
theorem dX12_mark_161 : decode cX12_mark 161 = .ok (.iconst 3, 1) := by decide +kernel
theorem dX12_mark_162 : decode cX12_mark 162 = .ok (.if_icmp .ne 9, 3) := by decide +kernel
theorem dX12_mark_165 : decode cX12_mark 165 = .ok (.iconst 2, 1) := by decide +kernel
theorem dX12_mark_166 : decode cX12_mark 166 = .ok (.iload_n 3, 1) := by decide +kernel
theorem dX12_mark_167 : decode cX12_mark 167 = .ok (.imul, 1) := by decide +kernel
theorem dX12_mark_168 : decode cX12_mark 168 = .ok (.goto 31, 3) := by decide +kernel
theorem dX12_mark_171 : decode cX12_mark 171 = .ok (.iload_n 1, 1) := by decide +kernel
theorem dX12_mark_172 : decode cX12_mark 172 = .ok (.iconst 4, 1) := by decide +kernel
theorem dX12_mark_173 : decode cX12_mark 173 = .ok (.if_icmp .ne 10, 3) := by decide +kernel
theorem dX12_mark_176 : decode cX12_mark 176 = .ok (.iload 4, 2) := by decide +kernel
theorem dX12_mark_178 : decode cX12_mark 178 = .ok (.iload_n 2, 1) := by decide +kernel
theorem dX12_mark_179 : decode cX12_mark 179 = .ok (.iadd, 1) := by decide +kernel
theorem dX12_mark_180 : decode cX12_mark 180 = .ok (.goto 19, 3) := by decide +kernel
theorem dX12_mark_183 : decode cX12_mark 183 = .ok (.aload_n 0, 1) := by decide +kernel
theorem dX12_mark_184 : decode cX12_mark 184 = .ok (.getfield 13, 3) := by decide +kernel
theorem dX12_mark_187 : decode cX12_mark 187 = .ok (.bipush 6, 2) := by decide +kernel
theorem dX12_mark_189 : decode cX12_mark 189 = .ok (.iload_n 2, 1) := by decide +kernel
theorem dX12_mark_190 : decode cX12_mark 190 = .ok (.iadd, 1) := by decide +kernel
theorem dX12_mark_191 : decode cX12_mark 191 = .ok (.iaload, 1) := by decide +kernel
theorem dX12_mark_192 : decode cX12_mark 192 = .ok (.aload_n 0, 1) := by decide +kernel
theorem dX12_mark_193 : decode cX12_mark 193 = .ok (.getfield 19, 3) := by decide +kernel
theorem dX12_mark_196 : decode cX12_mark 196 = .ok (.iconst 0, 1) := by decide +kernel
theorem dX12_mark_197 : decode cX12_mark 197 = .ok (.iaload, 1) := by decide +kernel
theorem dX12_mark_198 : decode cX12_mark 198 = .ok (.iadd, 1) := by decide +kernel
theorem dX12_mark_199 : decode cX12_mark 199 = .ok (.ireturn, 1) := by decide +kernel
set_option maxRecDepth 20000 in
theorem ggX12_keep_X12_in : GoodIn wsX12_keep wsX12_in := goodIn_r _ [7] (by decide +kernel) (by decide +kernel)
set_option maxRecDepth 20000 in
theorem gX12_keep_X12_in : GoodIn wsX12_keep (va_wsS RX12 51 yX12_in wsX12_in) := goodIn_app (goodIn_of _ (by decide +kernel)) ggX12_keep_X12_in
theorem dX12_keep_0 : decode cX12_keep 0 = .ok (.iload_n 1, 1) := by decide +kernel
theorem dX12_keep_1 : decode cX12_keep 1 = .ok (.iconst 0, 1) := by decide +kernel
theorem dX12_keep_2 : decode cX12_keep 2 = .ok (.iconst 1, 1) := by decide +kernel
theorem dX12_keep_3 : decode cX12_keep 3 = .ok (.invokestatic 51, 3) := by decide +kernel
theorem dX12_keep_6 : decode cX12_keep 6 = .ok (.ifCond .ne 5, 3) := by decide +kernel
theorem dX12_keep_9 : decode cX12_keep 9 = .ok (.iconst (-1), 1) := by decide +kernel
theorem dX12_keep_10 : decode cX12_keep 10 = .ok (.ireturn, 1) := by decide +kernel
theorem dX12_keep_11 : decode cX12_keep 11 = .ok (.iconst 0, 1) := by decide +kernel
theorem dX12_keep_12 : decode cX12_keep 12 = .ok (.istore_n 2, 1) := by decide +kernel
theorem dX12_keep_13 : decode cX12_keep 13 = .ok (.iload_n 2, 1) := by decide +kernel
theorem dX12_keep_14 : decode cX12_keep 14 = .ok (.bipush 56, 2) := by decide +kernel
theorem dX12_keep_16 : decode cX12_keep 16 = .ok (.if_icmp .ge 26, 3) := by decide +kernel
theorem dX12_keep_19 : decode cX12_keep 19 = .ok (.aload_n 0, 1) := by decide +kernel
theorem dX12_keep_20 : decode cX12_keep 20 = .ok (.getfield 22, 3) := by decide +kernel
theorem dX12_keep_23 : decode cX12_keep 23 = .ok (.bipush 56, 2) := by decide +kernel
theorem dX12_keep_25 : decode cX12_keep 25 = .ok (.iload_n 1, 1) := by decide +kernel
theorem dX12_keep_26 : decode cX12_keep 26 = .ok (.imul, 1) := by decide +kernel
theorem dX12_keep_27 : decode cX12_keep 27 = .ok (.iload_n 2, 1) := by decide +kernel
theorem dX12_keep_28 : decode cX12_keep 28 = .ok (.iadd, 1) := by decide +kernel
theorem dX12_keep_29 : decode cX12_keep 29 = .ok (.aload_n 0, 1) := by decide +kernel
theorem dX12_keep_30 : decode cX12_keep 30 = .ok (.getfield 19, 3) := by decide +kernel
theorem dX12_keep_33 : decode cX12_keep 33 = .ok (.iload_n 2, 1) := by decide +kernel
theorem dX12_keep_34 : decode cX12_keep 34 = .ok (.iaload, 1) := by decide +kernel
theorem dX12_keep_35 : decode cX12_keep 35 = .ok (.iastore, 1) := by decide +kernel
theorem dX12_keep_36 : decode cX12_keep 36 = .ok (.iinc 2 1, 3) := by decide +kernel
theorem dX12_keep_39 : decode cX12_keep 39 = .ok (.goto (-26), 3) := by decide +kernel
theorem dX12_keep_42 : decode cX12_keep 42 = .ok (.aload_n 0, 1) := by decide +kernel
theorem dX12_keep_43 : decode cX12_keep 43 = .ok (.getfield 25, 3) := by decide +kernel
theorem dX12_keep_46 : decode cX12_keep 46 = .ok (.iload_n 1, 1) := by decide +kernel
theorem dX12_keep_47 : decode cX12_keep 47 = .ok (.iconst 1, 1) := by decide +kernel
theorem dX12_keep_48 : decode cX12_keep 48 = .ok (.bastore, 1) := by decide +kernel
theorem dX12_keep_49 : decode cX12_keep 49 = .ok (.aload_n 0, 1) := by decide +kernel
theorem dX12_keep_50 : decode cX12_keep 50 = .ok (.getfield 19, 3) := by decide +kernel
theorem dX12_keep_53 : decode cX12_keep 53 = .ok (.iconst 0, 1) := by decide +kernel
theorem dX12_keep_54 : decode cX12_keep 54 = .ok (.iaload, 1) := by decide +kernel
theorem dX12_keep_55 : decode cX12_keep 55 = .ok (.ireturn, 1) := by decide +kernel
set_option maxRecDepth 20000 in
theorem ggX12_back_X12_in : GoodIn wsX12_back wsX12_in := goodIn_r _ [7] (by decide +kernel) (by decide +kernel)
set_option maxRecDepth 20000 in
theorem gX12_back_X12_in : GoodIn wsX12_back (va_wsS RX12 51 yX12_in wsX12_in) := goodIn_app (goodIn_of _ (by decide +kernel)) ggX12_back_X12_in
theorem dX12_back_0 : decode cX12_back 0 = .ok (.iload_n 1, 1) := by decide +kernel
theorem dX12_back_1 : decode cX12_back 1 = .ok (.iconst 0, 1) := by decide +kernel
theorem dX12_back_2 : decode cX12_back 2 = .ok (.iconst 1, 1) := by decide +kernel
theorem dX12_back_3 : decode cX12_back 3 = .ok (.invokestatic 51, 3) := by decide +kernel
theorem dX12_back_6 : decode cX12_back 6 = .ok (.ifCond .ne 5, 3) := by decide +kernel
theorem dX12_back_9 : decode cX12_back 9 = .ok (.iconst (-1), 1) := by decide +kernel
theorem dX12_back_10 : decode cX12_back 10 = .ok (.ireturn, 1) := by decide +kernel
theorem dX12_back_11 : decode cX12_back 11 = .ok (.aload_n 0, 1) := by decide +kernel
theorem dX12_back_12 : decode cX12_back 12 = .ok (.getfield 25, 3) := by decide +kernel
theorem dX12_back_15 : decode cX12_back 15 = .ok (.iload_n 1, 1) := by decide +kernel
theorem dX12_back_16 : decode cX12_back 16 = .ok (.baload, 1) := by decide +kernel
theorem dX12_back_17 : decode cX12_back 17 = .ok (.ifCond .ne 6, 3) := by decide +kernel
theorem dX12_back_20 : decode cX12_back 20 = .ok (.bipush (-2), 2) := by decide +kernel
theorem dX12_back_22 : decode cX12_back 22 = .ok (.ireturn, 1) := by decide +kernel
theorem dX12_back_23 : decode cX12_back 23 = .ok (.iconst 0, 1) := by decide +kernel
theorem dX12_back_24 : decode cX12_back 24 = .ok (.istore_n 2, 1) := by decide +kernel
theorem dX12_back_25 : decode cX12_back 25 = .ok (.iload_n 2, 1) := by decide +kernel
theorem dX12_back_26 : decode cX12_back 26 = .ok (.bipush 56, 2) := by decide +kernel
theorem dX12_back_28 : decode cX12_back 28 = .ok (.if_icmp .ge 26, 3) := by decide +kernel
theorem dX12_back_31 : decode cX12_back 31 = .ok (.aload_n 0, 1) := by decide +kernel
theorem dX12_back_32 : decode cX12_back 32 = .ok (.getfield 19, 3) := by decide +kernel
theorem dX12_back_35 : decode cX12_back 35 = .ok (.iload_n 2, 1) := by decide +kernel
theorem dX12_back_36 : decode cX12_back 36 = .ok (.aload_n 0, 1) := by decide +kernel
theorem dX12_back_37 : decode cX12_back 37 = .ok (.getfield 22, 3) := by decide +kernel
theorem dX12_back_40 : decode cX12_back 40 = .ok (.bipush 56, 2) := by decide +kernel
theorem dX12_back_42 : decode cX12_back 42 = .ok (.iload_n 1, 1) := by decide +kernel
theorem dX12_back_43 : decode cX12_back 43 = .ok (.imul, 1) := by decide +kernel
theorem dX12_back_44 : decode cX12_back 44 = .ok (.iload_n 2, 1) := by decide +kernel
theorem dX12_back_45 : decode cX12_back 45 = .ok (.iadd, 1) := by decide +kernel
theorem dX12_back_46 : decode cX12_back 46 = .ok (.iaload, 1) := by decide +kernel
theorem dX12_back_47 : decode cX12_back 47 = .ok (.iastore, 1) := by decide +kernel
theorem dX12_back_48 : decode cX12_back 48 = .ok (.iinc 2 1, 3) := by decide +kernel
theorem dX12_back_51 : decode cX12_back 51 = .ok (.goto (-26), 3) := by decide +kernel
theorem dX12_back_54 : decode cX12_back 54 = .ok (.aload_n 0, 1) := by decide +kernel
theorem dX12_back_55 : decode cX12_back 55 = .ok (.getfield 19, 3) := by decide +kernel
theorem dX12_back_58 : decode cX12_back 58 = .ok (.iconst 0, 1) := by decide +kernel
theorem dX12_back_59 : decode cX12_back 59 = .ok (.iaload, 1) := by decide +kernel
theorem dX12_back_60 : decode cX12_back 60 = .ok (.ireturn, 1) := by decide +kernel
theorem dX12_count_0 : decode cX12_count 0 = .ok (.iload_n 1, 1) := by decide +kernel
theorem dX12_count_1 : decode cX12_count 1 = .ok (.tableswitch 66 0 4 #[35, 42, 49, 54, 61], 35) := by decide +kernel
theorem dX12_count_36 : decode cX12_count 36 = .ok (.aload_n 0, 1) := by decide +kernel
theorem dX12_count_37 : decode cX12_count 37 = .ok (.getfield 13, 3) := by decide +kernel
theorem dX12_count_40 : decode cX12_count 40 = .ok (.iconst 0, 1) := by decide +kernel
theorem dX12_count_41 : decode cX12_count 41 = .ok (.iaload, 1) := by decide +kernel
theorem dX12_count_42 : decode cX12_count 42 = .ok (.ireturn, 1) := by decide +kernel
theorem dX12_count_43 : decode cX12_count 43 = .ok (.aload_n 0, 1) := by decide +kernel
theorem dX12_count_44 : decode cX12_count 44 = .ok (.getfield 13, 3) := by decide +kernel
theorem dX12_count_47 : decode cX12_count 47 = .ok (.iconst 1, 1) := by decide +kernel
theorem dX12_count_48 : decode cX12_count 48 = .ok (.iaload, 1) := by decide +kernel
theorem dX12_count_49 : decode cX12_count 49 = .ok (.ireturn, 1) := by decide +kernel
theorem dX12_count_50 : decode cX12_count 50 = .ok (.aload_n 0, 1) := by decide +kernel
theorem dX12_count_51 : decode cX12_count 51 = .ok (.getfield 91, 3) := by decide +kernel
theorem dX12_count_54 : decode cX12_count 54 = .ok (.ireturn, 1) := by decide +kernel
theorem dX12_count_55 : decode cX12_count 55 = .ok (.aload_n 0, 1) := by decide +kernel
theorem dX12_count_56 : decode cX12_count 56 = .ok (.getfield 19, 3) := by decide +kernel
theorem dX12_count_59 : decode cX12_count 59 = .ok (.iconst 5, 1) := by decide +kernel
theorem dX12_count_60 : decode cX12_count 60 = .ok (.iaload, 1) := by decide +kernel
theorem dX12_count_61 : decode cX12_count 61 = .ok (.ireturn, 1) := by decide +kernel
theorem dX12_count_62 : decode cX12_count 62 = .ok (.aload_n 0, 1) := by decide +kernel
theorem dX12_count_63 : decode cX12_count 63 = .ok (.getfield 55, 3) := by decide +kernel
theorem dX12_count_66 : decode cX12_count 66 = .ok (.ireturn, 1) := by decide +kernel
theorem dX12_count_67 : decode cX12_count 67 = .ok (.iconst (-1), 1) := by decide +kernel
theorem dX12_count_68 : decode cX12_count 68 = .ok (.ireturn, 1) := by decide +kernel
theorem dX12_trace_0 : decode cX12_trace 0 = .ok (.aload_n 0, 1) := by decide +kernel
theorem dX12_trace_1 : decode cX12_trace 1 = .ok (.getfield 152, 3) := by decide +kernel
theorem dX12_trace_4 : decode cX12_trace 4 = .ok (.lreturn, 1) := by decide +kernel
theorem dJ6_bitCount_0f7a4_0 : decode cJ6_bitCount_0f7a4 0 = .ok (.iload_n 0, 1) := by decide +kernel
theorem dJ6_bitCount_0f7a4_1 : decode cJ6_bitCount_0f7a4 1 = .ok (.iload_n 0, 1) := by decide +kernel
theorem dJ6_bitCount_0f7a4_2 : decode cJ6_bitCount_0f7a4 2 = .ok (.iconst 1, 1) := by decide +kernel
theorem dJ6_bitCount_0f7a4_3 : decode cJ6_bitCount_0f7a4 3 = .ok (.iushr, 1) := by decide +kernel
theorem dJ6_bitCount_0f7a4_4 : decode cJ6_bitCount_0f7a4 4 = .ok (.ldc_w 265, 3) := by decide +kernel
theorem dJ6_bitCount_0f7a4_7 : decode cJ6_bitCount_0f7a4 7 = .ok (.iand, 1) := by decide +kernel
theorem dJ6_bitCount_0f7a4_8 : decode cJ6_bitCount_0f7a4 8 = .ok (.isub, 1) := by decide +kernel
theorem dJ6_bitCount_0f7a4_9 : decode cJ6_bitCount_0f7a4 9 = .ok (.istore_n 0, 1) := by decide +kernel
theorem dJ6_bitCount_0f7a4_10 : decode cJ6_bitCount_0f7a4 10 = .ok (.iload_n 0, 1) := by decide +kernel
theorem dJ6_bitCount_0f7a4_11 : decode cJ6_bitCount_0f7a4 11 = .ok (.ldc_w 266, 3) := by decide +kernel
theorem dJ6_bitCount_0f7a4_14 : decode cJ6_bitCount_0f7a4 14 = .ok (.iand, 1) := by decide +kernel
theorem dJ6_bitCount_0f7a4_15 : decode cJ6_bitCount_0f7a4 15 = .ok (.iload_n 0, 1) := by decide +kernel
theorem dJ6_bitCount_0f7a4_16 : decode cJ6_bitCount_0f7a4 16 = .ok (.iconst 2, 1) := by decide +kernel
theorem dJ6_bitCount_0f7a4_17 : decode cJ6_bitCount_0f7a4 17 = .ok (.iushr, 1) := by decide +kernel
theorem dJ6_bitCount_0f7a4_18 : decode cJ6_bitCount_0f7a4 18 = .ok (.ldc_w 266, 3) := by decide +kernel
theorem dJ6_bitCount_0f7a4_21 : decode cJ6_bitCount_0f7a4 21 = .ok (.iand, 1) := by decide +kernel
theorem dJ6_bitCount_0f7a4_22 : decode cJ6_bitCount_0f7a4 22 = .ok (.iadd, 1) := by decide +kernel
theorem dJ6_bitCount_0f7a4_23 : decode cJ6_bitCount_0f7a4 23 = .ok (.istore_n 0, 1) := by decide +kernel
theorem dJ6_bitCount_0f7a4_24 : decode cJ6_bitCount_0f7a4 24 = .ok (.iload_n 0, 1) := by decide +kernel
theorem dJ6_bitCount_0f7a4_25 : decode cJ6_bitCount_0f7a4 25 = .ok (.iload_n 0, 1) := by decide +kernel
theorem dJ6_bitCount_0f7a4_26 : decode cJ6_bitCount_0f7a4 26 = .ok (.iconst 4, 1) := by decide +kernel
theorem dJ6_bitCount_0f7a4_27 : decode cJ6_bitCount_0f7a4 27 = .ok (.iushr, 1) := by decide +kernel
theorem dJ6_bitCount_0f7a4_28 : decode cJ6_bitCount_0f7a4 28 = .ok (.iadd, 1) := by decide +kernel
theorem dJ6_bitCount_0f7a4_29 : decode cJ6_bitCount_0f7a4 29 = .ok (.ldc_w 267, 3) := by decide +kernel
theorem dJ6_bitCount_0f7a4_32 : decode cJ6_bitCount_0f7a4 32 = .ok (.iand, 1) := by decide +kernel
theorem dJ6_bitCount_0f7a4_33 : decode cJ6_bitCount_0f7a4 33 = .ok (.istore_n 0, 1) := by decide +kernel
theorem dJ6_bitCount_0f7a4_34 : decode cJ6_bitCount_0f7a4 34 = .ok (.iload_n 0, 1) := by decide +kernel
theorem dJ6_bitCount_0f7a4_35 : decode cJ6_bitCount_0f7a4 35 = .ok (.iload_n 0, 1) := by decide +kernel
theorem dJ6_bitCount_0f7a4_36 : decode cJ6_bitCount_0f7a4 36 = .ok (.bipush 8, 2) := by decide +kernel
theorem dJ6_bitCount_0f7a4_38 : decode cJ6_bitCount_0f7a4 38 = .ok (.iushr, 1) := by decide +kernel
theorem dJ6_bitCount_0f7a4_39 : decode cJ6_bitCount_0f7a4 39 = .ok (.iadd, 1) := by decide +kernel
theorem dJ6_bitCount_0f7a4_40 : decode cJ6_bitCount_0f7a4 40 = .ok (.istore_n 0, 1) := by decide +kernel
theorem dJ6_bitCount_0f7a4_41 : decode cJ6_bitCount_0f7a4 41 = .ok (.iload_n 0, 1) := by decide +kernel
theorem dJ6_bitCount_0f7a4_42 : decode cJ6_bitCount_0f7a4 42 = .ok (.iload_n 0, 1) := by decide +kernel
theorem dJ6_bitCount_0f7a4_43 : decode cJ6_bitCount_0f7a4 43 = .ok (.bipush 16, 2) := by decide +kernel
theorem dJ6_bitCount_0f7a4_45 : decode cJ6_bitCount_0f7a4 45 = .ok (.iushr, 1) := by decide +kernel
theorem dJ6_bitCount_0f7a4_46 : decode cJ6_bitCount_0f7a4 46 = .ok (.iadd, 1) := by decide +kernel
theorem dJ6_bitCount_0f7a4_47 : decode cJ6_bitCount_0f7a4 47 = .ok (.istore_n 0, 1) := by decide +kernel
theorem dJ6_bitCount_0f7a4_48 : decode cJ6_bitCount_0f7a4 48 = .ok (.iload_n 0, 1) := by decide +kernel
theorem dJ6_bitCount_0f7a4_49 : decode cJ6_bitCount_0f7a4 49 = .ok (.bipush 63, 2) := by decide +kernel
theorem dJ6_bitCount_0f7a4_51 : decode cJ6_bitCount_0f7a4 51 = .ok (.iand, 1) := by decide +kernel
theorem dJ6_bitCount_0f7a4_52 : decode cJ6_bitCount_0f7a4 52 = .ok (.ireturn, 1) := by decide +kernel
theorem dJ9_abs_0f7a4_0 : decode cJ9_abs_0f7a4 0 = .ok (.iload_n 0, 1) := by decide +kernel
theorem dJ9_abs_0f7a4_1 : decode cJ9_abs_0f7a4 1 = .ok (.ifCond .ge 8, 3) := by decide +kernel
theorem dJ9_abs_0f7a4_4 : decode cJ9_abs_0f7a4 4 = .ok (.iload_n 0, 1) := by decide +kernel
theorem dJ9_abs_0f7a4_5 : decode cJ9_abs_0f7a4 5 = .ok (.ineg, 1) := by decide +kernel
theorem dJ9_abs_0f7a4_6 : decode cJ9_abs_0f7a4 6 = .ok (.goto 4, 3) := by decide +kernel
theorem dJ9_abs_0f7a4_9 : decode cJ9_abs_0f7a4 9 = .ok (.iload_n 0, 1) := by decide +kernel
theorem dJ9_abs_0f7a4_10 : decode cJ9_abs_0f7a4 10 = .ok (.ireturn, 1) := by decide +kernel
theorem dJ9_max_7cf53_0 : decode cJ9_max_7cf53 0 = .ok (.iload_n 0, 1) := by decide +kernel
theorem dJ9_max_7cf53_1 : decode cJ9_max_7cf53 1 = .ok (.iload_n 1, 1) := by decide +kernel
theorem dJ9_max_7cf53_2 : decode cJ9_max_7cf53 2 = .ok (.if_icmp .lt 7, 3) := by decide +kernel
theorem dJ9_max_7cf53_5 : decode cJ9_max_7cf53 5 = .ok (.iload_n 0, 1) := by decide +kernel
theorem dJ9_max_7cf53_6 : decode cJ9_max_7cf53 6 = .ok (.goto 4, 3) := by decide +kernel
theorem dJ9_max_7cf53_9 : decode cJ9_max_7cf53 9 = .ok (.iload_n 1, 1) := by decide +kernel
theorem dJ9_max_7cf53_10 : decode cJ9_max_7cf53 10 = .ok (.ireturn, 1) := by decide +kernel
theorem dJ9_min_7cf53_0 : decode cJ9_min_7cf53 0 = .ok (.iload_n 0, 1) := by decide +kernel
theorem dJ9_min_7cf53_1 : decode cJ9_min_7cf53 1 = .ok (.iload_n 1, 1) := by decide +kernel
theorem dJ9_min_7cf53_2 : decode cJ9_min_7cf53 2 = .ok (.if_icmp .gt 7, 3) := by decide +kernel
theorem dJ9_min_7cf53_5 : decode cJ9_min_7cf53 5 = .ok (.iload_n 0, 1) := by decide +kernel
theorem dJ9_min_7cf53_6 : decode cJ9_min_7cf53 6 = .ok (.goto 4, 3) := by decide +kernel
theorem dJ9_min_7cf53_9 : decode cJ9_min_7cf53 9 = .ok (.iload_n 1, 1) := by decide +kernel
theorem dJ9_min_7cf53_10 : decode cJ9_min_7cf53 10 = .ok (.ireturn, 1) := by decide +kernel
set_option maxRecDepth 20000 in
theorem ggL_law_X11_init : GoodIn wsL_law wsX11_init := goodIn_r _ [8, 9, 10, 11, 12, 13, 14, 15, 16, 17, 18, 19, 20, 21, 22, 23, 24, 25, 26, 27, 28, 29, 30, 31, 32, 33, 34, 35, 36, 37, 38, 39, 40, 41, 42, 43, 44, 45, 46, 47, 48, 49, 50, 51, 52, 53, 54, 55, 56, 57, 58, 59, 60, 61, 62, 63, 64, 65, 66, 67, 68, 69, 70, 71, 72, 73, 74, 75, 76, 77, 78, 79, 80, 81, 82, 83, 84, 85, 86, 87, 88, 89, 90, 91, 92, 93, 94, 95, 96, 97, 98, 824, 825, 826, 827, 828, 829, 830, 795, 796, 797, 798, 799, 800, 801, 802, 803, 804, 805, 831, 832, 833, 834, 835, 836, 837, 838, 839, 840, 841, 842, 843, 844, 845, 846, 847, 848, 849, 850, 851, 852, 853, 854, 855, 856] (by decide +kernel) (by decide +kernel)
set_option maxRecDepth 20000 in
theorem gL_law_X11_init : GoodIn wsL_law (wsX11_init) := ggL_law_X11_init
set_option maxRecDepth 20000 in
theorem ggL_law_X12_init : GoodIn wsL_law wsX12_init := goodIn_r _ [101, 102, 10, 11, 57, 103, 104, 105, 106, 107, 84, 108, 109, 110, 111, 112, 113, 114, 115, 116, 5, 117, 118, 119, 120, 121, 122, 123, 124, 125, 126, 127, 128, 129, 130, 131, 132, 133, 134, 135, 136, 137, 138, 139, 140, 141, 142, 143, 144, 145, 146, 147, 148, 149, 150, 151, 152, 806, 807, 808, 809, 810, 811, 812, 813, 814, 815, 816, 817, 818, 819, 820, 821, 822, 823] (by decide +kernel) (by decide +kernel)
set_option maxRecDepth 20000 in
theorem gL_law_X12_init : GoodIn wsL_law (wsX12_init) := ggL_law_X12_init
set_option maxRecDepth 20000 in
theorem ggL_law_X11_type : GoodIn wsL_law wsX11_type := goodIn_r _ [156, 15, 157, 158, 159, 2, 160, 161, 162, 163, 14, 164, 165, 58, 795, 796, 797, 798, 799, 800, 801, 802, 803, 804, 805, 824, 825, 826, 827, 828, 829, 830] (by decide +kernel) (by decide +kernel)
set_option maxRecDepth 20000 in
theorem gL_law_X11_type : GoodIn wsL_law (wsV RL 13 RX11 yX11_type wsX11_type) := goodIn_app (goodIn_of _ (by decide +kernel)) ggL_law_X11_type
set_option maxRecDepth 20000 in
theorem ggL_law_X12_type : GoodIn wsL_law wsX12_type := goodIn_r _ [169, 130, 103, 134, 135, 5, 136, 806, 807, 808, 809, 810, 811, 812, 813, 814, 815, 816, 817, 818, 819, 820, 821, 822, 823] (by decide +kernel) (by decide +kernel)
set_option maxRecDepth 20000 in
theorem gL_law_X12_type : GoodIn wsL_law (wsV RL 17 RX12 yX12_type wsX12_type) := goodIn_app (goodIn_of _ (by decide +kernel)) ggL_law_X12_type
set_option maxRecDepth 20000 in
theorem ggL_law_X11_clear : GoodIn wsL_law wsX11_clear := goodIn_r _ [173, 15, 157, 795, 796, 797, 798, 799, 800, 801, 802, 803, 804, 805, 824, 825, 826, 827, 828, 829, 830] (by decide +kernel) (by decide +kernel)
set_option maxRecDepth 20000 in
theorem gL_law_X11_clear : GoodIn wsL_law (wsV RL 18 RX11 yX11_clear wsX11_clear) := goodIn_app (goodIn_of _ (by decide +kernel)) ggL_law_X11_clear
set_option maxRecDepth 20000 in
theorem ggL_law_X12_clear : GoodIn wsL_law wsX12_clear := goodIn_r _ [177, 130, 806, 807, 808, 809, 810, 811, 812, 813, 814, 815, 816, 817, 818, 819, 820, 821, 822, 823] (by decide +kernel) (by decide +kernel)
set_option maxRecDepth 20000 in
theorem gL_law_X12_clear : GoodIn wsL_law (wsV RL 22 RX12 yX12_clear wsX12_clear) := goodIn_app (goodIn_of _ (by decide +kernel)) ggL_law_X12_clear
set_option maxRecDepth 20000 in
theorem ggL_law_X11_piece : GoodIn wsL_law wsX11_piece := goodIn_r _ [181, 15, 20, 182, 19, 24, 30, 183, 184, 157, 185, 186, 187, 14, 188, 59, 189, 190, 191, 192, 193, 18, 194, 195, 196, 197, 198, 199, 200, 201, 202, 203, 165, 204, 205, 206, 207, 208, 58, 159, 2, 160, 209, 210, 211, 212, 213, 214, 215, 216, 217, 218, 219, 220, 221, 222, 223, 224, 225, 226, 227, 228, 229, 230, 231, 232, 233, 234, 235, 236, 237, 238, 239, 240, 63, 64, 65, 241, 242, 243, 244, 245, 246, 247, 248, 249, 250, 251, 252, 253, 254, 255, 256, 66, 257, 258, 259, 260, 261, 262, 263, 264, 265, 266, 267, 268, 269, 270, 271, 23, 272, 273, 274, 275, 276, 277, 278, 795, 796, 797, 798, 799, 800, 801, 802, 803, 804, 805, 824, 825, 826, 827, 828, 829, 830, 847, 848, 849, 850, 851, 852, 853, 831, 832, 833, 834, 835, 836, 837, 838, 839, 840, 841, 842, 843, 844, 845, 846] (by decide +kernel) (by decide +kernel)
set_option maxRecDepth 20000 in
theorem gL_law_X11_piece : GoodIn wsL_law (wsV RL 23 RX11 yX11_piece wsX11_piece) := goodIn_app (goodIn_of _ (by decide +kernel)) ggL_law_X11_piece
set_option maxRecDepth 20000 in
theorem ggL_law_X12_piece : GoodIn wsL_law wsX12_piece := goodIn_r _ [282, 124, 130, 104, 114, 115, 116, 5, 117, 105, 118, 119, 120, 121, 122, 123, 125, 103, 126, 127, 128, 129, 131, 132, 133, 134, 135, 136, 137, 138, 139, 140, 141, 142, 143, 144, 145, 146, 147, 148, 149, 150, 151, 106, 152, 108, 806, 807, 808, 809, 810, 811, 812, 813, 814, 815, 816, 817, 818, 819, 820, 821, 822, 823] (by decide +kernel) (by decide +kernel)
set_option maxRecDepth 20000 in
theorem gL_law_X12_piece : GoodIn wsL_law (wsV RL 26 RX12 yX12_piece wsX12_piece) := goodIn_app (goodIn_of _ (by decide +kernel)) ggL_law_X12_piece
set_option maxRecDepth 20000 in
theorem ggL_law_X11_section : GoodIn wsL_law wsX11_section := goodIn_r _ [286, 19, 24, 287, 288, 289, 246, 247, 18, 248, 195, 290, 242, 243, 244, 63, 245, 291, 292, 293, 294, 64, 295, 296, 297, 298, 65, 299, 300, 2, 301, 302, 303, 304, 305, 306, 307, 308, 309, 310, 311, 312, 313, 314, 315, 316, 317, 318, 319, 320, 197, 198, 321, 795, 796, 797, 798, 799, 800, 801, 802, 803, 804, 805, 840, 841, 842, 843, 844, 845, 846, 831, 832, 833, 834, 835, 836, 837, 838, 839] (by decide +kernel) (by decide +kernel)
set_option maxRecDepth 20000 in
theorem gL_law_X11_section : GoodIn wsL_law (wsV RL 27 RX11 yX11_section wsX11_section) := goodIn_app (goodIn_of _ (by decide +kernel)) ggL_law_X11_section
set_option maxRecDepth 20000 in
theorem ggL_law_X12_section : GoodIn wsL_law wsX12_section := goodIn_r _ [325, 104, 106, 326, 327, 328, 5, 329, 134, 135, 136, 330, 331, 332, 333, 334, 335, 336, 337, 338, 339, 340, 341, 342, 343, 344, 345, 346, 347, 348, 806, 807, 808, 809, 810, 811, 812, 813, 814, 815, 816, 817, 818, 819, 820, 821, 822, 823] (by decide +kernel) (by decide +kernel)
set_option maxRecDepth 20000 in
theorem gL_law_X12_section : GoodIn wsL_law (wsV RL 31 RX12 yX12_section wsX12_section) := goodIn_app (goodIn_of _ (by decide +kernel)) ggL_law_X12_section
set_option maxRecDepth 20000 in
theorem ggL_law_X11_thing : GoodIn wsL_law wsX11_thing := goodIn_r _ [352, 19, 353, 354, 355, 18, 356, 196, 357, 358, 359, 360, 66, 361, 795, 796, 797, 798, 799, 800, 801, 802, 803, 804, 805, 831, 832, 833, 834, 835, 836, 837, 838, 839] (by decide +kernel) (by decide +kernel)
set_option maxRecDepth 20000 in
theorem gL_law_X11_thing : GoodIn wsL_law (wsV RL 32 RX11 yX11_thing wsX11_thing) := goodIn_app (goodIn_of _ (by decide +kernel)) ggL_law_X11_thing
set_option maxRecDepth 20000 in
theorem ggL_law_X12_thing : GoodIn wsL_law wsX12_thing := goodIn_r _ [365, 104, 134, 135, 5, 136, 806, 807, 808, 809, 810, 811, 812, 813, 814, 815, 816, 817, 818, 819, 820, 821, 822, 823] (by decide +kernel) (by decide +kernel)
set_option maxRecDepth 20000 in
theorem gL_law_X12_thing : GoodIn wsL_law (wsV RL 35 RX12 yX12_thing wsX12_thing) := goodIn_app (goodIn_of _ (by decide +kernel)) ggL_law_X12_thing
set_option maxRecDepth 20000 in
theorem ggL_law_X11_bar : GoodIn wsL_law wsX11_bar := goodIn_r _ [369, 19, 24, 287, 158, 159, 2, 160, 370, 371, 372, 18, 373, 195, 300, 301, 309, 310, 311, 312, 63, 64, 245, 246, 247, 248, 290, 242, 243, 244, 305, 306, 307, 308, 295, 296, 297, 298, 65, 795, 796, 797, 798, 799, 800, 801, 802, 803, 804, 805, 840, 841, 842, 843, 844, 845, 846, 831, 832, 833, 834, 835, 836, 837, 838, 839] (by decide +kernel) (by decide +kernel)
set_option maxRecDepth 20000 in
theorem gL_law_X11_bar : GoodIn wsL_law (wsV RL 36 RX11 yX11_bar wsX11_bar) := goodIn_app (goodIn_of _ (by decide +kernel)) ggL_law_X11_bar
set_option maxRecDepth 20000 in
theorem ggL_law_X12_bar : GoodIn wsL_law wsX12_bar := goodIn_r _ [377, 104, 134, 135, 5, 136, 378, 379, 380, 381, 106, 334, 335, 336, 330, 331, 332, 333, 337, 338, 339, 340, 341, 342, 343, 344, 806, 807, 808, 809, 810, 811, 812, 813, 814, 815, 816, 817, 818, 819, 820, 821, 822, 823] (by decide +kernel) (by decide +kernel)
set_option maxRecDepth 20000 in
theorem gL_law_X12_bar : GoodIn wsL_law (wsV RL 39 RX12 yX12_bar wsX12_bar) := goodIn_app (goodIn_of _ (by decide +kernel)) ggL_law_X12_bar
set_option maxRecDepth 20000 in
theorem ggL_law_X11_bars : GoodIn wsL_law wsX11_bars := goodIn_r _ [385, 24, 288, 19, 287, 386, 387, 158, 159, 2, 160, 388, 389, 390, 18, 391, 195, 321, 306, 307, 308, 300, 301, 309, 310, 311, 312, 63, 64, 245, 246, 247, 248, 392, 393, 394, 23, 395, 278, 70, 396, 266, 267, 268, 273, 274, 275, 276, 277, 303, 304, 397, 398, 399, 400, 199, 317, 318, 319, 320, 197, 198, 401, 242, 243, 244, 795, 796, 797, 798, 799, 800, 801, 802, 803, 804, 805, 840, 841, 842, 843, 844, 845, 846, 831, 832, 833, 834, 835, 836, 837, 838, 839] (by decide +kernel) (by decide +kernel)
set_option maxRecDepth 20000 in
theorem gL_law_X11_bars : GoodIn wsL_law (wsV RL 40 RX11 yX11_bars wsX11_bars) := goodIn_app (goodIn_of _ (by decide +kernel)) ggL_law_X11_bars
set_option maxRecDepth 20000 in
theorem ggL_law_X12_bars : GoodIn wsL_law wsX12_bars := goodIn_r _ [405, 106, 134, 135, 5, 136, 406, 407, 408, 409, 104, 337, 338, 339, 340, 334, 335, 336, 341, 342, 343, 344, 410, 411, 412, 413, 414, 415, 416, 417, 806, 807, 808, 809, 810, 811, 812, 813, 814, 815, 816, 817, 818, 819, 820, 821, 822, 823] (by decide +kernel) (by decide +kernel)
set_option maxRecDepth 20000 in
theorem gL_law_X12_bars : GoodIn wsL_law (wsV RL 43 RX12 yX12_bars wsX12_bars) := goodIn_app (goodIn_of _ (by decide +kernel)) ggL_law_X12_bars
set_option maxRecDepth 20000 in
theorem ggL_law_X11_slips : GoodIn wsL_law wsX11_slips := goodIn_r _ [421, 422, 24, 386, 158, 159, 2, 160, 392, 393, 394, 23, 395, 278, 70, 396, 266, 267, 268, 273, 274, 275, 276, 277, 303, 304, 795, 796, 797, 798, 799, 800, 801, 802, 803, 804, 805, 840, 841, 842, 843, 844, 845, 846] (by decide +kernel) (by decide +kernel)
set_option maxRecDepth 20000 in
theorem gL_law_X11_slips : GoodIn wsL_law (wsV RL 44 RX11 yX11_slips wsX11_slips) := goodIn_app (goodIn_of _ (by decide +kernel)) ggL_law_X11_slips
set_option maxRecDepth 20000 in
theorem ggL_law_X12_slips : GoodIn wsL_law wsX12_slips := goodIn_r _ [426, 427, 106, 134, 135, 5, 136, 410, 411, 412, 413, 806, 807, 808, 809, 810, 811, 812, 813, 814, 815, 816, 817, 818, 819, 820, 821, 822, 823] (by decide +kernel) (by decide +kernel)
set_option maxRecDepth 20000 in
theorem gL_law_X12_slips : GoodIn wsL_law (wsV RL 47 RX12 yX12_slips wsX12_slips) := goodIn_app (goodIn_of _ (by decide +kernel)) ggL_law_X12_slips
set_option maxRecDepth 20000 in
theorem ggL_law_X11_cue : GoodIn wsL_law wsX11_cue := goodIn_r _ [431, 19, 24, 288, 287, 422, 386, 432, 433, 434, 18, 435, 436, 371, 372, 373, 195, 300, 2, 301, 309, 310, 311, 312, 63, 64, 245, 246, 247, 248, 321, 306, 307, 308, 289, 392, 393, 394, 23, 395, 278, 70, 396, 266, 267, 268, 273, 274, 275, 276, 277, 303, 304, 295, 296, 297, 298, 65, 437, 438, 439, 440, 441, 442, 443, 220, 444, 445, 795, 796, 797, 798, 799, 800, 801, 802, 803, 804, 805, 840, 841, 842, 843, 844, 845, 846, 831, 832, 833, 834, 835, 836, 837, 838, 839] (by decide +kernel) (by decide +kernel)
set_option maxRecDepth 20000 in
theorem gL_law_X11_cue : GoodIn wsL_law (wsV RL 48 RX11 yX11_cue wsX11_cue) := goodIn_app (goodIn_of _ (by decide +kernel)) ggL_law_X11_cue
set_option maxRecDepth 20000 in
theorem ggL_law_X12_cue : GoodIn wsL_law wsX12_cue := goodIn_r _ [449, 104, 106, 427, 330, 331, 332, 5, 333, 334, 335, 336, 337, 338, 339, 340, 341, 342, 343, 344, 410, 411, 412, 413, 450, 451, 452, 806, 807, 808, 809, 810, 811, 812, 813, 814, 815, 816, 817, 818, 819, 820, 821, 822, 823] (by decide +kernel) (by decide +kernel)
set_option maxRecDepth 20000 in
theorem gL_law_X12_cue : GoodIn wsL_law (wsV RL 51 RX12 yX12_cue wsX12_cue) := goodIn_app (goodIn_of _ (by decide +kernel)) ggL_law_X12_cue
set_option maxRecDepth 20000 in
theorem ggL_law_X11_cuts : GoodIn wsL_law wsX11_cuts := goodIn_r _ [456, 19, 24, 287, 288, 289, 246, 247, 18, 248, 195, 313, 314, 315, 316, 300, 2, 301, 317, 318, 319, 320, 197, 198, 321, 306, 307, 308, 309, 310, 311, 312, 63, 64, 245, 392, 393, 394, 23, 395, 278, 70, 396, 266, 267, 268, 273, 274, 275, 276, 277, 303, 304, 388, 389, 390, 391, 795, 796, 797, 798, 799, 800, 801, 802, 803, 804, 805, 840, 841, 842, 843, 844, 845, 846, 831, 832, 833, 834, 835, 836, 837, 838, 839] (by decide +kernel) (by decide +kernel)
set_option maxRecDepth 20000 in
theorem gL_law_X11_cuts : GoodIn wsL_law (wsV RL 52 RX11 yX11_cuts wsX11_cuts) := goodIn_app (goodIn_of _ (by decide +kernel)) ggL_law_X11_cuts
set_option maxRecDepth 20000 in
theorem ggL_law_X12_cuts : GoodIn wsL_law wsX12_cuts := goodIn_r _ [460, 106, 326, 327, 328, 5, 329, 104, 134, 135, 136, 345, 346, 347, 348, 334, 335, 336, 330, 331, 332, 333, 337, 338, 339, 340, 341, 342, 343, 344, 410, 411, 412, 413, 406, 407, 408, 409, 806, 807, 808, 809, 810, 811, 812, 813, 814, 815, 816, 817, 818, 819, 820, 821, 822, 823] (by decide +kernel) (by decide +kernel)
set_option maxRecDepth 20000 in
theorem gL_law_X12_cuts : GoodIn wsL_law (wsV RL 55 RX12 yX12_cuts wsX12_cuts) := goodIn_app (goodIn_of _ (by decide +kernel)) ggL_law_X12_cuts
set_option maxRecDepth 20000 in
theorem ggL_law_X11_waits : GoodIn wsL_law wsX11_waits := goodIn_r _ [464, 24, 465, 158, 159, 2, 160, 392, 393, 394, 23, 395, 278, 70, 396, 266, 267, 268, 273, 274, 275, 276, 277, 303, 304, 795, 796, 797, 798, 799, 800, 801, 802, 803, 804, 805, 840, 841, 842, 843, 844, 845, 846] (by decide +kernel) (by decide +kernel)
set_option maxRecDepth 20000 in
theorem gL_law_X11_waits : GoodIn wsL_law (wsV RL 56 RX11 yX11_waits wsX11_waits) := goodIn_app (goodIn_of _ (by decide +kernel)) ggL_law_X11_waits
set_option maxRecDepth 20000 in
theorem ggL_law_X12_waits : GoodIn wsL_law wsX12_waits := goodIn_r _ [469, 106, 134, 135, 5, 136, 410, 411, 412, 413, 806, 807, 808, 809, 810, 811, 812, 813, 814, 815, 816, 817, 818, 819, 820, 821, 822, 823] (by decide +kernel) (by decide +kernel)
set_option maxRecDepth 20000 in
theorem gL_law_X12_waits : GoodIn wsL_law (wsV RL 59 RX12 yX12_waits wsX12_waits) := goodIn_app (goodIn_of _ (by decide +kernel)) ggL_law_X12_waits
set_option maxRecDepth 20000 in
theorem ggL_law_X11_undo : GoodIn wsL_law wsX11_undo := goodIn_r _ [473, 24, 474, 475, 476, 477, 23, 478, 278, 70, 273, 274, 275, 276, 277, 795, 796, 797, 798, 799, 800, 801, 802, 803, 804, 805, 840, 841, 842, 843, 844, 845, 846] (by decide +kernel) (by decide +kernel)
set_option maxRecDepth 20000 in
theorem gL_law_X11_undo : GoodIn wsL_law (wsV RL 60 RX11 yX11_undo wsX11_undo) := goodIn_app (goodIn_of _ (by decide +kernel)) ggL_law_X11_undo
set_option maxRecDepth 20000 in
theorem ggL_law_X12_undo : GoodIn wsL_law wsX12_undo := goodIn_r _ [482, 106, 806, 807, 808, 809, 810, 811, 812, 813, 814, 815, 816, 817, 818, 819, 820, 821, 822, 823] (by decide +kernel) (by decide +kernel)
set_option maxRecDepth 20000 in
theorem gL_law_X12_undo : GoodIn wsL_law (wsV RL 63 RX12 yX12_undo wsX12_undo) := goodIn_app (goodIn_of _ (by decide +kernel)) ggL_law_X12_undo
set_option maxRecDepth 20000 in
theorem ggL_law_X11_now : GoodIn wsL_law wsX11_now := goodIn_r _ [486, 24, 288, 386, 465, 287, 387, 19, 487, 422, 302, 303, 2, 304, 388, 389, 390, 18, 391, 195, 321, 306, 307, 308, 300, 301, 309, 310, 311, 312, 63, 64, 245, 246, 247, 248, 397, 398, 399, 400, 199, 317, 318, 319, 320, 197, 198, 401, 242, 243, 244, 488, 489, 490, 491, 492, 493, 494, 495, 496, 314, 315, 316, 795, 796, 797, 798, 799, 800, 801, 802, 803, 804, 805, 840, 841, 842, 843, 844, 845, 846, 831, 832, 833, 834, 835, 836, 837, 838, 839] (by decide +kernel) (by decide +kernel)
set_option maxRecDepth 20000 in
theorem gL_law_X11_now : GoodIn wsL_law (wsV RL 64 RX11 yX11_now wsX11_now) := goodIn_app (goodIn_of _ (by decide +kernel)) ggL_law_X11_now
set_option maxRecDepth 20000 in
theorem ggL_law_X12_now : GoodIn wsL_law wsX12_now := goodIn_r _ [500, 104, 106, 427, 406, 407, 408, 5, 409, 337, 338, 339, 340, 334, 335, 336, 341, 342, 343, 344, 414, 415, 416, 417, 501, 502, 503, 504, 345, 346, 347, 348, 330, 331, 332, 333, 806, 807, 808, 809, 810, 811, 812, 813, 814, 815, 816, 817, 818, 819, 820, 821, 822, 823] (by decide +kernel) (by decide +kernel)
set_option maxRecDepth 20000 in
theorem gL_law_X12_now : GoodIn wsL_law (wsV RL 67 RX12 yX12_now wsX12_now) := goodIn_app (goodIn_of _ (by decide +kernel)) ggL_law_X12_now
set_option maxRecDepth 20000 in
theorem ggL_law_X11_trim : GoodIn wsL_law wsX11_trim := goodIn_r _ [508, 19, 487, 24, 287, 158, 159, 2, 160, 488, 489, 490, 491, 288, 492, 493, 494, 18, 495, 195, 496, 314, 315, 316, 300, 301, 317, 318, 319, 320, 197, 198, 321, 306, 307, 308, 309, 310, 311, 312, 63, 64, 245, 246, 247, 248, 509, 510, 511, 512, 513, 514, 515, 516, 517, 518, 519, 520, 398, 399, 400, 199, 401, 242, 243, 244, 795, 796, 797, 798, 799, 800, 801, 802, 803, 804, 805, 831, 832, 833, 834, 835, 836, 837, 838, 839, 840, 841, 842, 843, 844, 845, 846] (by decide +kernel) (by decide +kernel)
set_option maxRecDepth 20000 in
theorem gL_law_X11_trim : GoodIn wsL_law (wsV RL 68 RX11 yX11_trim wsX11_trim) := goodIn_app (goodIn_of _ (by decide +kernel)) ggL_law_X11_trim
set_option maxRecDepth 20000 in
theorem ggL_law_X12_trim : GoodIn wsL_law wsX12_trim := goodIn_r _ [524, 104, 106, 134, 135, 5, 136, 501, 502, 503, 504, 345, 346, 347, 348, 334, 335, 336, 330, 331, 332, 333, 337, 338, 339, 340, 341, 342, 343, 344, 414, 415, 416, 417, 525, 526, 527, 806, 807, 808, 809, 810, 811, 812, 813, 814, 815, 816, 817, 818, 819, 820, 821, 822, 823] (by decide +kernel) (by decide +kernel)
set_option maxRecDepth 20000 in
theorem gL_law_X12_trim : GoodIn wsL_law (wsV RL 71 RX12 yX12_trim wsX12_trim) := goodIn_app (goodIn_of _ (by decide +kernel)) ggL_law_X12_trim
set_option maxRecDepth 20000 in
theorem ggL_law_X11_odds : GoodIn wsL_law wsX11_odds := goodIn_r _ [531, 19, 487, 24, 287, 158, 159, 2, 160, 488, 489, 490, 491, 288, 492, 493, 494, 18, 495, 195, 496, 314, 315, 316, 300, 301, 317, 318, 319, 320, 197, 198, 321, 306, 307, 308, 309, 310, 311, 312, 63, 64, 245, 246, 247, 248, 532, 533, 534, 535, 520, 398, 399, 400, 199, 401, 242, 243, 244, 536, 537, 538, 539, 540, 541, 542, 543, 795, 796, 797, 798, 799, 800, 801, 802, 803, 804, 805, 831, 832, 833, 834, 835, 836, 837, 838, 839, 840, 841, 842, 843, 844, 845, 846] (by decide +kernel) (by decide +kernel)
set_option maxRecDepth 20000 in
theorem gL_law_X11_odds : GoodIn wsL_law (wsV RL 72 RX11 yX11_odds wsX11_odds) := goodIn_app (goodIn_of _ (by decide +kernel)) ggL_law_X11_odds
set_option maxRecDepth 20000 in
theorem ggL_law_X12_odds : GoodIn wsL_law wsX12_odds := goodIn_r _ [547, 104, 106, 134, 135, 5, 136, 501, 502, 503, 504, 345, 346, 347, 348, 334, 335, 336, 330, 331, 332, 333, 337, 338, 339, 340, 341, 342, 343, 344, 414, 415, 416, 417, 806, 807, 808, 809, 810, 811, 812, 813, 814, 815, 816, 817, 818, 819, 820, 821, 822, 823] (by decide +kernel) (by decide +kernel)
set_option maxRecDepth 20000 in
theorem gL_law_X12_odds : GoodIn wsL_law (wsV RL 76 RX12 yX12_odds wsX12_odds) := goodIn_app (goodIn_of _ (by decide +kernel)) ggL_law_X12_odds
set_option maxRecDepth 20000 in
theorem ggL_law_X11_hears : GoodIn wsL_law wsX11_hears := goodIn_r _ [551, 30, 183, 158, 159, 2, 160, 552, 553, 554, 29, 555, 556, 74, 75, 795, 796, 797, 798, 799, 800, 801, 802, 803, 804, 805, 847, 848, 849, 850, 851, 852, 853] (by decide +kernel) (by decide +kernel)
set_option maxRecDepth 20000 in
theorem gL_law_X11_hears : GoodIn wsL_law (wsV RL 77 RX11 yX11_hears wsX11_hears) := goodIn_app (goodIn_of _ (by decide +kernel)) ggL_law_X11_hears
set_option maxRecDepth 20000 in
theorem ggL_law_X12_hears : GoodIn wsL_law wsX12_hears := goodIn_r _ [560, 152, 109, 134, 135, 5, 136, 806, 807, 808, 809, 810, 811, 812, 813, 814, 815, 816, 817, 818, 819, 820, 821, 822, 823] (by decide +kernel) (by decide +kernel)
set_option maxRecDepth 20000 in
theorem gL_law_X12_hears : GoodIn wsL_law (wsV RL 80 RX12 yX12_hears wsX12_hears) := goodIn_app (goodIn_of _ (by decide +kernel)) ggL_law_X12_hears
set_option maxRecDepth 20000 in
theorem ggL_law_X11_forget : GoodIn wsL_law wsX11_forget := goodIn_r _ [564, 30, 183, 795, 796, 797, 798, 799, 800, 801, 802, 803, 804, 805, 847, 848, 849, 850, 851, 852, 853] (by decide +kernel) (by decide +kernel)
set_option maxRecDepth 20000 in
theorem gL_law_X11_forget : GoodIn wsL_law (wsV RL 81 RX11 yX11_forget wsX11_forget) := goodIn_app (goodIn_of _ (by decide +kernel)) ggL_law_X11_forget
set_option maxRecDepth 20000 in
theorem ggL_law_X12_forget : GoodIn wsL_law wsX12_forget := goodIn_r _ [568, 152, 806, 807, 808, 809, 810, 811, 812, 813, 814, 815, 816, 817, 818, 819, 820, 821, 822, 823] (by decide +kernel) (by decide +kernel)
set_option maxRecDepth 20000 in
theorem gL_law_X12_forget : GoodIn wsL_law (wsV RL 84 RX12 yX12_forget wsX12_forget) := goodIn_app (goodIn_of _ (by decide +kernel)) ggL_law_X12_forget
set_option maxRecDepth 20000 in
theorem ggL_law_X11_places : GoodIn wsL_law wsX11_places := goodIn_r _ [572, 30, 19, 24, 287, 158, 159, 2, 160, 573, 574, 575, 29, 576, 77, 577, 578, 579, 580, 581, 582, 76, 300, 301, 583, 310, 311, 18, 312, 63, 64, 245, 246, 247, 248, 195, 584, 296, 297, 298, 65, 585, 586, 587, 588, 556, 74, 75, 303, 304, 589, 590, 591, 592, 593, 594, 595, 596, 597, 219, 220, 221, 598, 599, 600, 601, 602, 603, 604, 795, 796, 797, 798, 799, 800, 801, 802, 803, 804, 805, 840, 841, 842, 843, 844, 845, 846, 847, 848, 849, 850, 851, 852, 853, 831, 832, 833, 834, 835, 836, 837, 838, 839] (by decide +kernel) (by decide +kernel)
set_option maxRecDepth 20000 in
theorem gL_law_X11_places : GoodIn wsL_law (wsV RL 85 RX11 yX11_places wsX11_places) := goodIn_app (goodIn_of _ (by decide +kernel)) ggL_law_X11_places
set_option maxRecDepth 20000 in
theorem ggL_law_X12_places : GoodIn wsL_law wsX12_places := goodIn_r _ [608, 134, 135, 5, 136, 609, 610, 611, 612, 613, 614, 615, 616, 104, 106, 110, 341, 342, 343, 344, 334, 335, 336, 406, 407, 408, 409, 337, 338, 339, 340, 617, 618, 619, 620, 152, 109, 806, 807, 808, 809, 810, 811, 812, 813, 814, 815, 816, 817, 818, 819, 820, 821, 822, 823] (by decide +kernel) (by decide +kernel)
set_option maxRecDepth 20000 in
theorem gL_law_X12_places : GoodIn wsL_law (wsV RL 88 RX12 yX12_places wsX12_places) := goodIn_app (goodIn_of _ (by decide +kernel)) ggL_law_X12_places
set_option maxRecDepth 20000 in
theorem ggL_law_X11_listen : GoodIn wsL_law wsX11_listen := goodIn_r _ [624, 30, 19, 24, 287, 573, 574, 575, 29, 576, 77, 577, 578, 579, 580, 581, 582, 76, 300, 2, 301, 583, 310, 311, 18, 312, 63, 64, 245, 246, 247, 248, 195, 584, 296, 297, 298, 65, 585, 586, 587, 588, 556, 74, 75, 303, 304, 589, 590, 591, 592, 593, 594, 595, 596, 597, 219, 220, 221, 598, 599, 600, 625, 626, 627, 628, 629, 630, 631, 632, 78, 159, 160, 633, 795, 796, 797, 798, 799, 800, 801, 802, 803, 804, 805, 840, 841, 842, 843, 844, 845, 846, 847, 848, 849, 850, 851, 852, 853, 831, 832, 833, 834, 835, 836, 837, 838, 839] (by decide +kernel) (by decide +kernel)
set_option maxRecDepth 20000 in
theorem gL_law_X11_listen : GoodIn wsL_law (wsV RL 89 RX11 yX11_listen wsX11_listen) := goodIn_app (goodIn_of _ (by decide +kernel)) ggL_law_X11_listen
set_option maxRecDepth 20000 in
theorem ggL_law_X12_listen : GoodIn wsL_law wsX12_listen := goodIn_r _ [637, 111, 110, 609, 610, 611, 5, 612, 613, 614, 615, 616, 104, 106, 341, 342, 343, 344, 334, 335, 336, 406, 407, 408, 409, 337, 338, 339, 340, 617, 618, 619, 620, 152, 109, 806, 807, 808, 809, 810, 811, 812, 813, 814, 815, 816, 817, 818, 819, 820, 821, 822, 823] (by decide +kernel) (by decide +kernel)
set_option maxRecDepth 20000 in
theorem gL_law_X12_listen : GoodIn wsL_law (wsV RL 92 RX12 yX12_listen wsX12_listen) := goodIn_app (goodIn_of _ (by decide +kernel)) ggL_law_X12_listen
set_option maxRecDepth 20000 in
theorem ggL_law_X11_pack : GoodIn wsL_law wsX11_pack := goodIn_r _ [641, 19, 642, 34, 24, 287, 643, 644, 645, 33, 646, 647, 648, 649, 650, 651, 82, 300, 2, 301, 652, 296, 297, 18, 298, 65, 245, 246, 247, 248, 195, 653, 310, 311, 312, 63, 64, 654, 655, 656, 657, 83, 658, 358, 359, 360, 66, 361, 354, 355, 356, 196, 659, 660, 661, 662, 85, 663, 664, 665, 666, 667, 668, 669, 670, 671, 672, 673, 674, 675, 514, 515, 516, 517, 518, 519, 676, 677, 678, 679, 680, 681, 682, 683, 684, 795, 796, 797, 798, 799, 800, 801, 802, 803, 804, 805, 831, 832, 833, 834, 835, 836, 837, 838, 839, 840, 841, 842, 843, 844, 845, 846, 854, 855, 856] (by decide +kernel) (by decide +kernel)
set_option maxRecDepth 20000 in
theorem gL_law_X11_pack : GoodIn wsL_law (wsV RL 93 RX11 yX11_pack wsX11_pack) := goodIn_app (goodIn_of _ (by decide +kernel)) ggL_law_X11_pack
set_option maxRecDepth 20000 in
theorem ggL_law_X12_pack : GoodIn wsL_law wsX12_pack := goodIn_r _ [688, 104, 113, 134, 135, 5, 136, 525, 526, 527, 689, 690, 691, 692, 112, 693, 694, 695, 696, 106, 334, 335, 336, 341, 342, 343, 344, 806, 807, 808, 809, 810, 811, 812, 813, 814, 815, 816, 817, 818, 819, 820, 821, 822, 823] (by decide +kernel) (by decide +kernel)
set_option maxRecDepth 20000 in
theorem gL_law_X12_pack : GoodIn wsL_law (wsV RL 96 RX12 yX12_pack wsX12_pack) := goodIn_app (goodIn_of _ (by decide +kernel)) ggL_law_X12_pack
set_option maxRecDepth 20000 in
theorem ggL_law_X11_mark : GoodIn wsL_law wsX11_mark := goodIn_r _ [700, 19, 422, 36, 158, 159, 2, 160, 289, 246, 247, 18, 248, 195, 701, 702, 703, 704, 705, 44, 706, 707, 708, 709, 710, 38, 711, 712, 242, 243, 244, 63, 245, 713, 296, 297, 298, 65, 714, 715, 53, 716, 717, 718, 719, 720, 721, 722, 723, 724, 47, 725, 726, 727, 728, 729, 730, 41, 731, 732, 733, 734, 735, 292, 293, 294, 64, 736, 737, 738, 50, 739, 740, 741, 742, 743, 795, 796, 797, 798, 799, 800, 801, 802, 803, 804, 805, 831, 832, 833, 834, 835, 836, 837, 838, 839, 840, 841, 842, 843, 844, 845, 846] (by decide +kernel) (by decide +kernel)
set_option maxRecDepth 20000 in
theorem gL_law_X11_mark : GoodIn wsL_law (wsV RL 97 RX11 yX11_mark wsX11_mark) := goodIn_app (goodIn_of _ (by decide +kernel)) ggL_law_X11_mark
set_option maxRecDepth 20000 in
theorem ggL_law_X12_mark : GoodIn wsL_law wsX12_mark := goodIn_r _ [747, 427, 748, 749, 750, 751, 752, 753, 104, 106, 134, 135, 5, 136, 326, 327, 328, 329, 806, 807, 808, 809, 810, 811, 812, 813, 814, 815, 816, 817, 818, 819, 820, 821, 822, 823] (by decide +kernel) (by decide +kernel)
set_option maxRecDepth 20000 in
theorem gL_law_X12_mark : GoodIn wsL_law (wsV RL 100 RX12 yX12_mark wsX12_mark) := goodIn_app (goodIn_of _ (by decide +kernel)) ggL_law_X12_mark
set_option maxRecDepth 20000 in
theorem ggL_law_X11_keep : GoodIn wsL_law wsX11_keep := goodIn_r _ [757, 24, 184, 288, 158, 159, 2, 160, 758, 759, 760, 761, 25, 26, 762, 763, 764, 23, 765, 273, 274, 275, 276, 277, 278, 70, 396, 266, 267, 268, 795, 796, 797, 798, 799, 800, 801, 802, 803, 804, 805, 840, 841, 842, 843, 844, 845, 846] (by decide +kernel) (by decide +kernel)
set_option maxRecDepth 20000 in
theorem gL_law_X11_keep : GoodIn wsL_law (wsV RL 101 RX11 yX11_keep wsX11_keep) := goodIn_app (goodIn_of _ (by decide +kernel)) ggL_law_X11_keep
set_option maxRecDepth 20000 in
theorem ggL_law_X12_keep : GoodIn wsL_law wsX12_keep := goodIn_r _ [769, 107, 106, 108, 134, 135, 5, 136, 806, 807, 808, 809, 810, 811, 812, 813, 814, 815, 816, 817, 818, 819, 820, 821, 822, 823] (by decide +kernel) (by decide +kernel)
set_option maxRecDepth 20000 in
theorem gL_law_X12_keep : GoodIn wsL_law (wsV RL 104 RX12 yX12_keep wsX12_keep) := goodIn_app (goodIn_of _ (by decide +kernel)) ggL_law_X12_keep
set_option maxRecDepth 20000 in
theorem ggL_law_X11_back : GoodIn wsL_law wsX11_back := goodIn_r _ [773, 184, 24, 288, 158, 159, 2, 160, 299, 300, 301, 758, 759, 760, 761, 25, 26, 762, 763, 764, 23, 765, 273, 274, 275, 276, 277, 278, 70, 396, 266, 267, 268, 795, 796, 797, 798, 799, 800, 801, 802, 803, 804, 805, 840, 841, 842, 843, 844, 845, 846] (by decide +kernel) (by decide +kernel)
set_option maxRecDepth 20000 in
theorem gL_law_X11_back : GoodIn wsL_law (wsV RL 105 RX11 yX11_back wsX11_back) := goodIn_app (goodIn_of _ (by decide +kernel)) ggL_law_X11_back
set_option maxRecDepth 20000 in
theorem ggL_law_X12_back : GoodIn wsL_law wsX12_back := goodIn_r _ [777, 108, 106, 107, 134, 135, 5, 136, 806, 807, 808, 809, 810, 811, 812, 813, 814, 815, 816, 817, 818, 819, 820, 821, 822, 823] (by decide +kernel) (by decide +kernel)
set_option maxRecDepth 20000 in
theorem gL_law_X12_back : GoodIn wsL_law (wsV RL 108 RX12 yX12_back wsX12_back) := goodIn_app (goodIn_of _ (by decide +kernel)) ggL_law_X12_back
set_option maxRecDepth 20000 in
theorem ggL_law_X11_count : GoodIn wsL_law wsX11_count := goodIn_r _ [781, 19, 487, 642, 30, 183, 24, 474, 15, 157, 795, 796, 797, 798, 799, 800, 801, 802, 803, 804, 805, 831, 832, 833, 834, 835, 836, 837, 838, 839, 847, 848, 849, 850, 851, 852, 853, 840, 841, 842, 843, 844, 845, 846, 824, 825, 826, 827, 828, 829, 830] (by decide +kernel) (by decide +kernel)
set_option maxRecDepth 20000 in
theorem gL_law_X11_count : GoodIn wsL_law (wsV RL 109 RX11 yX11_count wsX11_count) := goodIn_app (goodIn_of _ (by decide +kernel)) ggL_law_X11_count
set_option maxRecDepth 20000 in
theorem ggL_law_X12_count : GoodIn wsL_law wsX12_count := goodIn_r _ [785, 104, 152, 106, 130, 806, 807, 808, 809, 810, 811, 812, 813, 814, 815, 816, 817, 818, 819, 820, 821, 822, 823] (by decide +kernel) (by decide +kernel)
set_option maxRecDepth 20000 in
theorem gL_law_X12_count : GoodIn wsL_law (wsV RL 112 RX12 yX12_count wsX12_count) := goodIn_app (goodIn_of _ (by decide +kernel)) ggL_law_X12_count
set_option maxRecDepth 20000 in
theorem ggL_law_X11_trace : GoodIn wsL_law wsX11_trace := goodIn_r _ [789, 790, 795, 796, 797, 798, 799, 800, 801, 802, 803, 804, 805] (by decide +kernel) (by decide +kernel)
set_option maxRecDepth 20000 in
theorem gL_law_X11_trace : GoodIn wsL_law (wsV RL 113 RX11 yX11_trace wsX11_trace) := goodIn_app (goodIn_of _ (by decide +kernel)) ggL_law_X11_trace
set_option maxRecDepth 20000 in
theorem ggL_law_X12_trace : GoodIn wsL_law wsX12_trace := goodIn_r _ [794, 748, 806, 807, 808, 809, 810, 811, 812, 813, 814, 815, 816, 817, 818, 819, 820, 821, 822, 823] (by decide +kernel) (by decide +kernel)
set_option maxRecDepth 20000 in
theorem gL_law_X12_trace : GoodIn wsL_law (wsV RL 117 RX12 yX12_trace wsX12_trace) := goodIn_app (goodIn_of _ (by decide +kernel)) ggL_law_X12_trace
theorem dL_law_0 : decode cL_law 0 = .ok (.new 7, 3) := by decide +kernel
theorem dL_law_3 : decode cL_law 3 = .ok (.dup, 1) := by decide +kernel
theorem dL_law_4 : decode cL_law 4 = .ok (.invokespecial 9, 3) := by decide +kernel
theorem dL_law_7 : decode cL_law 7 = .ok (.astore_n 1, 1) := by decide +kernel
theorem dL_law_8 : decode cL_law 8 = .ok (.new 10, 3) := by decide +kernel
theorem dL_law_11 : decode cL_law 11 = .ok (.dup, 1) := by decide +kernel
theorem dL_law_12 : decode cL_law 12 = .ok (.invokespecial 12, 3) := by decide +kernel
theorem dL_law_15 : decode cL_law 15 = .ok (.astore_n 2, 1) := by decide +kernel
theorem dL_law_16 : decode cL_law 16 = .ok (.iconst 0, 1) := by decide +kernel
theorem dL_law_17 : decode cL_law 17 = .ok (.istore_n 3, 1) := by decide +kernel
theorem dL_law_18 : decode cL_law 18 = .ok (.iload_n 3, 1) := by decide +kernel
theorem dL_law_19 : decode cL_law 19 = .ok (.aload_n 0, 1) := by decide +kernel
theorem dL_law_20 : decode cL_law 20 = .ok (.arraylength, 1) := by decide +kernel
theorem dL_law_21 : decode cL_law 21 = .ok (.iconst 4, 1) := by decide +kernel
theorem dL_law_22 : decode cL_law 22 = .ok (.isub, 1) := by decide +kernel
theorem dL_law_23 : decode cL_law 23 = .ok (.if_icmp .gt 697, 3) := by decide +kernel
theorem dL_law_26 : decode cL_law 26 = .ok (.aload_n 0, 1) := by decide +kernel
theorem dL_law_27 : decode cL_law 27 = .ok (.iload_n 3, 1) := by decide +kernel
theorem dL_law_28 : decode cL_law 28 = .ok (.iaload, 1) := by decide +kernel
theorem dL_law_29 : decode cL_law 29 = .ok (.bipush 31, 2) := by decide +kernel
theorem dL_law_31 : decode cL_law 31 = .ok (.iand, 1) := by decide +kernel
theorem dL_law_32 : decode cL_law 32 = .ok (.tableswitch 682 0 24 #[116, 139, 152, 165, 198, 221, 254, 277, 300, 313, 336, 359, 372, 395, 418, 461, 494, 507, 530, 543, 566, 599, 622, 645, 668], 116) := by decide +kernel
theorem dL_law_148 : decode cL_law 148 = .ok (.aload_n 1, 1) := by decide +kernel
theorem dL_law_149 : decode cL_law 149 = .ok (.aload_n 0, 1) := by decide +kernel
theorem dL_law_150 : decode cL_law 150 = .ok (.iload_n 3, 1) := by decide +kernel
theorem dL_law_151 : decode cL_law 151 = .ok (.iconst 1, 1) := by decide +kernel
theorem dL_law_152 : decode cL_law 152 = .ok (.iadd, 1) := by decide +kernel
theorem dL_law_153 : decode cL_law 153 = .ok (.iaload, 1) := by decide +kernel
theorem dL_law_154 : decode cL_law 154 = .ok (.invokevirtual 13, 3) := by decide +kernel
theorem dL_law_157 : decode cL_law 157 = .ok (.aload_n 2, 1) := by decide +kernel
theorem dL_law_158 : decode cL_law 158 = .ok (.aload_n 0, 1) := by decide +kernel
theorem dL_law_159 : decode cL_law 159 = .ok (.iload_n 3, 1) := by decide +kernel
theorem dL_law_160 : decode cL_law 160 = .ok (.iconst 1, 1) := by decide +kernel
theorem dL_law_161 : decode cL_law 161 = .ok (.iadd, 1) := by decide +kernel
theorem dL_law_162 : decode cL_law 162 = .ok (.iaload, 1) := by decide +kernel
theorem dL_law_163 : decode cL_law 163 = .ok (.invokevirtual 17, 3) := by decide +kernel
theorem dL_law_166 : decode cL_law 166 = .ok (.if_icmp .eq 548, 3) := by decide +kernel
theorem dL_law_169 : decode cL_law 169 = .ok (.iconst 0, 1) := by decide +kernel
theorem dL_law_170 : decode cL_law 170 = .ok (.ireturn, 1) := by decide +kernel
theorem dL_law_171 : decode cL_law 171 = .ok (.aload_n 1, 1) := by decide +kernel
theorem dL_law_172 : decode cL_law 172 = .ok (.invokevirtual 18, 3) := by decide +kernel
theorem dL_law_175 : decode cL_law 175 = .ok (.aload_n 2, 1) := by decide +kernel
theorem dL_law_176 : decode cL_law 176 = .ok (.invokevirtual 22, 3) := by decide +kernel
theorem dL_law_179 : decode cL_law 179 = .ok (.if_icmp .eq 535, 3) := by decide +kernel
theorem dL_law_182 : decode cL_law 182 = .ok (.iconst 0, 1) := by decide +kernel
theorem dL_law_183 : decode cL_law 183 = .ok (.ireturn, 1) := by decide +kernel
theorem dL_law_184 : decode cL_law 184 = .ok (.aload_n 1, 1) := by decide +kernel
theorem dL_law_185 : decode cL_law 185 = .ok (.invokevirtual 23, 3) := by decide +kernel
theorem dL_law_188 : decode cL_law 188 = .ok (.aload_n 2, 1) := by decide +kernel
theorem dL_law_189 : decode cL_law 189 = .ok (.invokevirtual 26, 3) := by decide +kernel
theorem dL_law_192 : decode cL_law 192 = .ok (.if_icmp .eq 522, 3) := by decide +kernel
theorem dL_law_195 : decode cL_law 195 = .ok (.iconst 0, 1) := by decide +kernel
theorem dL_law_196 : decode cL_law 196 = .ok (.ireturn, 1) := by decide +kernel
theorem dL_law_197 : decode cL_law 197 = .ok (.aload_n 1, 1) := by decide +kernel
theorem dL_law_198 : decode cL_law 198 = .ok (.aload_n 0, 1) := by decide +kernel
theorem dL_law_199 : decode cL_law 199 = .ok (.iload_n 3, 1) := by decide +kernel
theorem dL_law_200 : decode cL_law 200 = .ok (.iconst 1, 1) := by decide +kernel
theorem dL_law_201 : decode cL_law 201 = .ok (.iadd, 1) := by decide +kernel
theorem dL_law_202 : decode cL_law 202 = .ok (.iaload, 1) := by decide +kernel
theorem dL_law_203 : decode cL_law 203 = .ok (.aload_n 0, 1) := by decide +kernel
theorem dL_law_204 : decode cL_law 204 = .ok (.iload_n 3, 1) := by decide +kernel
theorem dL_law_205 : decode cL_law 205 = .ok (.iconst 2, 1) := by decide +kernel
theorem dL_law_206 : decode cL_law 206 = .ok (.iadd, 1) := by decide +kernel
theorem dL_law_207 : decode cL_law 207 = .ok (.iaload, 1) := by decide +kernel
theorem dL_law_208 : decode cL_law 208 = .ok (.invokevirtual 27, 3) := by decide +kernel
theorem dL_law_211 : decode cL_law 211 = .ok (.aload_n 2, 1) := by decide +kernel
theorem dL_law_212 : decode cL_law 212 = .ok (.aload_n 0, 1) := by decide +kernel
theorem dL_law_213 : decode cL_law 213 = .ok (.iload_n 3, 1) := by decide +kernel
theorem dL_law_214 : decode cL_law 214 = .ok (.iconst 1, 1) := by decide +kernel
theorem dL_law_215 : decode cL_law 215 = .ok (.iadd, 1) := by decide +kernel
theorem dL_law_216 : decode cL_law 216 = .ok (.iaload, 1) := by decide +kernel
theorem dL_law_217 : decode cL_law 217 = .ok (.aload_n 0, 1) := by decide +kernel
theorem dL_law_218 : decode cL_law 218 = .ok (.iload_n 3, 1) := by decide +kernel
theorem dL_law_219 : decode cL_law 219 = .ok (.iconst 2, 1) := by decide +kernel
theorem dL_law_220 : decode cL_law 220 = .ok (.iadd, 1) := by decide +kernel
theorem dL_law_221 : decode cL_law 221 = .ok (.iaload, 1) := by decide +kernel
theorem dL_law_222 : decode cL_law 222 = .ok (.invokevirtual 31, 3) := by decide +kernel
theorem dL_law_225 : decode cL_law 225 = .ok (.if_icmp .eq 489, 3) := by decide +kernel
theorem dL_law_228 : decode cL_law 228 = .ok (.iconst 0, 1) := by decide +kernel
theorem dL_law_229 : decode cL_law 229 = .ok (.ireturn, 1) := by decide +kernel
theorem dL_law_230 : decode cL_law 230 = .ok (.aload_n 1, 1) := by decide +kernel
theorem dL_law_231 : decode cL_law 231 = .ok (.aload_n 0, 1) := by decide +kernel
theorem dL_law_232 : decode cL_law 232 = .ok (.iload_n 3, 1) := by decide +kernel
theorem dL_law_233 : decode cL_law 233 = .ok (.iconst 1, 1) := by decide +kernel
theorem dL_law_234 : decode cL_law 234 = .ok (.iadd, 1) := by decide +kernel
theorem dL_law_235 : decode cL_law 235 = .ok (.iaload, 1) := by decide +kernel
theorem dL_law_236 : decode cL_law 236 = .ok (.invokevirtual 32, 3) := by decide +kernel
theorem dL_law_239 : decode cL_law 239 = .ok (.aload_n 2, 1) := by decide +kernel
theorem dL_law_240 : decode cL_law 240 = .ok (.aload_n 0, 1) := by decide +kernel
theorem dL_law_241 : decode cL_law 241 = .ok (.iload_n 3, 1) := by decide +kernel
theorem dL_law_242 : decode cL_law 242 = .ok (.iconst 1, 1) := by decide +kernel
theorem dL_law_243 : decode cL_law 243 = .ok (.iadd, 1) := by decide +kernel
theorem dL_law_244 : decode cL_law 244 = .ok (.iaload, 1) := by decide +kernel
theorem dL_law_245 : decode cL_law 245 = .ok (.invokevirtual 35, 3) := by decide +kernel
theorem dL_law_248 : decode cL_law 248 = .ok (.if_icmp .eq 466, 3) := by decide +kernel
theorem dL_law_251 : decode cL_law 251 = .ok (.iconst 0, 1) := by decide +kernel
theorem dL_law_252 : decode cL_law 252 = .ok (.ireturn, 1) := by decide +kernel
theorem dL_law_253 : decode cL_law 253 = .ok (.aload_n 1, 1) := by decide +kernel
theorem dL_law_254 : decode cL_law 254 = .ok (.aload_n 0, 1) := by decide +kernel
theorem dL_law_255 : decode cL_law 255 = .ok (.iload_n 3, 1) := by decide +kernel
theorem dL_law_256 : decode cL_law 256 = .ok (.iconst 1, 1) := by decide +kernel
theorem dL_law_257 : decode cL_law 257 = .ok (.iadd, 1) := by decide +kernel
theorem dL_law_258 : decode cL_law 258 = .ok (.iaload, 1) := by decide +kernel
theorem dL_law_259 : decode cL_law 259 = .ok (.aload_n 0, 1) := by decide +kernel
theorem dL_law_260 : decode cL_law 260 = .ok (.iload_n 3, 1) := by decide +kernel
theorem dL_law_261 : decode cL_law 261 = .ok (.iconst 2, 1) := by decide +kernel
theorem dL_law_262 : decode cL_law 262 = .ok (.iadd, 1) := by decide +kernel
theorem dL_law_263 : decode cL_law 263 = .ok (.iaload, 1) := by decide +kernel
theorem dL_law_264 : decode cL_law 264 = .ok (.invokevirtual 36, 3) := by decide +kernel
theorem dL_law_267 : decode cL_law 267 = .ok (.aload_n 2, 1) := by decide +kernel
theorem dL_law_268 : decode cL_law 268 = .ok (.aload_n 0, 1) := by decide +kernel
theorem dL_law_269 : decode cL_law 269 = .ok (.iload_n 3, 1) := by decide +kernel
theorem dL_law_270 : decode cL_law 270 = .ok (.iconst 1, 1) := by decide +kernel
theorem dL_law_271 : decode cL_law 271 = .ok (.iadd, 1) := by decide +kernel
theorem dL_law_272 : decode cL_law 272 = .ok (.iaload, 1) := by decide +kernel
theorem dL_law_273 : decode cL_law 273 = .ok (.aload_n 0, 1) := by decide +kernel
theorem dL_law_274 : decode cL_law 274 = .ok (.iload_n 3, 1) := by decide +kernel
theorem dL_law_275 : decode cL_law 275 = .ok (.iconst 2, 1) := by decide +kernel
theorem dL_law_276 : decode cL_law 276 = .ok (.iadd, 1) := by decide +kernel
theorem dL_law_277 : decode cL_law 277 = .ok (.iaload, 1) := by decide +kernel
theorem dL_law_278 : decode cL_law 278 = .ok (.invokevirtual 39, 3) := by decide +kernel
theorem dL_law_281 : decode cL_law 281 = .ok (.if_icmp .eq 433, 3) := by decide +kernel
theorem dL_law_284 : decode cL_law 284 = .ok (.iconst 0, 1) := by decide +kernel
theorem dL_law_285 : decode cL_law 285 = .ok (.ireturn, 1) := by decide +kernel
theorem dL_law_286 : decode cL_law 286 = .ok (.aload_n 1, 1) := by decide +kernel
theorem dL_law_287 : decode cL_law 287 = .ok (.aload_n 0, 1) := by decide +kernel
theorem dL_law_288 : decode cL_law 288 = .ok (.iload_n 3, 1) := by decide +kernel
theorem dL_law_289 : decode cL_law 289 = .ok (.iconst 1, 1) := by decide +kernel
theorem dL_law_290 : decode cL_law 290 = .ok (.iadd, 1) := by decide +kernel
theorem dL_law_291 : decode cL_law 291 = .ok (.iaload, 1) := by decide +kernel
theorem dL_law_292 : decode cL_law 292 = .ok (.invokevirtual 40, 3) := by decide +kernel
theorem dL_law_295 : decode cL_law 295 = .ok (.aload_n 2, 1) := by decide +kernel
theorem dL_law_296 : decode cL_law 296 = .ok (.aload_n 0, 1) := by decide +kernel
theorem dL_law_297 : decode cL_law 297 = .ok (.iload_n 3, 1) := by decide +kernel
theorem dL_law_298 : decode cL_law 298 = .ok (.iconst 1, 1) := by decide +kernel
theorem dL_law_299 : decode cL_law 299 = .ok (.iadd, 1) := by decide +kernel
theorem dL_law_300 : decode cL_law 300 = .ok (.iaload, 1) := by decide +kernel
theorem dL_law_301 : decode cL_law 301 = .ok (.invokevirtual 43, 3) := by decide +kernel
theorem dL_law_304 : decode cL_law 304 = .ok (.if_icmp .eq 410, 3) := by decide +kernel
theorem dL_law_307 : decode cL_law 307 = .ok (.iconst 0, 1) := by decide +kernel
theorem dL_law_308 : decode cL_law 308 = .ok (.ireturn, 1) := by decide +kernel
theorem dL_law_309 : decode cL_law 309 = .ok (.aload_n 1, 1) := by decide +kernel
theorem dL_law_310 : decode cL_law 310 = .ok (.aload_n 0, 1) := by decide +kernel
theorem dL_law_311 : decode cL_law 311 = .ok (.iload_n 3, 1) := by decide +kernel
theorem dL_law_312 : decode cL_law 312 = .ok (.iconst 1, 1) := by decide +kernel
theorem dL_law_313 : decode cL_law 313 = .ok (.iadd, 1) := by decide +kernel
theorem dL_law_314 : decode cL_law 314 = .ok (.iaload, 1) := by decide +kernel
theorem dL_law_315 : decode cL_law 315 = .ok (.invokevirtual 44, 3) := by decide +kernel
theorem dL_law_318 : decode cL_law 318 = .ok (.aload_n 2, 1) := by decide +kernel
theorem dL_law_319 : decode cL_law 319 = .ok (.aload_n 0, 1) := by decide +kernel
theorem dL_law_320 : decode cL_law 320 = .ok (.iload_n 3, 1) := by decide +kernel
theorem dL_law_321 : decode cL_law 321 = .ok (.iconst 1, 1) := by decide +kernel
theorem dL_law_322 : decode cL_law 322 = .ok (.iadd, 1) := by decide +kernel
theorem dL_law_323 : decode cL_law 323 = .ok (.iaload, 1) := by decide +kernel
theorem dL_law_324 : decode cL_law 324 = .ok (.invokevirtual 47, 3) := by decide +kernel
theorem dL_law_327 : decode cL_law 327 = .ok (.if_icmp .eq 387, 3) := by decide +kernel
theorem dL_law_330 : decode cL_law 330 = .ok (.iconst 0, 1) := by decide +kernel
theorem dL_law_331 : decode cL_law 331 = .ok (.ireturn, 1) := by decide +kernel
theorem dL_law_332 : decode cL_law 332 = .ok (.aload_n 1, 1) := by decide +kernel
theorem dL_law_333 : decode cL_law 333 = .ok (.invokevirtual 48, 3) := by decide +kernel
theorem dL_law_336 : decode cL_law 336 = .ok (.aload_n 2, 1) := by decide +kernel
theorem dL_law_337 : decode cL_law 337 = .ok (.invokevirtual 51, 3) := by decide +kernel
theorem dL_law_340 : decode cL_law 340 = .ok (.if_icmp .eq 374, 3) := by decide +kernel
theorem dL_law_343 : decode cL_law 343 = .ok (.iconst 0, 1) := by decide +kernel
theorem dL_law_344 : decode cL_law 344 = .ok (.ireturn, 1) := by decide +kernel
theorem dL_law_345 : decode cL_law 345 = .ok (.aload_n 1, 1) := by decide +kernel
theorem dL_law_346 : decode cL_law 346 = .ok (.aload_n 0, 1) := by decide +kernel
theorem dL_law_347 : decode cL_law 347 = .ok (.iload_n 3, 1) := by decide +kernel
theorem dL_law_348 : decode cL_law 348 = .ok (.iconst 1, 1) := by decide +kernel
theorem dL_law_349 : decode cL_law 349 = .ok (.iadd, 1) := by decide +kernel
theorem dL_law_350 : decode cL_law 350 = .ok (.iaload, 1) := by decide +kernel
theorem dL_law_351 : decode cL_law 351 = .ok (.invokevirtual 52, 3) := by decide +kernel
theorem dL_law_354 : decode cL_law 354 = .ok (.aload_n 2, 1) := by decide +kernel
theorem dL_law_355 : decode cL_law 355 = .ok (.aload_n 0, 1) := by decide +kernel
theorem dL_law_356 : decode cL_law 356 = .ok (.iload_n 3, 1) := by decide +kernel
theorem dL_law_357 : decode cL_law 357 = .ok (.iconst 1, 1) := by decide +kernel
theorem dL_law_358 : decode cL_law 358 = .ok (.iadd, 1) := by decide +kernel
theorem dL_law_359 : decode cL_law 359 = .ok (.iaload, 1) := by decide +kernel
theorem dL_law_360 : decode cL_law 360 = .ok (.invokevirtual 55, 3) := by decide +kernel
theorem dL_law_363 : decode cL_law 363 = .ok (.if_icmp .eq 351, 3) := by decide +kernel
theorem dL_law_366 : decode cL_law 366 = .ok (.iconst 0, 1) := by decide +kernel
theorem dL_law_367 : decode cL_law 367 = .ok (.ireturn, 1) := by decide +kernel
theorem dL_law_368 : decode cL_law 368 = .ok (.aload_n 1, 1) := by decide +kernel
theorem dL_law_369 : decode cL_law 369 = .ok (.aload_n 0, 1) := by decide +kernel
theorem dL_law_370 : decode cL_law 370 = .ok (.iload_n 3, 1) := by decide +kernel
theorem dL_law_371 : decode cL_law 371 = .ok (.iconst 1, 1) := by decide +kernel
theorem dL_law_372 : decode cL_law 372 = .ok (.iadd, 1) := by decide +kernel
theorem dL_law_373 : decode cL_law 373 = .ok (.iaload, 1) := by decide +kernel
theorem dL_law_374 : decode cL_law 374 = .ok (.invokevirtual 56, 3) := by decide +kernel
theorem dL_law_377 : decode cL_law 377 = .ok (.aload_n 2, 1) := by decide +kernel
theorem dL_law_378 : decode cL_law 378 = .ok (.aload_n 0, 1) := by decide +kernel
theorem dL_law_379 : decode cL_law 379 = .ok (.iload_n 3, 1) := by decide +kernel
theorem dL_law_380 : decode cL_law 380 = .ok (.iconst 1, 1) := by decide +kernel
theorem dL_law_381 : decode cL_law 381 = .ok (.iadd, 1) := by decide +kernel
theorem dL_law_382 : decode cL_law 382 = .ok (.iaload, 1) := by decide +kernel
theorem dL_law_383 : decode cL_law 383 = .ok (.invokevirtual 59, 3) := by decide +kernel
theorem dL_law_386 : decode cL_law 386 = .ok (.if_icmp .eq 328, 3) := by decide +kernel
theorem dL_law_389 : decode cL_law 389 = .ok (.iconst 0, 1) := by decide +kernel
theorem dL_law_390 : decode cL_law 390 = .ok (.ireturn, 1) := by decide +kernel
theorem dL_law_391 : decode cL_law 391 = .ok (.aload_n 1, 1) := by decide +kernel
theorem dL_law_392 : decode cL_law 392 = .ok (.invokevirtual 60, 3) := by decide +kernel
theorem dL_law_395 : decode cL_law 395 = .ok (.aload_n 2, 1) := by decide +kernel
theorem dL_law_396 : decode cL_law 396 = .ok (.invokevirtual 63, 3) := by decide +kernel
theorem dL_law_399 : decode cL_law 399 = .ok (.if_icmp .eq 315, 3) := by decide +kernel
theorem dL_law_402 : decode cL_law 402 = .ok (.iconst 0, 1) := by decide +kernel
theorem dL_law_403 : decode cL_law 403 = .ok (.ireturn, 1) := by decide +kernel
theorem dL_law_404 : decode cL_law 404 = .ok (.aload_n 1, 1) := by decide +kernel
theorem dL_law_405 : decode cL_law 405 = .ok (.aload_n 0, 1) := by decide +kernel
theorem dL_law_406 : decode cL_law 406 = .ok (.iload_n 3, 1) := by decide +kernel
theorem dL_law_407 : decode cL_law 407 = .ok (.iconst 1, 1) := by decide +kernel
theorem dL_law_408 : decode cL_law 408 = .ok (.iadd, 1) := by decide +kernel
theorem dL_law_409 : decode cL_law 409 = .ok (.iaload, 1) := by decide +kernel
theorem dL_law_410 : decode cL_law 410 = .ok (.invokevirtual 64, 3) := by decide +kernel
theorem dL_law_413 : decode cL_law 413 = .ok (.aload_n 2, 1) := by decide +kernel
theorem dL_law_414 : decode cL_law 414 = .ok (.aload_n 0, 1) := by decide +kernel
theorem dL_law_415 : decode cL_law 415 = .ok (.iload_n 3, 1) := by decide +kernel
theorem dL_law_416 : decode cL_law 416 = .ok (.iconst 1, 1) := by decide +kernel
theorem dL_law_417 : decode cL_law 417 = .ok (.iadd, 1) := by decide +kernel
theorem dL_law_418 : decode cL_law 418 = .ok (.iaload, 1) := by decide +kernel
theorem dL_law_419 : decode cL_law 419 = .ok (.invokevirtual 67, 3) := by decide +kernel
theorem dL_law_422 : decode cL_law 422 = .ok (.if_icmp .eq 292, 3) := by decide +kernel
theorem dL_law_425 : decode cL_law 425 = .ok (.iconst 0, 1) := by decide +kernel
theorem dL_law_426 : decode cL_law 426 = .ok (.ireturn, 1) := by decide +kernel
theorem dL_law_427 : decode cL_law 427 = .ok (.aload_n 1, 1) := by decide +kernel
theorem dL_law_428 : decode cL_law 428 = .ok (.aload_n 0, 1) := by decide +kernel
theorem dL_law_429 : decode cL_law 429 = .ok (.iload_n 3, 1) := by decide +kernel
theorem dL_law_430 : decode cL_law 430 = .ok (.iconst 1, 1) := by decide +kernel
theorem dL_law_431 : decode cL_law 431 = .ok (.iadd, 1) := by decide +kernel
theorem dL_law_432 : decode cL_law 432 = .ok (.iaload, 1) := by decide +kernel
theorem dL_law_433 : decode cL_law 433 = .ok (.invokevirtual 68, 3) := by decide +kernel
theorem dL_law_436 : decode cL_law 436 = .ok (.aload_n 2, 1) := by decide +kernel
theorem dL_law_437 : decode cL_law 437 = .ok (.aload_n 0, 1) := by decide +kernel
theorem dL_law_438 : decode cL_law 438 = .ok (.iload_n 3, 1) := by decide +kernel
theorem dL_law_439 : decode cL_law 439 = .ok (.iconst 1, 1) := by decide +kernel
theorem dL_law_440 : decode cL_law 440 = .ok (.iadd, 1) := by decide +kernel
theorem dL_law_441 : decode cL_law 441 = .ok (.iaload, 1) := by decide +kernel
theorem dL_law_442 : decode cL_law 442 = .ok (.invokevirtual 71, 3) := by decide +kernel
theorem dL_law_445 : decode cL_law 445 = .ok (.if_icmp .eq 269, 3) := by decide +kernel
theorem dL_law_448 : decode cL_law 448 = .ok (.iconst 0, 1) := by decide +kernel
theorem dL_law_449 : decode cL_law 449 = .ok (.ireturn, 1) := by decide +kernel
theorem dL_law_450 : decode cL_law 450 = .ok (.aload_n 1, 1) := by decide +kernel
theorem dL_law_451 : decode cL_law 451 = .ok (.aload_n 0, 1) := by decide +kernel
theorem dL_law_452 : decode cL_law 452 = .ok (.iload_n 3, 1) := by decide +kernel
theorem dL_law_453 : decode cL_law 453 = .ok (.iconst 1, 1) := by decide +kernel
theorem dL_law_454 : decode cL_law 454 = .ok (.iadd, 1) := by decide +kernel
theorem dL_law_455 : decode cL_law 455 = .ok (.iaload, 1) := by decide +kernel
theorem dL_law_456 : decode cL_law 456 = .ok (.aload_n 0, 1) := by decide +kernel
theorem dL_law_457 : decode cL_law 457 = .ok (.iload_n 3, 1) := by decide +kernel
theorem dL_law_458 : decode cL_law 458 = .ok (.iconst 2, 1) := by decide +kernel
theorem dL_law_459 : decode cL_law 459 = .ok (.iadd, 1) := by decide +kernel
theorem dL_law_460 : decode cL_law 460 = .ok (.iaload, 1) := by decide +kernel
theorem dL_law_461 : decode cL_law 461 = .ok (.aload_n 0, 1) := by decide +kernel
theorem dL_law_462 : decode cL_law 462 = .ok (.iload_n 3, 1) := by decide +kernel
theorem dL_law_463 : decode cL_law 463 = .ok (.iconst 3, 1) := by decide +kernel
theorem dL_law_464 : decode cL_law 464 = .ok (.iadd, 1) := by decide +kernel
theorem dL_law_465 : decode cL_law 465 = .ok (.iaload, 1) := by decide +kernel
theorem dL_law_466 : decode cL_law 466 = .ok (.invokevirtual 72, 3) := by decide +kernel
theorem dL_law_469 : decode cL_law 469 = .ok (.aload_n 2, 1) := by decide +kernel
theorem dL_law_470 : decode cL_law 470 = .ok (.aload_n 0, 1) := by decide +kernel
theorem dL_law_471 : decode cL_law 471 = .ok (.iload_n 3, 1) := by decide +kernel
theorem dL_law_472 : decode cL_law 472 = .ok (.iconst 1, 1) := by decide +kernel
theorem dL_law_473 : decode cL_law 473 = .ok (.iadd, 1) := by decide +kernel
theorem dL_law_474 : decode cL_law 474 = .ok (.iaload, 1) := by decide +kernel
theorem dL_law_475 : decode cL_law 475 = .ok (.aload_n 0, 1) := by decide +kernel
theorem dL_law_476 : decode cL_law 476 = .ok (.iload_n 3, 1) := by decide +kernel
theorem dL_law_477 : decode cL_law 477 = .ok (.iconst 2, 1) := by decide +kernel
theorem dL_law_478 : decode cL_law 478 = .ok (.iadd, 1) := by decide +kernel
theorem dL_law_479 : decode cL_law 479 = .ok (.iaload, 1) := by decide +kernel
theorem dL_law_480 : decode cL_law 480 = .ok (.aload_n 0, 1) := by decide +kernel
theorem dL_law_481 : decode cL_law 481 = .ok (.iload_n 3, 1) := by decide +kernel
theorem dL_law_482 : decode cL_law 482 = .ok (.iconst 3, 1) := by decide +kernel
theorem dL_law_483 : decode cL_law 483 = .ok (.iadd, 1) := by decide +kernel
theorem dL_law_484 : decode cL_law 484 = .ok (.iaload, 1) := by decide +kernel
theorem dL_law_485 : decode cL_law 485 = .ok (.invokevirtual 76, 3) := by decide +kernel
theorem dL_law_488 : decode cL_law 488 = .ok (.if_icmp .eq 226, 3) := by decide +kernel
theorem dL_law_491 : decode cL_law 491 = .ok (.iconst 0, 1) := by decide +kernel
theorem dL_law_492 : decode cL_law 492 = .ok (.ireturn, 1) := by decide +kernel
theorem dL_law_493 : decode cL_law 493 = .ok (.aload_n 1, 1) := by decide +kernel
theorem dL_law_494 : decode cL_law 494 = .ok (.aload_n 0, 1) := by decide +kernel
theorem dL_law_495 : decode cL_law 495 = .ok (.iload_n 3, 1) := by decide +kernel
theorem dL_law_496 : decode cL_law 496 = .ok (.iconst 1, 1) := by decide +kernel
theorem dL_law_497 : decode cL_law 497 = .ok (.iadd, 1) := by decide +kernel
theorem dL_law_498 : decode cL_law 498 = .ok (.iaload, 1) := by decide +kernel
theorem dL_law_499 : decode cL_law 499 = .ok (.aload_n 0, 1) := by decide +kernel
theorem dL_law_500 : decode cL_law 500 = .ok (.iload_n 3, 1) := by decide +kernel
theorem dL_law_501 : decode cL_law 501 = .ok (.iconst 2, 1) := by decide +kernel
theorem dL_law_502 : decode cL_law 502 = .ok (.iadd, 1) := by decide +kernel
theorem dL_law_503 : decode cL_law 503 = .ok (.iaload, 1) := by decide +kernel
theorem dL_law_504 : decode cL_law 504 = .ok (.invokevirtual 77, 3) := by decide +kernel
theorem dL_law_507 : decode cL_law 507 = .ok (.aload_n 2, 1) := by decide +kernel
theorem dL_law_508 : decode cL_law 508 = .ok (.aload_n 0, 1) := by decide +kernel
theorem dL_law_509 : decode cL_law 509 = .ok (.iload_n 3, 1) := by decide +kernel
theorem dL_law_510 : decode cL_law 510 = .ok (.iconst 1, 1) := by decide +kernel
theorem dL_law_511 : decode cL_law 511 = .ok (.iadd, 1) := by decide +kernel
theorem dL_law_512 : decode cL_law 512 = .ok (.iaload, 1) := by decide +kernel
theorem dL_law_513 : decode cL_law 513 = .ok (.aload_n 0, 1) := by decide +kernel
theorem dL_law_514 : decode cL_law 514 = .ok (.iload_n 3, 1) := by decide +kernel
theorem dL_law_515 : decode cL_law 515 = .ok (.iconst 2, 1) := by decide +kernel
theorem dL_law_516 : decode cL_law 516 = .ok (.iadd, 1) := by decide +kernel
theorem dL_law_517 : decode cL_law 517 = .ok (.iaload, 1) := by decide +kernel
theorem dL_law_518 : decode cL_law 518 = .ok (.invokevirtual 80, 3) := by decide +kernel
theorem dL_law_521 : decode cL_law 521 = .ok (.if_icmp .eq 193, 3) := by decide +kernel
theorem dL_law_524 : decode cL_law 524 = .ok (.iconst 0, 1) := by decide +kernel
theorem dL_law_525 : decode cL_law 525 = .ok (.ireturn, 1) := by decide +kernel
theorem dL_law_526 : decode cL_law 526 = .ok (.aload_n 1, 1) := by decide +kernel
theorem dL_law_527 : decode cL_law 527 = .ok (.invokevirtual 81, 3) := by decide +kernel
theorem dL_law_530 : decode cL_law 530 = .ok (.aload_n 2, 1) := by decide +kernel
theorem dL_law_531 : decode cL_law 531 = .ok (.invokevirtual 84, 3) := by decide +kernel
theorem dL_law_534 : decode cL_law 534 = .ok (.if_icmp .eq 180, 3) := by decide +kernel
theorem dL_law_537 : decode cL_law 537 = .ok (.iconst 0, 1) := by decide +kernel
theorem dL_law_538 : decode cL_law 538 = .ok (.ireturn, 1) := by decide +kernel
theorem dL_law_539 : decode cL_law 539 = .ok (.aload_n 1, 1) := by decide +kernel
theorem dL_law_540 : decode cL_law 540 = .ok (.aload_n 0, 1) := by decide +kernel
theorem dL_law_541 : decode cL_law 541 = .ok (.iload_n 3, 1) := by decide +kernel
theorem dL_law_542 : decode cL_law 542 = .ok (.iconst 1, 1) := by decide +kernel
theorem dL_law_543 : decode cL_law 543 = .ok (.iadd, 1) := by decide +kernel
theorem dL_law_544 : decode cL_law 544 = .ok (.iaload, 1) := by decide +kernel
theorem dL_law_545 : decode cL_law 545 = .ok (.invokevirtual 85, 3) := by decide +kernel
theorem dL_law_548 : decode cL_law 548 = .ok (.aload_n 2, 1) := by decide +kernel
theorem dL_law_549 : decode cL_law 549 = .ok (.aload_n 0, 1) := by decide +kernel
theorem dL_law_550 : decode cL_law 550 = .ok (.iload_n 3, 1) := by decide +kernel
theorem dL_law_551 : decode cL_law 551 = .ok (.iconst 1, 1) := by decide +kernel
theorem dL_law_552 : decode cL_law 552 = .ok (.iadd, 1) := by decide +kernel
theorem dL_law_553 : decode cL_law 553 = .ok (.iaload, 1) := by decide +kernel
theorem dL_law_554 : decode cL_law 554 = .ok (.invokevirtual 88, 3) := by decide +kernel
theorem dL_law_557 : decode cL_law 557 = .ok (.if_icmp .eq 157, 3) := by decide +kernel
theorem dL_law_560 : decode cL_law 560 = .ok (.iconst 0, 1) := by decide +kernel
theorem dL_law_561 : decode cL_law 561 = .ok (.ireturn, 1) := by decide +kernel
theorem dL_law_562 : decode cL_law 562 = .ok (.aload_n 1, 1) := by decide +kernel
theorem dL_law_563 : decode cL_law 563 = .ok (.invokevirtual 89, 3) := by decide +kernel
theorem dL_law_566 : decode cL_law 566 = .ok (.aload_n 2, 1) := by decide +kernel
theorem dL_law_567 : decode cL_law 567 = .ok (.invokevirtual 92, 3) := by decide +kernel
theorem dL_law_570 : decode cL_law 570 = .ok (.if_icmp .eq 144, 3) := by decide +kernel
theorem dL_law_573 : decode cL_law 573 = .ok (.iconst 0, 1) := by decide +kernel
theorem dL_law_574 : decode cL_law 574 = .ok (.ireturn, 1) := by decide +kernel
theorem dL_law_575 : decode cL_law 575 = .ok (.aload_n 1, 1) := by decide +kernel
theorem dL_law_576 : decode cL_law 576 = .ok (.aload_n 0, 1) := by decide +kernel
theorem dL_law_577 : decode cL_law 577 = .ok (.iload_n 3, 1) := by decide +kernel
theorem dL_law_578 : decode cL_law 578 = .ok (.iconst 1, 1) := by decide +kernel
theorem dL_law_579 : decode cL_law 579 = .ok (.iadd, 1) := by decide +kernel
theorem dL_law_580 : decode cL_law 580 = .ok (.iaload, 1) := by decide +kernel
theorem dL_law_581 : decode cL_law 581 = .ok (.invokevirtual 93, 3) := by decide +kernel
theorem dL_law_584 : decode cL_law 584 = .ok (.aload_n 2, 1) := by decide +kernel
theorem dL_law_585 : decode cL_law 585 = .ok (.aload_n 0, 1) := by decide +kernel
theorem dL_law_586 : decode cL_law 586 = .ok (.iload_n 3, 1) := by decide +kernel
theorem dL_law_587 : decode cL_law 587 = .ok (.iconst 1, 1) := by decide +kernel
theorem dL_law_588 : decode cL_law 588 = .ok (.iadd, 1) := by decide +kernel
theorem dL_law_589 : decode cL_law 589 = .ok (.iaload, 1) := by decide +kernel
theorem dL_law_590 : decode cL_law 590 = .ok (.invokevirtual 96, 3) := by decide +kernel
theorem dL_law_593 : decode cL_law 593 = .ok (.if_icmp .eq 121, 3) := by decide +kernel
theorem dL_law_596 : decode cL_law 596 = .ok (.iconst 0, 1) := by decide +kernel
theorem dL_law_597 : decode cL_law 597 = .ok (.ireturn, 1) := by decide +kernel
theorem dL_law_598 : decode cL_law 598 = .ok (.aload_n 1, 1) := by decide +kernel
theorem dL_law_599 : decode cL_law 599 = .ok (.aload_n 0, 1) := by decide +kernel
theorem dL_law_600 : decode cL_law 600 = .ok (.iload_n 3, 1) := by decide +kernel
theorem dL_law_601 : decode cL_law 601 = .ok (.iconst 1, 1) := by decide +kernel
theorem dL_law_602 : decode cL_law 602 = .ok (.iadd, 1) := by decide +kernel
theorem dL_law_603 : decode cL_law 603 = .ok (.iaload, 1) := by decide +kernel
theorem dL_law_604 : decode cL_law 604 = .ok (.aload_n 0, 1) := by decide +kernel
theorem dL_law_605 : decode cL_law 605 = .ok (.iload_n 3, 1) := by decide +kernel
theorem dL_law_606 : decode cL_law 606 = .ok (.iconst 2, 1) := by decide +kernel
theorem dL_law_607 : decode cL_law 607 = .ok (.iadd, 1) := by decide +kernel
theorem dL_law_608 : decode cL_law 608 = .ok (.iaload, 1) := by decide +kernel
theorem dL_law_609 : decode cL_law 609 = .ok (.invokevirtual 97, 3) := by decide +kernel
theorem dL_law_612 : decode cL_law 612 = .ok (.aload_n 2, 1) := by decide +kernel
theorem dL_law_613 : decode cL_law 613 = .ok (.aload_n 0, 1) := by decide +kernel
theorem dL_law_614 : decode cL_law 614 = .ok (.iload_n 3, 1) := by decide +kernel
theorem dL_law_615 : decode cL_law 615 = .ok (.iconst 1, 1) := by decide +kernel
theorem dL_law_616 : decode cL_law 616 = .ok (.iadd, 1) := by decide +kernel
theorem dL_law_617 : decode cL_law 617 = .ok (.iaload, 1) := by decide +kernel
theorem dL_law_618 : decode cL_law 618 = .ok (.aload_n 0, 1) := by decide +kernel
theorem dL_law_619 : decode cL_law 619 = .ok (.iload_n 3, 1) := by decide +kernel
theorem dL_law_620 : decode cL_law 620 = .ok (.iconst 2, 1) := by decide +kernel
theorem dL_law_621 : decode cL_law 621 = .ok (.iadd, 1) := by decide +kernel
theorem dL_law_622 : decode cL_law 622 = .ok (.iaload, 1) := by decide +kernel
theorem dL_law_623 : decode cL_law 623 = .ok (.invokevirtual 100, 3) := by decide +kernel
theorem dL_law_626 : decode cL_law 626 = .ok (.if_icmp .eq 88, 3) := by decide +kernel
theorem dL_law_629 : decode cL_law 629 = .ok (.iconst 0, 1) := by decide +kernel
theorem dL_law_630 : decode cL_law 630 = .ok (.ireturn, 1) := by decide +kernel
theorem dL_law_631 : decode cL_law 631 = .ok (.aload_n 1, 1) := by decide +kernel
theorem dL_law_632 : decode cL_law 632 = .ok (.aload_n 0, 1) := by decide +kernel
theorem dL_law_633 : decode cL_law 633 = .ok (.iload_n 3, 1) := by decide +kernel
theorem dL_law_634 : decode cL_law 634 = .ok (.iconst 1, 1) := by decide +kernel
theorem dL_law_635 : decode cL_law 635 = .ok (.iadd, 1) := by decide +kernel
theorem dL_law_636 : decode cL_law 636 = .ok (.iaload, 1) := by decide +kernel
theorem dL_law_637 : decode cL_law 637 = .ok (.invokevirtual 101, 3) := by decide +kernel
theorem dL_law_640 : decode cL_law 640 = .ok (.aload_n 2, 1) := by decide +kernel
theorem dL_law_641 : decode cL_law 641 = .ok (.aload_n 0, 1) := by decide +kernel
theorem dL_law_642 : decode cL_law 642 = .ok (.iload_n 3, 1) := by decide +kernel
theorem dL_law_643 : decode cL_law 643 = .ok (.iconst 1, 1) := by decide +kernel
theorem dL_law_644 : decode cL_law 644 = .ok (.iadd, 1) := by decide +kernel
theorem dL_law_645 : decode cL_law 645 = .ok (.iaload, 1) := by decide +kernel
theorem dL_law_646 : decode cL_law 646 = .ok (.invokevirtual 104, 3) := by decide +kernel
theorem dL_law_649 : decode cL_law 649 = .ok (.if_icmp .eq 65, 3) := by decide +kernel
theorem dL_law_652 : decode cL_law 652 = .ok (.iconst 0, 1) := by decide +kernel
theorem dL_law_653 : decode cL_law 653 = .ok (.ireturn, 1) := by decide +kernel
theorem dL_law_654 : decode cL_law 654 = .ok (.aload_n 1, 1) := by decide +kernel
theorem dL_law_655 : decode cL_law 655 = .ok (.aload_n 0, 1) := by decide +kernel
theorem dL_law_656 : decode cL_law 656 = .ok (.iload_n 3, 1) := by decide +kernel
theorem dL_law_657 : decode cL_law 657 = .ok (.iconst 1, 1) := by decide +kernel
theorem dL_law_658 : decode cL_law 658 = .ok (.iadd, 1) := by decide +kernel
theorem dL_law_659 : decode cL_law 659 = .ok (.iaload, 1) := by decide +kernel
theorem dL_law_660 : decode cL_law 660 = .ok (.invokevirtual 105, 3) := by decide +kernel
theorem dL_law_663 : decode cL_law 663 = .ok (.aload_n 2, 1) := by decide +kernel
theorem dL_law_664 : decode cL_law 664 = .ok (.aload_n 0, 1) := by decide +kernel
theorem dL_law_665 : decode cL_law 665 = .ok (.iload_n 3, 1) := by decide +kernel
theorem dL_law_666 : decode cL_law 666 = .ok (.iconst 1, 1) := by decide +kernel
theorem dL_law_667 : decode cL_law 667 = .ok (.iadd, 1) := by decide +kernel
theorem dL_law_668 : decode cL_law 668 = .ok (.iaload, 1) := by decide +kernel
theorem dL_law_669 : decode cL_law 669 = .ok (.invokevirtual 108, 3) := by decide +kernel
theorem dL_law_672 : decode cL_law 672 = .ok (.if_icmp .eq 42, 3) := by decide +kernel
theorem dL_law_675 : decode cL_law 675 = .ok (.iconst 0, 1) := by decide +kernel
theorem dL_law_676 : decode cL_law 676 = .ok (.ireturn, 1) := by decide +kernel
theorem dL_law_677 : decode cL_law 677 = .ok (.aload_n 1, 1) := by decide +kernel
theorem dL_law_678 : decode cL_law 678 = .ok (.aload_n 0, 1) := by decide +kernel
theorem dL_law_679 : decode cL_law 679 = .ok (.iload_n 3, 1) := by decide +kernel
theorem dL_law_680 : decode cL_law 680 = .ok (.iconst 1, 1) := by decide +kernel
theorem dL_law_681 : decode cL_law 681 = .ok (.iadd, 1) := by decide +kernel
theorem dL_law_682 : decode cL_law 682 = .ok (.iaload, 1) := by decide +kernel
theorem dL_law_683 : decode cL_law 683 = .ok (.invokevirtual 109, 3) := by decide +kernel
theorem dL_law_686 : decode cL_law 686 = .ok (.aload_n 2, 1) := by decide +kernel
theorem dL_law_687 : decode cL_law 687 = .ok (.aload_n 0, 1) := by decide +kernel
theorem dL_law_688 : decode cL_law 688 = .ok (.iload_n 3, 1) := by decide +kernel
theorem dL_law_689 : decode cL_law 689 = .ok (.iconst 1, 1) := by decide +kernel
theorem dL_law_690 : decode cL_law 690 = .ok (.iadd, 1) := by decide +kernel
theorem dL_law_691 : decode cL_law 691 = .ok (.iaload, 1) := by decide +kernel
theorem dL_law_692 : decode cL_law 692 = .ok (.invokevirtual 112, 3) := by decide +kernel
theorem dL_law_695 : decode cL_law 695 = .ok (.if_icmp .eq 19, 3) := by decide +kernel
theorem dL_law_698 : decode cL_law 698 = .ok (.iconst 0, 1) := by decide +kernel
theorem dL_law_699 : decode cL_law 699 = .ok (.ireturn, 1) := by decide +kernel
theorem dL_law_700 : decode cL_law 700 = .ok (.aload_n 1, 1) := by decide +kernel
theorem dL_law_701 : decode cL_law 701 = .ok (.invokevirtual 113, 3) := by decide +kernel
theorem dL_law_704 : decode cL_law 704 = .ok (.aload_n 2, 1) := by decide +kernel
theorem dL_law_705 : decode cL_law 705 = .ok (.invokevirtual 117, 3) := by decide +kernel
theorem dL_law_708 : decode cL_law 708 = .ok (.lcmp, 1) := by decide +kernel
theorem dL_law_709 : decode cL_law 709 = .ok (.ifCond .eq 5, 3) := by decide +kernel
theorem dL_law_712 : decode cL_law 712 = .ok (.iconst 0, 1) := by decide +kernel
theorem dL_law_713 : decode cL_law 713 = .ok (.ireturn, 1) := by decide +kernel
theorem dL_law_714 : decode cL_law 714 = .ok (.iinc 3 4, 3) := by decide +kernel
theorem dL_law_717 : decode cL_law 717 = .ok (.goto (-699), 3) := by decide +kernel
theorem dL_law_720 : decode cL_law 720 = .ok (.iconst 1, 1) := by decide +kernel
theorem dL_law_721 : decode cL_law 721 = .ok (.ireturn, 1) := by decide +kernel
abbrev vwCl : List vw_C := [(RX0, TX0, 0), (RX1, TX1, 0), (RX2, TX2, 7), (RX3, TX3, 7), (RX4, TX4, 3), (RX5, TX5, 0), (RX6, TX6, 9), (RX7, TX7, 0), (RX8, TX8, 7), (RX9, TX9, 0), (RX10, TX10, 0), (RX11, TX11, 11), (RX12, TX12, 18)]
