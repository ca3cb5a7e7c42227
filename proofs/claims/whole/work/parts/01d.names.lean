theorem dX11_piece_1 : decode cX11_piece 1 = .ok (.getfield 12, 3) := by decide +kernel
theorem dX11_piece_4 : decode cX11_piece 4 = .ok (.aload_n 0, 1) := by decide +kernel
theorem dX11_piece_5 : decode cX11_piece 5 = .ok (.getfield 23, 3) := by decide +kernel
theorem dX11_piece_8 : decode cX11_piece 8 = .ok (.invokevirtual 87, 3) := by decide +kernel
theorem dX11_piece_11 : decode cX11_piece 11 = .ok (.istore_n 1, 1) := by decide +kernel
theorem dX11_piece_12 : decode cX11_piece 12 = .ok (.aload_n 0, 1) := by decide +kernel
theorem dX11_piece_13 : decode cX11_piece 13 = .ok (.getfield 12, 3) := by decide +kernel
theorem dX11_piece_16 : decode cX11_piece 16 = .ok (.getfield 91, 3) := by decide +kernel
theorem dX11_piece_19 : decode cX11_piece 19 = .ok (.iconst (-1), 1) := by decide +kernel
theorem dX11_piece_20 : decode cX11_piece 20 = .ok (.if_icmp .eq 14, 3) := by decide +kernel
theorem dX11_piece_23 : decode cX11_piece 23 = .ok (.bipush (-10), 2) := by decide +kernel
theorem dX11_piece_25 : decode cX11_piece 25 = .ok (.aload_n 0, 1) := by decide +kernel
theorem dX11_piece_26 : decode cX11_piece 26 = .ok (.getfield 12, 3) := by decide +kernel
theorem dX11_piece_29 : decode cX11_piece 29 = .ok (.getfield 91, 3) := by decide +kernel
theorem dX11_piece_32 : decode cX11_piece 32 = .ok (.isub, 1) := by decide +kernel
theorem dX11_piece_33 : decode cX11_piece 33 = .ok (.ireturn, 1) := by decide +kernel
theorem dX11_piece_34 : decode cX11_piece 34 = .ok (.aload_n 0, 1) := by decide +kernel
theorem dX11_piece_35 : decode cX11_piece 35 = .ok (.getfield 19, 3) := by decide +kernel
theorem dX11_piece_38 : decode cX11_piece 38 = .ok (.aload_n 0, 1) := by decide +kernel
theorem dX11_piece_39 : decode cX11_piece 39 = .ok (.getfield 23, 3) := by decide +kernel
theorem dX11_piece_42 : decode cX11_piece 42 = .ok (.invokevirtual 94, 3) := by decide +kernel
theorem dX11_piece_45 : decode cX11_piece 45 = .ok (.aload_n 0, 1) := by decide +kernel
theorem dX11_piece_46 : decode cX11_piece 46 = .ok (.getfield 29, 3) := by decide +kernel
theorem dX11_piece_49 : decode cX11_piece 49 = .ok (.invokevirtual 98, 3) := by decide +kernel
theorem dX11_piece_52 : decode cX11_piece 52 = .ok (.aload_n 0, 1) := by decide +kernel
theorem dX11_piece_53 : decode cX11_piece 53 = .ok (.getfield 42, 3) := by decide +kernel
theorem dX11_piece_56 : decode cX11_piece 56 = .ok (.iconst 0, 1) := by decide +kernel
theorem dX11_piece_57 : decode cX11_piece 57 = .ok (.putfield 101, 3) := by decide +kernel
theorem dX11_piece_60 : decode cX11_piece 60 = .ok (.aload_n 0, 1) := by decide +kernel
theorem dX11_piece_61 : decode cX11_piece 61 = .ok (.iconst 0, 1) := by decide +kernel
theorem dX11_piece_62 : decode cX11_piece 62 = .ok (.putfield 104, 3) := by decide +kernel
theorem dX11_piece_65 : decode cX11_piece 65 = .ok (.aload_n 0, 1) := by decide +kernel
theorem dX11_piece_66 : decode cX11_piece 66 = .ok (.getfield 12, 3) := by decide +kernel
theorem dX11_piece_69 : decode cX11_piece 69 = .ok (.iconst 0, 1) := by decide +kernel
theorem dX11_piece_70 : decode cX11_piece 70 = .ok (.putfield 83, 3) := by decide +kernel
theorem dX11_piece_73 : decode cX11_piece 73 = .ok (.iload_n 1, 1) := by decide +kernel
theorem dX11_piece_74 : decode cX11_piece 74 = .ok (.ireturn, 1) := by decide +kernel
set_option maxRecDepth 20000 in
theorem ggX11_section_X6_hasSection : GoodIn wsX11_section wsX6_hasSection := goodIn_r _ [9, 10, 71, 72, 73, 74, 75, 76, 77, 78, 79] (by decide +kernel) (by decide +kernel)
set_option maxRecDepth 20000 in
theorem gX11_section_X6_hasSection : GoodIn wsX11_section (wsV RX11 107 RX6 yX6_hasSection wsX6_hasSection) := goodIn_app (goodIn_of _ (by decide +kernel)) ggX11_section_X6_hasSection
set_option maxRecDepth 20000 in
theorem ggX11_section_X6_lengthOf : GoodIn wsX11_section wsX6_lengthOf := goodIn_r _ [14, 15, 16, 6, 7, 8, 9, 10, 71, 72, 73, 74, 75, 76, 77, 78, 79] (by decide +kernel) (by decide +kernel)
set_option maxRecDepth 20000 in
theorem gX11_section_X6_lengthOf : GoodIn wsX11_section (wsV RX11 110 RX6 yX6_lengthOf wsX6_lengthOf) := goodIn_app (goodIn_of _ (by decide +kernel)) ggX11_section_X6_lengthOf
set_option maxRecDepth 20000 in
theorem ggX11_section_X6_timesOf : GoodIn wsX11_section wsX6_timesOf := goodIn_r _ [20, 21, 16, 6, 7, 8, 9, 10, 71, 72, 73, 74, 75, 76, 77, 78, 79] (by decide +kernel) (by decide +kernel)
set_option maxRecDepth 20000 in
theorem gX11_section_X6_timesOf : GoodIn wsX11_section (wsV RX11 114 RX6 yX6_timesOf wsX6_timesOf) := goodIn_app (goodIn_of _ (by decide +kernel)) ggX11_section_X6_timesOf
set_option maxRecDepth 20000 in
theorem ggX11_section_X6_whoOf : GoodIn wsX11_section wsX6_whoOf := goodIn_r _ [25, 26, 16, 6, 7, 8, 9, 10, 71, 72, 73, 74, 75, 76, 77, 78, 79] (by decide +kernel) (by decide +kernel)
set_option maxRecDepth 20000 in
theorem gX11_section_X6_whoOf : GoodIn wsX11_section (wsV RX11 117 RX6 yX6_whoOf wsX6_whoOf) := goodIn_app (goodIn_of _ (by decide +kernel)) ggX11_section_X6_whoOf
set_option maxRecDepth 20000 in
theorem ggX11_section_X11_isIn : GoodIn wsX11_section wsX11_isIn := goodIn_r _ [30] (by decide +kernel) (by decide +kernel)
set_option maxRecDepth 20000 in
theorem gX11_section_X11_isIn : GoodIn wsX11_section (va_wsS RX11 123 yX11_isIn wsX11_isIn) := goodIn_app (goodIn_of _ (by decide +kernel)) ggX11_section_X11_isIn
set_option maxRecDepth 20000 in
theorem ggX11_section_X11_oneIf : GoodIn wsX11_section wsX11_oneIf := goodIn_r _ [33] (by decide +kernel) (by decide +kernel)
set_option maxRecDepth 20000 in
theorem gX11_section_X11_oneIf : GoodIn wsX11_section (va_wsS RX11 127 yX11_oneIf wsX11_oneIf) := goodIn_app (goodIn_of _ (by decide +kernel)) ggX11_section_X11_oneIf
set_option maxRecDepth 20000 in
theorem ggX11_section_X6_firstOf : GoodIn wsX11_section wsX6_firstOf := goodIn_r _ [37, 28, 29, 30, 38, 39, 40, 8, 41, 15, 21, 16, 6, 7, 9, 10, 71, 72, 73, 74, 75, 76, 77, 78, 79] (by decide +kernel) (by decide +kernel)
set_option maxRecDepth 20000 in
theorem gX11_section_X6_firstOf : GoodIn wsX11_section (wsV RX11 131 RX6 yX6_firstOf wsX6_firstOf) := goodIn_app (goodIn_of _ (by decide +kernel)) ggX11_section_X6_firstOf
set_option maxRecDepth 20000 in
theorem ggX11_section_X6_canBeCut : GoodIn wsX11_section wsX6_canBeCut := goodIn_r _ [45, 28, 29, 30, 46, 47, 48, 8, 49, 50, 51, 10, 52, 35, 36, 37, 38, 39, 40, 41, 15, 21, 16, 6, 7, 9, 71, 72, 73, 74, 75, 76, 77, 78, 79] (by decide +kernel) (by decide +kernel)
set_option maxRecDepth 20000 in
theorem gX11_section_X6_canBeCut : GoodIn wsX11_section (wsV RX11 138 RX6 yX6_canBeCut wsX6_canBeCut) := goodIn_app (goodIn_of _ (by decide +kernel)) ggX11_section_X6_canBeCut
theorem dX11_section_0 : decode cX11_section 0 = .ok (.aload_n 0, 1) := by decide +kernel
theorem dX11_section_1 : decode cX11_section 1 = .ok (.getfield 19, 3) := by decide +kernel
theorem dX11_section_4 : decode cX11_section 4 = .ok (.iload_n 1, 1) := by decide +kernel
theorem dX11_section_5 : decode cX11_section 5 = .ok (.invokevirtual 107, 3) := by decide +kernel
theorem dX11_section_8 : decode cX11_section 8 = .ok (.ifCond .ne 5, 3) := by decide +kernel
theorem dX11_section_11 : decode cX11_section 11 = .ok (.iconst (-1), 1) := by decide +kernel
theorem dX11_section_12 : decode cX11_section 12 = .ok (.ireturn, 1) := by decide +kernel
theorem dX11_section_13 : decode cX11_section 13 = .ok (.iload_n 2, 1) := by decide +kernel
theorem dX11_section_14 : decode cX11_section 14 = .ok (.tableswitch 141 0 5 #[38, 47, 56, 65, 80, 115], 38) := by decide +kernel
theorem dX11_section_52 : decode cX11_section 52 = .ok (.aload_n 0, 1) := by decide +kernel
theorem dX11_section_53 : decode cX11_section 53 = .ok (.getfield 19, 3) := by decide +kernel
theorem dX11_section_56 : decode cX11_section 56 = .ok (.iload_n 1, 1) := by decide +kernel
theorem dX11_section_57 : decode cX11_section 57 = .ok (.invokevirtual 110, 3) := by decide +kernel
theorem dX11_section_60 : decode cX11_section 60 = .ok (.ireturn, 1) := by decide +kernel
theorem dX11_section_61 : decode cX11_section 61 = .ok (.aload_n 0, 1) := by decide +kernel
theorem dX11_section_62 : decode cX11_section 62 = .ok (.getfield 19, 3) := by decide +kernel
theorem dX11_section_65 : decode cX11_section 65 = .ok (.iload_n 1, 1) := by decide +kernel
theorem dX11_section_66 : decode cX11_section 66 = .ok (.invokevirtual 114, 3) := by decide +kernel
theorem dX11_section_69 : decode cX11_section 69 = .ok (.ireturn, 1) := by decide +kernel
theorem dX11_section_70 : decode cX11_section 70 = .ok (.aload_n 0, 1) := by decide +kernel
theorem dX11_section_71 : decode cX11_section 71 = .ok (.getfield 19, 3) := by decide +kernel
theorem dX11_section_74 : decode cX11_section 74 = .ok (.iload_n 1, 1) := by decide +kernel
theorem dX11_section_75 : decode cX11_section 75 = .ok (.invokevirtual 117, 3) := by decide +kernel
theorem dX11_section_78 : decode cX11_section 78 = .ok (.ireturn, 1) := by decide +kernel
theorem dX11_section_79 : decode cX11_section 79 = .ok (.aload_n 0, 1) := by decide +kernel
theorem dX11_section_80 : decode cX11_section 80 = .ok (.getfield 29, 3) := by decide +kernel
theorem dX11_section_83 : decode cX11_section 83 = .ok (.getfield 120, 3) := by decide +kernel
theorem dX11_section_86 : decode cX11_section 86 = .ok (.iload_n 1, 1) := by decide +kernel
theorem dX11_section_87 : decode cX11_section 87 = .ok (.invokestatic 123, 3) := by decide +kernel
theorem dX11_section_90 : decode cX11_section 90 = .ok (.invokestatic 127, 3) := by decide +kernel
theorem dX11_section_93 : decode cX11_section 93 = .ok (.ireturn, 1) := by decide +kernel
theorem dX11_section_94 : decode cX11_section 94 = .ok (.aload_n 0, 1) := by decide +kernel
theorem dX11_section_95 : decode cX11_section 95 = .ok (.getfield 29, 3) := by decide +kernel
theorem dX11_section_98 : decode cX11_section 98 = .ok (.getfield 120, 3) := by decide +kernel
theorem dX11_section_101 : decode cX11_section 101 = .ok (.iload_n 1, 1) := by decide +kernel
theorem dX11_section_102 : decode cX11_section 102 = .ok (.invokestatic 123, 3) := by decide +kernel
theorem dX11_section_105 : decode cX11_section 105 = .ok (.ifCond .eq 8, 3) := by decide +kernel
theorem dX11_section_108 : decode cX11_section 108 = .ok (.bipush (-9), 2) := by decide +kernel
theorem dX11_section_110 : decode cX11_section 110 = .ok (.goto 18, 3) := by decide +kernel
theorem dX11_section_113 : decode cX11_section 113 = .ok (.aload_n 0, 1) := by decide +kernel
theorem dX11_section_114 : decode cX11_section 114 = .ok (.getfield 19, 3) := by decide +kernel
theorem dX11_section_117 : decode cX11_section 117 = .ok (.iload_n 1, 1) := by decide +kernel
theorem dX11_section_118 : decode cX11_section 118 = .ok (.aload_n 0, 1) := by decide +kernel
theorem dX11_section_119 : decode cX11_section 119 = .ok (.getfield 29, 3) := by decide +kernel
theorem dX11_section_122 : decode cX11_section 122 = .ok (.getfield 120, 3) := by decide +kernel
theorem dX11_section_125 : decode cX11_section 125 = .ok (.invokevirtual 131, 3) := by decide +kernel
theorem dX11_section_128 : decode cX11_section 128 = .ok (.ireturn, 1) := by decide +kernel
theorem dX11_section_129 : decode cX11_section 129 = .ok (.aload_n 0, 1) := by decide +kernel
theorem dX11_section_130 : decode cX11_section 130 = .ok (.getfield 19, 3) := by decide +kernel
theorem dX11_section_133 : decode cX11_section 133 = .ok (.iload_n 1, 1) := by decide +kernel
theorem dX11_section_134 : decode cX11_section 134 = .ok (.aload_n 0, 1) := by decide +kernel
theorem dX11_section_135 : decode cX11_section 135 = .ok (.getfield 29, 3) := by decide +kernel
theorem dX11_section_138 : decode cX11_section 138 = .ok (.getfield 120, 3) := by decide +kernel
theorem dX11_section_141 : decode cX11_section 141 = .ok (.aload_n 0, 1) := by decide +kernel
theorem dX11_section_142 : decode cX11_section 142 = .ok (.getfield 29, 3) := by decide +kernel
theorem dX11_section_145 : decode cX11_section 145 = .ok (.getfield 135, 3) := by decide +kernel
theorem dX11_section_148 : decode cX11_section 148 = .ok (.invokevirtual 138, 3) := by decide +kernel
theorem dX11_section_151 : decode cX11_section 151 = .ok (.invokestatic 127, 3) := by decide +kernel
theorem dX11_section_154 : decode cX11_section 154 = .ok (.ireturn, 1) := by decide +kernel
theorem dX11_section_155 : decode cX11_section 155 = .ok (.iconst (-1), 1) := by decide +kernel
theorem dX11_section_156 : decode cX11_section 156 = .ok (.ireturn, 1) := by decide +kernel
set_option maxRecDepth 20000 in
theorem ggX11_thing_X6_hasThing : GoodIn wsX11_thing wsX6_hasThing := goodIn_r _ [6, 7, 25, 26, 27, 28, 29, 30, 31, 32, 33] (by decide +kernel) (by decide +kernel)
set_option maxRecDepth 20000 in
theorem gX11_thing_X6_hasThing : GoodIn wsX11_thing (wsV RX11 141 RX6 yX6_hasThing wsX6_hasThing) := goodIn_app (goodIn_of _ (by decide +kernel)) ggX11_thing_X6_hasThing
set_option maxRecDepth 20000 in
theorem ggX11_thing_X6_minutesOf : GoodIn wsX11_thing wsX6_minutesOf := goodIn_r _ [11, 12, 13, 3, 4, 5, 6, 7, 25, 26, 27, 28, 29, 30, 31, 32, 33] (by decide +kernel) (by decide +kernel)
set_option maxRecDepth 20000 in
theorem gX11_thing_X6_minutesOf : GoodIn wsX11_thing (wsV RX11 144 RX6 yX6_minutesOf wsX6_minutesOf) := goodIn_app (goodIn_of _ (by decide +kernel)) ggX11_thing_X6_minutesOf
theorem dX11_thing_0 : decode cX11_thing 0 = .ok (.aload_n 0, 1) := by decide +kernel
theorem dX11_thing_1 : decode cX11_thing 1 = .ok (.getfield 19, 3) := by decide +kernel
theorem dX11_thing_4 : decode cX11_thing 4 = .ok (.iload_n 1, 1) := by decide +kernel
theorem dX11_thing_5 : decode cX11_thing 5 = .ok (.invokevirtual 141, 3) := by decide +kernel
theorem dX11_thing_8 : decode cX11_thing 8 = .ok (.ifCond .eq 14, 3) := by decide +kernel
theorem dX11_thing_11 : decode cX11_thing 11 = .ok (.aload_n 0, 1) := by decide +kernel
theorem dX11_thing_12 : decode cX11_thing 12 = .ok (.getfield 19, 3) := by decide +kernel
theorem dX11_thing_15 : decode cX11_thing 15 = .ok (.iload_n 1, 1) := by decide +kernel
theorem dX11_thing_16 : decode cX11_thing 16 = .ok (.invokevirtual 144, 3) := by decide +kernel
theorem dX11_thing_19 : decode cX11_thing 19 = .ok (.goto 4, 3) := by decide +kernel
theorem dX11_thing_22 : decode cX11_thing 22 = .ok (.iconst (-1), 1) := by decide +kernel
theorem dX11_thing_23 : decode cX11_thing 23 = .ok (.ireturn, 1) := by decide +kernel
set_option maxRecDepth 20000 in
theorem ggX11_bar_X11_isWithin : GoodIn wsX11_bar wsX11_isWithin := goodIn_r _ [7] (by decide +kernel) (by decide +kernel)
set_option maxRecDepth 20000 in
theorem gX11_bar_X11_isWithin : GoodIn wsX11_bar (va_wsS RX11 75 yX11_isWithin wsX11_isWithin) := goodIn_app (goodIn_of _ (by decide +kernel)) ggX11_bar_X11_isWithin
set_option maxRecDepth 20000 in
theorem ggX11_bar_X6_sectionAt : GoodIn wsX11_bar wsX6_sectionAt := goodIn_r _ [12, 13, 14, 6, 15, 16, 17, 18, 11, 19, 20, 21, 22, 23, 24, 25, 57, 58, 59, 60, 61, 62, 63, 64, 65] (by decide +kernel) (by decide +kernel)
set_option maxRecDepth 20000 in
theorem gX11_bar_X6_sectionAt : GoodIn wsX11_bar (wsV RX11 147 RX6 yX6_sectionAt wsX6_sectionAt) := goodIn_app (goodIn_of _ (by decide +kernel)) ggX11_bar_X6_sectionAt
set_option maxRecDepth 20000 in
theorem ggX11_bar_X6_lengthOf : GoodIn wsX11_bar wsX6_lengthOf := goodIn_r _ [29, 20, 22, 23, 24, 11, 25, 13, 57, 58, 59, 60, 61, 62, 63, 64, 65] (by decide +kernel) (by decide +kernel)
set_option maxRecDepth 20000 in
theorem gX11_bar_X6_lengthOf : GoodIn wsX11_bar (wsV RX11 110 RX6 yX6_lengthOf wsX6_lengthOf) := goodIn_app (goodIn_of _ (by decide +kernel)) ggX11_bar_X6_lengthOf
set_option maxRecDepth 20000 in
theorem ggX11_bar_X6_firstOf : GoodIn wsX11_bar wsX6_firstOf := goodIn_r _ [33, 14, 6, 15, 16, 17, 18, 11, 19, 20, 21, 22, 23, 24, 25, 13, 57, 58, 59, 60, 61, 62, 63, 64, 65] (by decide +kernel) (by decide +kernel)
set_option maxRecDepth 20000 in
theorem gX11_bar_X6_firstOf : GoodIn wsX11_bar (wsV RX11 131 RX6 yX6_firstOf wsX6_firstOf) := goodIn_app (goodIn_of _ (by decide +kernel)) ggX11_bar_X6_firstOf
set_option maxRecDepth 20000 in
theorem ggX11_bar_X6_whoOf : GoodIn wsX11_bar wsX6_whoOf := goodIn_r _ [37, 38, 22, 23, 24, 11, 25, 13, 57, 58, 59, 60, 61, 62, 63, 64, 65] (by decide +kernel) (by decide +kernel)
set_option maxRecDepth 20000 in
theorem gX11_bar_X6_whoOf : GoodIn wsX11_bar (wsV RX11 117 RX6 yX6_whoOf wsX6_whoOf) := goodIn_app (goodIn_of _ (by decide +kernel)) ggX11_bar_X6_whoOf
theorem dX11_bar_0 : decode cX11_bar 0 = .ok (.iload_n 1, 1) := by decide +kernel
theorem dX11_bar_1 : decode cX11_bar 1 = .ok (.iconst 0, 1) := by decide +kernel
theorem dX11_bar_2 : decode cX11_bar 2 = .ok (.sipush 999, 3) := by decide +kernel
theorem dX11_bar_5 : decode cX11_bar 5 = .ok (.invokestatic 75, 3) := by decide +kernel
theorem dX11_bar_8 : decode cX11_bar 8 = .ok (.ifCond .eq 12, 3) := by decide +kernel
theorem dX11_bar_11 : decode cX11_bar 11 = .ok (.iload_n 2, 1) := by decide +kernel
theorem dX11_bar_12 : decode cX11_bar 12 = .ok (.iconst 0, 1) := by decide +kernel
theorem dX11_bar_13 : decode cX11_bar 13 = .ok (.iconst 3, 1) := by decide +kernel
theorem dX11_bar_14 : decode cX11_bar 14 = .ok (.invokestatic 75, 3) := by decide +kernel
theorem dX11_bar_17 : decode cX11_bar 17 = .ok (.ifCond .ne 5, 3) := by decide +kernel
theorem dX11_bar_20 : decode cX11_bar 20 = .ok (.iconst (-1), 1) := by decide +kernel
theorem dX11_bar_21 : decode cX11_bar 21 = .ok (.ireturn, 1) := by decide +kernel
theorem dX11_bar_22 : decode cX11_bar 22 = .ok (.aload_n 0, 1) := by decide +kernel
theorem dX11_bar_23 : decode cX11_bar 23 = .ok (.getfield 19, 3) := by decide +kernel
theorem dX11_bar_26 : decode cX11_bar 26 = .ok (.iload_n 1, 1) := by decide +kernel
theorem dX11_bar_27 : decode cX11_bar 27 = .ok (.aload_n 0, 1) := by decide +kernel
theorem dX11_bar_28 : decode cX11_bar 28 = .ok (.getfield 29, 3) := by decide +kernel
theorem dX11_bar_31 : decode cX11_bar 31 = .ok (.getfield 120, 3) := by decide +kernel
theorem dX11_bar_34 : decode cX11_bar 34 = .ok (.invokevirtual 147, 3) := by decide +kernel
theorem dX11_bar_37 : decode cX11_bar 37 = .ok (.istore_n 3, 1) := by decide +kernel
theorem dX11_bar_38 : decode cX11_bar 38 = .ok (.aload_n 0, 1) := by decide +kernel
theorem dX11_bar_39 : decode cX11_bar 39 = .ok (.getfield 19, 3) := by decide +kernel
theorem dX11_bar_42 : decode cX11_bar 42 = .ok (.iload_n 3, 1) := by decide +kernel
theorem dX11_bar_43 : decode cX11_bar 43 = .ok (.invokevirtual 110, 3) := by decide +kernel
theorem dX11_bar_46 : decode cX11_bar 46 = .ok (.istore 4, 2) := by decide +kernel
theorem dX11_bar_48 : decode cX11_bar 48 = .ok (.iload 4, 2) := by decide +kernel
theorem dX11_bar_50 : decode cX11_bar 50 = .ok (.ifCond .ne 6, 3) := by decide +kernel
theorem dX11_bar_53 : decode cX11_bar 53 = .ok (.bipush (-9), 2) := by decide +kernel
theorem dX11_bar_55 : decode cX11_bar 55 = .ok (.ireturn, 1) := by decide +kernel
theorem dX11_bar_56 : decode cX11_bar 56 = .ok (.iload_n 1, 1) := by decide +kernel
theorem dX11_bar_57 : decode cX11_bar 57 = .ok (.aload_n 0, 1) := by decide +kernel
theorem dX11_bar_58 : decode cX11_bar 58 = .ok (.getfield 19, 3) := by decide +kernel
theorem dX11_bar_61 : decode cX11_bar 61 = .ok (.iload_n 3, 1) := by decide +kernel
theorem dX11_bar_62 : decode cX11_bar 62 = .ok (.aload_n 0, 1) := by decide +kernel
theorem dX11_bar_63 : decode cX11_bar 63 = .ok (.getfield 29, 3) := by decide +kernel
theorem dX11_bar_66 : decode cX11_bar 66 = .ok (.getfield 120, 3) := by decide +kernel
theorem dX11_bar_69 : decode cX11_bar 69 = .ok (.invokevirtual 131, 3) := by decide +kernel
theorem dX11_bar_72 : decode cX11_bar 72 = .ok (.isub, 1) := by decide +kernel
theorem dX11_bar_73 : decode cX11_bar 73 = .ok (.istore 5, 2) := by decide +kernel
theorem dX11_bar_75 : decode cX11_bar 75 = .ok (.iload_n 2, 1) := by decide +kernel
theorem dX11_bar_76 : decode cX11_bar 76 = .ok (.tableswitch 42 0 2 #[28, 30, 36], 28) := by decide +kernel
theorem dX11_bar_104 : decode cX11_bar 104 = .ok (.iload_n 3, 1) := by decide +kernel
theorem dX11_bar_105 : decode cX11_bar 105 = .ok (.ireturn, 1) := by decide +kernel
theorem dX11_bar_106 : decode cX11_bar 106 = .ok (.iload 5, 2) := by decide +kernel
theorem dX11_bar_108 : decode cX11_bar 108 = .ok (.iload 4, 2) := by decide +kernel
theorem dX11_bar_110 : decode cX11_bar 110 = .ok (.idiv, 1) := by decide +kernel
theorem dX11_bar_111 : decode cX11_bar 111 = .ok (.ireturn, 1) := by decide +kernel
theorem dX11_bar_112 : decode cX11_bar 112 = .ok (.iload 5, 2) := by decide +kernel
theorem dX11_bar_114 : decode cX11_bar 114 = .ok (.iload 4, 2) := by decide +kernel
theorem dX11_bar_116 : decode cX11_bar 116 = .ok (.irem, 1) := by decide +kernel
theorem dX11_bar_117 : decode cX11_bar 117 = .ok (.ireturn, 1) := by decide +kernel
theorem dX11_bar_118 : decode cX11_bar 118 = .ok (.aload_n 0, 1) := by decide +kernel
theorem dX11_bar_119 : decode cX11_bar 119 = .ok (.getfield 19, 3) := by decide +kernel
theorem dX11_bar_122 : decode cX11_bar 122 = .ok (.iload_n 3, 1) := by decide +kernel
theorem dX11_bar_123 : decode cX11_bar 123 = .ok (.invokevirtual 117, 3) := by decide +kernel
theorem dX11_bar_126 : decode cX11_bar 126 = .ok (.ireturn, 1) := by decide +kernel
set_option maxRecDepth 20000 in
theorem ggX11_bars_X11_isWithin : GoodIn wsX11_bars wsX11_isWithin := goodIn_r _ [10] (by decide +kernel) (by decide +kernel)
set_option maxRecDepth 20000 in
theorem gX11_bars_X11_isWithin : GoodIn wsX11_bars (va_wsS RX11 75 yX11_isWithin wsX11_isWithin) := goodIn_app (goodIn_of _ (by decide +kernel)) ggX11_bars_X11_isWithin
set_option maxRecDepth 20000 in
theorem ggX11_bars_X6_barsWith : GoodIn wsX11_bars wsX6_barsWith := goodIn_r _ [15, 16, 17, 18, 19, 14, 20, 21, 9, 22, 23, 24, 25, 26, 27, 28, 29, 30, 31, 32, 84, 85, 86, 87, 88, 89, 90, 91, 92] (by decide +kernel) (by decide +kernel)
set_option maxRecDepth 20000 in
theorem gX11_bars_X6_barsWith : GoodIn wsX11_bars (wsV RX11 150 RX6 yX6_barsWith wsX6_barsWith) := goodIn_app (goodIn_of _ (by decide +kernel)) ggX11_bars_X6_barsWith
set_option maxRecDepth 20000 in
theorem ggX11_bars_X2_remember : GoodIn wsX11_bars wsX2_remember := goodIn_r _ [37, 38, 39, 40, 41, 42, 43, 44, 45, 46, 47, 48, 49, 9, 50, 77, 78, 79, 80, 81, 82, 83] (by decide +kernel) (by decide +kernel)
set_option maxRecDepth 20000 in
theorem gX11_bars_X2_remember : GoodIn wsX11_bars (wsV RX11 153 RX2 yX2_remember wsX2_remember) := goodIn_app (goodIn_of _ (by decide +kernel)) ggX11_bars_X2_remember
set_option maxRecDepth 20000 in
theorem ggX11_bars_X6_noteBarWith : GoodIn wsX11_bars wsX6_noteBarWith := goodIn_r _ [54, 55, 56, 57, 58, 14, 59, 60, 61, 16, 17, 18, 19, 20, 21, 9, 22, 23, 24, 25, 26, 27, 28, 29, 30, 31, 32, 62, 63, 64, 65, 84, 85, 86, 87, 88, 89, 90, 91, 92] (by decide +kernel) (by decide +kernel)
set_option maxRecDepth 20000 in
theorem gX11_bars_X6_noteBarWith : GoodIn wsX11_bars (wsV RX11 156 RX6 yX6_noteBarWith wsX6_noteBarWith) := goodIn_app (goodIn_of _ (by decide +kernel)) ggX11_bars_X6_noteBarWith
theorem dX11_bars_0 : decode cX11_bars 0 = .ok (.iload_n 1, 1) := by decide +kernel
theorem dX11_bars_1 : decode cX11_bars 1 = .ok (.iconst 1, 1) := by decide +kernel
theorem dX11_bars_2 : decode cX11_bars 2 = .ok (.bipush 99, 2) := by decide +kernel
theorem dX11_bars_4 : decode cX11_bars 4 = .ok (.invokestatic 75, 3) := by decide +kernel
theorem dX11_bars_7 : decode cX11_bars 7 = .ok (.ifCond .ne 5, 3) := by decide +kernel
theorem dX11_bars_10 : decode cX11_bars 10 = .ok (.iconst (-1), 1) := by decide +kernel
theorem dX11_bars_11 : decode cX11_bars 11 = .ok (.ireturn, 1) := by decide +kernel
theorem dX11_bars_12 : decode cX11_bars 12 = .ok (.aload_n 0, 1) := by decide +kernel
theorem dX11_bars_13 : decode cX11_bars 13 = .ok (.getfield 29, 3) := by decide +kernel
theorem dX11_bars_16 : decode cX11_bars 16 = .ok (.getfield 135, 3) := by decide +kernel
theorem dX11_bars_19 : decode cX11_bars 19 = .ok (.iload_n 1, 1) := by decide +kernel
theorem dX11_bars_20 : decode cX11_bars 20 = .ok (.iadd, 1) := by decide +kernel
theorem dX11_bars_21 : decode cX11_bars 21 = .ok (.aload_n 0, 1) := by decide +kernel
theorem dX11_bars_22 : decode cX11_bars 22 = .ok (.getfield 19, 3) := by decide +kernel
theorem dX11_bars_25 : decode cX11_bars 25 = .ok (.aload_n 0, 1) := by decide +kernel
theorem dX11_bars_26 : decode cX11_bars 26 = .ok (.getfield 29, 3) := by decide +kernel
theorem dX11_bars_29 : decode cX11_bars 29 = .ok (.getfield 120, 3) := by decide +kernel
theorem dX11_bars_32 : decode cX11_bars 32 = .ok (.invokevirtual 150, 3) := by decide +kernel
theorem dX11_bars_35 : decode cX11_bars 35 = .ok (.if_icmp .le 6, 3) := by decide +kernel
theorem dX11_bars_38 : decode cX11_bars 38 = .ok (.bipush (-2), 2) := by decide +kernel
theorem dX11_bars_40 : decode cX11_bars 40 = .ok (.ireturn, 1) := by decide +kernel
theorem dX11_bars_41 : decode cX11_bars 41 = .ok (.aload_n 0, 1) := by decide +kernel
theorem dX11_bars_42 : decode cX11_bars 42 = .ok (.getfield 29, 3) := by decide +kernel
theorem dX11_bars_45 : decode cX11_bars 45 = .ok (.invokevirtual 153, 3) := by decide +kernel
theorem dX11_bars_48 : decode cX11_bars 48 = .ok (.aload_n 0, 1) := by decide +kernel
theorem dX11_bars_49 : decode cX11_bars 49 = .ok (.getfield 19, 3) := by decide +kernel
theorem dX11_bars_52 : decode cX11_bars 52 = .ok (.aload_n 0, 1) := by decide +kernel
theorem dX11_bars_53 : decode cX11_bars 53 = .ok (.getfield 29, 3) := by decide +kernel
theorem dX11_bars_56 : decode cX11_bars 56 = .ok (.getfield 120, 3) := by decide +kernel
theorem dX11_bars_59 : decode cX11_bars 59 = .ok (.invokevirtual 156, 3) := by decide +kernel
theorem dX11_bars_62 : decode cX11_bars 62 = .ok (.istore_n 2, 1) := by decide +kernel
theorem dX11_bars_63 : decode cX11_bars 63 = .ok (.aload_n 0, 1) := by decide +kernel
theorem dX11_bars_64 : decode cX11_bars 64 = .ok (.getfield 29, 3) := by decide +kernel
theorem dX11_bars_67 : decode cX11_bars 67 = .ok (.getfield 135, 3) := by decide +kernel
theorem dX11_bars_70 : decode cX11_bars 70 = .ok (.iload_n 2, 1) := by decide +kernel
theorem dX11_bars_71 : decode cX11_bars 71 = .ok (.if_icmp .gt 20, 3) := by decide +kernel
theorem dX11_bars_74 : decode cX11_bars 74 = .ok (.iload_n 2, 1) := by decide +kernel
theorem dX11_bars_75 : decode cX11_bars 75 = .ok (.aload_n 0, 1) := by decide +kernel
theorem dX11_bars_76 : decode cX11_bars 76 = .ok (.getfield 29, 3) := by decide +kernel
theorem dX11_bars_79 : decode cX11_bars 79 = .ok (.getfield 135, 3) := by decide +kernel
theorem dX11_bars_82 : decode cX11_bars 82 = .ok (.iload_n 1, 1) := by decide +kernel
theorem dX11_bars_83 : decode cX11_bars 83 = .ok (.iadd, 1) := by decide +kernel
theorem dX11_bars_84 : decode cX11_bars 84 = .ok (.if_icmp .ge 7, 3) := by decide +kernel
theorem dX11_bars_87 : decode cX11_bars 87 = .ok (.iconst 1, 1) := by decide +kernel
theorem dX11_bars_88 : decode cX11_bars 88 = .ok (.goto 4, 3) := by decide +kernel
theorem dX11_bars_91 : decode cX11_bars 91 = .ok (.iconst 0, 1) := by decide +kernel
theorem dX11_bars_92 : decode cX11_bars 92 = .ok (.istore_n 3, 1) := by decide +kernel
theorem dX11_bars_93 : decode cX11_bars 93 = .ok (.iload_n 3, 1) := by decide +kernel
theorem dX11_bars_94 : decode cX11_bars 94 = .ok (.ifCond .eq 28, 3) := by decide +kernel
theorem dX11_bars_97 : decode cX11_bars 97 = .ok (.aload_n 0, 1) := by decide +kernel
theorem dX11_bars_98 : decode cX11_bars 98 = .ok (.getfield 29, 3) := by decide +kernel
theorem dX11_bars_101 : decode cX11_bars 101 = .ok (.getfield 159, 3) := by decide +kernel
theorem dX11_bars_104 : decode cX11_bars 104 = .ok (.aload_n 0, 1) := by decide +kernel
theorem dX11_bars_105 : decode cX11_bars 105 = .ok (.getfield 29, 3) := by decide +kernel
theorem dX11_bars_108 : decode cX11_bars 108 = .ok (.getfield 135, 3) := by decide +kernel
theorem dX11_bars_111 : decode cX11_bars 111 = .ok (.if_icmp .ne 11, 3) := by decide +kernel
theorem dX11_bars_114 : decode cX11_bars 114 = .ok (.aload_n 0, 1) := by decide +kernel
theorem dX11_bars_115 : decode cX11_bars 115 = .ok (.getfield 29, 3) := by decide +kernel
theorem dX11_bars_118 : decode cX11_bars 118 = .ok (.iconst 1, 1) := by decide +kernel
theorem dX11_bars_119 : decode cX11_bars 119 = .ok (.putfield 162, 3) := by decide +kernel
theorem dX11_bars_122 : decode cX11_bars 122 = .ok (.aload_n 0, 1) := by decide +kernel
theorem dX11_bars_123 : decode cX11_bars 123 = .ok (.getfield 29, 3) := by decide +kernel
theorem dX11_bars_126 : decode cX11_bars 126 = .ok (.dup, 1) := by decide +kernel
theorem dX11_bars_127 : decode cX11_bars 127 = .ok (.getfield 135, 3) := by decide +kernel
theorem dX11_bars_130 : decode cX11_bars 130 = .ok (.iload_n 1, 1) := by decide +kernel
theorem dX11_bars_131 : decode cX11_bars 131 = .ok (.iadd, 1) := by decide +kernel
theorem dX11_bars_132 : decode cX11_bars 132 = .ok (.putfield 135, 3) := by decide +kernel
theorem dX11_bars_135 : decode cX11_bars 135 = .ok (.aload_n 0, 1) := by decide +kernel
theorem dX11_bars_136 : decode cX11_bars 136 = .ok (.getfield 29, 3) := by decide +kernel
theorem dX11_bars_139 : decode cX11_bars 139 = .ok (.dup, 1) := by decide +kernel
theorem dX11_bars_140 : decode cX11_bars 140 = .ok (.getfield 159, 3) := by decide +kernel
theorem dX11_bars_143 : decode cX11_bars 143 = .ok (.iload_n 1, 1) := by decide +kernel
theorem dX11_bars_144 : decode cX11_bars 144 = .ok (.iadd, 1) := by decide +kernel
theorem dX11_bars_145 : decode cX11_bars 145 = .ok (.putfield 159, 3) := by decide +kernel
theorem dX11_bars_148 : decode cX11_bars 148 = .ok (.aload_n 0, 1) := by decide +kernel
theorem dX11_bars_149 : decode cX11_bars 149 = .ok (.getfield 29, 3) := by decide +kernel
theorem dX11_bars_152 : decode cX11_bars 152 = .ok (.getfield 135, 3) := by decide +kernel
theorem dX11_bars_155 : decode cX11_bars 155 = .ok (.ireturn, 1) := by decide +kernel
set_option maxRecDepth 20000 in
theorem ggX11_slips_X11_isWithin : GoodIn wsX11_slips wsX11_isWithin := goodIn_r _ [7] (by decide +kernel) (by decide +kernel)
set_option maxRecDepth 20000 in
theorem gX11_slips_X11_isWithin : GoodIn wsX11_slips (va_wsS RX11 75 yX11_isWithin wsX11_isWithin) := goodIn_app (goodIn_of _ (by decide +kernel)) ggX11_slips_X11_isWithin
set_option maxRecDepth 20000 in
theorem ggX11_slips_X2_remember : GoodIn wsX11_slips wsX2_remember := goodIn_r _ [12, 13, 14, 15, 16, 17, 18, 19, 20, 21, 22, 23, 24, 6, 25, 37, 38, 39, 40, 41, 42, 43] (by decide +kernel) (by decide +kernel)
set_option maxRecDepth 20000 in
theorem gX11_slips_X2_remember : GoodIn wsX11_slips (wsV RX11 153 RX2 yX2_remember wsX2_remember) := goodIn_app (goodIn_of _ (by decide +kernel)) ggX11_slips_X2_remember
theorem dX11_slips_0 : decode cX11_slips 0 = .ok (.iload_n 1, 1) := by decide +kernel
theorem dX11_slips_1 : decode cX11_slips 1 = .ok (.ifCond .eq 14, 3) := by decide +kernel
theorem dX11_slips_4 : decode cX11_slips 4 = .ok (.iload_n 1, 1) := by decide +kernel
theorem dX11_slips_5 : decode cX11_slips 5 = .ok (.bipush (-9), 2) := by decide +kernel
theorem dX11_slips_7 : decode cX11_slips 7 = .ok (.bipush 9, 2) := by decide +kernel
theorem dX11_slips_9 : decode cX11_slips 9 = .ok (.invokestatic 75, 3) := by decide +kernel
theorem dX11_slips_12 : decode cX11_slips 12 = .ok (.ifCond .ne 6, 3) := by decide +kernel
theorem dX11_slips_15 : decode cX11_slips 15 = .ok (.ldc 166, 2) := by decide +kernel
theorem dX11_slips_17 : decode cX11_slips 17 = .ok (.ireturn, 1) := by decide +kernel
theorem dX11_slips_18 : decode cX11_slips 18 = .ok (.aload_n 0, 1) := by decide +kernel
theorem dX11_slips_19 : decode cX11_slips 19 = .ok (.getfield 29, 3) := by decide +kernel
theorem dX11_slips_22 : decode cX11_slips 22 = .ok (.invokevirtual 153, 3) := by decide +kernel
theorem dX11_slips_25 : decode cX11_slips 25 = .ok (.aload_n 0, 1) := by decide +kernel
theorem dX11_slips_26 : decode cX11_slips 26 = .ok (.getfield 29, 3) := by decide +kernel
theorem dX11_slips_29 : decode cX11_slips 29 = .ok (.dup, 1) := by decide +kernel
theorem dX11_slips_30 : decode cX11_slips 30 = .ok (.getfield 159, 3) := by decide +kernel
theorem dX11_slips_33 : decode cX11_slips 33 = .ok (.iload_n 1, 1) := by decide +kernel
theorem dX11_slips_34 : decode cX11_slips 34 = .ok (.iadd, 1) := by decide +kernel
theorem dX11_slips_35 : decode cX11_slips 35 = .ok (.putfield 159, 3) := by decide +kernel
theorem dX11_slips_38 : decode cX11_slips 38 = .ok (.aload_n 0, 1) := by decide +kernel
theorem dX11_slips_39 : decode cX11_slips 39 = .ok (.getfield 29, 3) := by decide +kernel
theorem dX11_slips_42 : decode cX11_slips 42 = .ok (.getfield 159, 3) := by decide +kernel
theorem dX11_slips_45 : decode cX11_slips 45 = .ok (.ireturn, 1) := by decide +kernel
set_option maxRecDepth 20000 in
theorem ggX11_cue_X6_sectionBegunBy : GoodIn wsX11_cue wsX6_sectionBegunBy := goodIn_r _ [11, 12, 13, 14, 10, 15, 16, 17, 18, 19, 20, 21, 22, 23, 24, 25, 26, 27, 28, 29, 30, 31, 32, 33, 86, 87, 88, 89, 90, 91, 92, 93, 94] (by decide +kernel) (by decide +kernel)
set_option maxRecDepth 20000 in
theorem gX11_cue_X6_sectionBegunBy : GoodIn wsX11_cue (wsV RX11 167 RX6 yX6_sectionBegunBy wsX6_sectionBegunBy) := goodIn_app (goodIn_of _ (by decide +kernel)) ggX11_cue_X6_sectionBegunBy
set_option maxRecDepth 20000 in
theorem ggX11_cue_X6_hasSection : GoodIn wsX11_cue wsX6_hasSection := goodIn_r _ [29, 16, 86, 87, 88, 89, 90, 91, 92, 93, 94] (by decide +kernel) (by decide +kernel)
set_option maxRecDepth 20000 in
theorem gX11_cue_X6_hasSection : GoodIn wsX11_cue (wsV RX11 107 RX6 yX6_hasSection wsX6_hasSection) := goodIn_app (goodIn_of _ (by decide +kernel)) ggX11_cue_X6_hasSection
set_option maxRecDepth 20000 in
theorem ggX11_cue_X2_remember : GoodIn wsX11_cue wsX2_remember := goodIn_r _ [39, 40, 41, 42, 43, 44, 45, 46, 47, 48, 49, 50, 51, 18, 52, 79, 80, 81, 82, 83, 84, 85] (by decide +kernel) (by decide +kernel)
set_option maxRecDepth 20000 in
theorem gX11_cue_X2_remember : GoodIn wsX11_cue (wsV RX11 153 RX2 yX2_remember wsX2_remember) := goodIn_app (goodIn_of _ (by decide +kernel)) ggX11_cue_X2_remember
set_option maxRecDepth 20000 in
theorem ggX11_cue_X6_whoOf : GoodIn wsX11_cue wsX6_whoOf := goodIn_r _ [56, 57, 26, 27, 28, 10, 29, 16, 86, 87, 88, 89, 90, 91, 92, 93, 94] (by decide +kernel) (by decide +kernel)
set_option maxRecDepth 20000 in
theorem gX11_cue_X6_whoOf : GoodIn wsX11_cue (wsV RX11 117 RX6 yX6_whoOf wsX6_whoOf) := goodIn_app (goodIn_of _ (by decide +kernel)) ggX11_cue_X6_whoOf
set_option maxRecDepth 20000 in
theorem ggX11_cue_X6_nearestFirst : GoodIn wsX11_cue wsX6_nearestFirst := goodIn_r _ [61, 62, 16, 63, 64, 65, 66, 17, 18, 19, 67, 54, 55, 10, 56, 57, 26, 27, 28, 29, 30, 31, 32, 33, 20, 21, 22, 23, 24, 25, 86, 87, 88, 89, 90, 91, 92, 93, 94] (by decide +kernel) (by decide +kernel)
set_option maxRecDepth 20000 in
theorem gX11_cue_X6_nearestFirst : GoodIn wsX11_cue (wsV RX11 170 RX6 yX6_nearestFirst wsX6_nearestFirst) := goodIn_app (goodIn_of _ (by decide +kernel)) ggX11_cue_X6_nearestFirst
theorem dX11_cue_0 : decode cX11_cue 0 = .ok (.aload_n 0, 1) := by decide +kernel
theorem dX11_cue_1 : decode cX11_cue 1 = .ok (.getfield 19, 3) := by decide +kernel
theorem dX11_cue_4 : decode cX11_cue 4 = .ok (.aload_n 0, 1) := by decide +kernel
theorem dX11_cue_5 : decode cX11_cue 5 = .ok (.getfield 29, 3) := by decide +kernel
theorem dX11_cue_8 : decode cX11_cue 8 = .ok (.getfield 135, 3) := by decide +kernel
theorem dX11_cue_11 : decode cX11_cue 11 = .ok (.aload_n 0, 1) := by decide +kernel
theorem dX11_cue_12 : decode cX11_cue 12 = .ok (.getfield 29, 3) := by decide +kernel
theorem dX11_cue_15 : decode cX11_cue 15 = .ok (.getfield 120, 3) := by decide +kernel
theorem dX11_cue_18 : decode cX11_cue 18 = .ok (.invokevirtual 167, 3) := by decide +kernel
theorem dX11_cue_21 : decode cX11_cue 21 = .ok (.istore_n 1, 1) := by decide +kernel
theorem dX11_cue_22 : decode cX11_cue 22 = .ok (.aload_n 0, 1) := by decide +kernel
theorem dX11_cue_23 : decode cX11_cue 23 = .ok (.getfield 19, 3) := by decide +kernel
theorem dX11_cue_26 : decode cX11_cue 26 = .ok (.iload_n 1, 1) := by decide +kernel
theorem dX11_cue_27 : decode cX11_cue 27 = .ok (.invokevirtual 107, 3) := by decide +kernel
theorem dX11_cue_30 : decode cX11_cue 30 = .ok (.ifCond .ne 6, 3) := by decide +kernel
theorem dX11_cue_33 : decode cX11_cue 33 = .ok (.ldc 166, 2) := by decide +kernel
theorem dX11_cue_35 : decode cX11_cue 35 = .ok (.ireturn, 1) := by decide +kernel
theorem dX11_cue_36 : decode cX11_cue 36 = .ok (.aload_n 0, 1) := by decide +kernel
theorem dX11_cue_37 : decode cX11_cue 37 = .ok (.getfield 29, 3) := by decide +kernel
theorem dX11_cue_40 : decode cX11_cue 40 = .ok (.invokevirtual 153, 3) := by decide +kernel
theorem dX11_cue_43 : decode cX11_cue 43 = .ok (.aload_n 0, 1) := by decide +kernel
theorem dX11_cue_44 : decode cX11_cue 44 = .ok (.getfield 29, 3) := by decide +kernel
theorem dX11_cue_47 : decode cX11_cue 47 = .ok (.aload_n 0, 1) := by decide +kernel
theorem dX11_cue_48 : decode cX11_cue 48 = .ok (.getfield 19, 3) := by decide +kernel
theorem dX11_cue_51 : decode cX11_cue 51 = .ok (.aload_n 0, 1) := by decide +kernel
theorem dX11_cue_52 : decode cX11_cue 52 = .ok (.getfield 19, 3) := by decide +kernel
theorem dX11_cue_55 : decode cX11_cue 55 = .ok (.iload_n 1, 1) := by decide +kernel
theorem dX11_cue_56 : decode cX11_cue 56 = .ok (.invokevirtual 117, 3) := by decide +kernel
theorem dX11_cue_59 : decode cX11_cue 59 = .ok (.aload_n 0, 1) := by decide +kernel
theorem dX11_cue_60 : decode cX11_cue 60 = .ok (.getfield 29, 3) := by decide +kernel
theorem dX11_cue_63 : decode cX11_cue 63 = .ok (.getfield 159, 3) := by decide +kernel
theorem dX11_cue_66 : decode cX11_cue 66 = .ok (.aload_n 0, 1) := by decide +kernel
theorem dX11_cue_67 : decode cX11_cue 67 = .ok (.getfield 29, 3) := by decide +kernel
theorem dX11_cue_70 : decode cX11_cue 70 = .ok (.getfield 120, 3) := by decide +kernel
theorem dX11_cue_73 : decode cX11_cue 73 = .ok (.invokevirtual 170, 3) := by decide +kernel
theorem dX11_cue_76 : decode cX11_cue 76 = .ok (.putfield 159, 3) := by decide +kernel
theorem dX11_cue_79 : decode cX11_cue 79 = .ok (.aload_n 0, 1) := by decide +kernel
theorem dX11_cue_80 : decode cX11_cue 80 = .ok (.getfield 29, 3) := by decide +kernel
theorem dX11_cue_83 : decode cX11_cue 83 = .ok (.getfield 159, 3) := by decide +kernel
theorem dX11_cue_86 : decode cX11_cue 86 = .ok (.ireturn, 1) := by decide +kernel
set_option maxRecDepth 20000 in
theorem ggX11_cuts_X6_hasSection : GoodIn wsX11_cuts wsX6_hasSection := goodIn_r _ [9, 10, 75, 76, 77, 78, 79, 80, 81, 82, 83] (by decide +kernel) (by decide +kernel)
set_option maxRecDepth 20000 in
theorem gX11_cuts_X6_hasSection : GoodIn wsX11_cuts (wsV RX11 107 RX6 yX6_hasSection wsX6_hasSection) := goodIn_app (goodIn_of _ (by decide +kernel)) ggX11_cuts_X6_hasSection
set_option maxRecDepth 20000 in
theorem ggX11_cuts_X6_canBeCut : GoodIn wsX11_cuts wsX6_canBeCut := goodIn_r _ [14, 15, 16, 17, 18, 19, 20, 8, 21, 22, 23, 10, 24, 25, 26, 27, 28, 29, 30, 31, 32, 33, 34, 6, 7, 9, 75, 76, 77, 78, 79, 80, 81, 82, 83] (by decide +kernel) (by decide +kernel)
set_option maxRecDepth 20000 in
theorem gX11_cuts_X6_canBeCut : GoodIn wsX11_cuts (wsV RX11 138 RX6 yX6_canBeCut wsX6_canBeCut) := goodIn_app (goodIn_of _ (by decide +kernel)) ggX11_cuts_X6_canBeCut
set_option maxRecDepth 20000 in
theorem ggX11_cuts_X2_remember : GoodIn wsX11_cuts wsX2_remember := goodIn_r _ [39, 40, 41, 42, 43, 44, 45, 46, 47, 48, 49, 50, 51, 16, 52, 68, 69, 70, 71, 72, 73, 74] (by decide +kernel) (by decide +kernel)
set_option maxRecDepth 20000 in
theorem gX11_cuts_X2_remember : GoodIn wsX11_cuts (wsV RX11 153 RX2 yX2_remember wsX2_remember) := goodIn_app (goodIn_of _ (by decide +kernel)) ggX11_cuts_X2_remember
set_option maxRecDepth 20000 in
theorem ggX11_cuts_X6_barsWith : GoodIn wsX11_cuts wsX6_barsWith := goodIn_r _ [56, 10, 24, 25, 26, 8, 27, 15, 16, 17, 28, 29, 30, 31, 32, 33, 34, 6, 7, 9, 75, 76, 77, 78, 79, 80, 81, 82, 83] (by decide +kernel) (by decide +kernel)
set_option maxRecDepth 20000 in
theorem gX11_cuts_X6_barsWith : GoodIn wsX11_cuts (wsV RX11 150 RX6 yX6_barsWith wsX6_barsWith) := goodIn_app (goodIn_of _ (by decide +kernel)) ggX11_cuts_X6_barsWith
theorem dX11_cuts_0 : decode cX11_cuts 0 = .ok (.aload_n 0, 1) := by decide +kernel
theorem dX11_cuts_1 : decode cX11_cuts 1 = .ok (.getfield 19, 3) := by decide +kernel
theorem dX11_cuts_4 : decode cX11_cuts 4 = .ok (.iload_n 1, 1) := by decide +kernel
theorem dX11_cuts_5 : decode cX11_cuts 5 = .ok (.invokevirtual 107, 3) := by decide +kernel
theorem dX11_cuts_8 : decode cX11_cuts 8 = .ok (.ifCond .ne 5, 3) := by decide +kernel
theorem dX11_cuts_11 : decode cX11_cuts 11 = .ok (.iconst (-1), 1) := by decide +kernel
theorem dX11_cuts_12 : decode cX11_cuts 12 = .ok (.ireturn, 1) := by decide +kernel
theorem dX11_cuts_13 : decode cX11_cuts 13 = .ok (.aload_n 0, 1) := by decide +kernel
theorem dX11_cuts_14 : decode cX11_cuts 14 = .ok (.getfield 19, 3) := by decide +kernel
theorem dX11_cuts_17 : decode cX11_cuts 17 = .ok (.iload_n 1, 1) := by decide +kernel
theorem dX11_cuts_18 : decode cX11_cuts 18 = .ok (.aload_n 0, 1) := by decide +kernel
theorem dX11_cuts_19 : decode cX11_cuts 19 = .ok (.getfield 29, 3) := by decide +kernel
theorem dX11_cuts_22 : decode cX11_cuts 22 = .ok (.getfield 120, 3) := by decide +kernel
theorem dX11_cuts_25 : decode cX11_cuts 25 = .ok (.aload_n 0, 1) := by decide +kernel
theorem dX11_cuts_26 : decode cX11_cuts 26 = .ok (.getfield 29, 3) := by decide +kernel
theorem dX11_cuts_29 : decode cX11_cuts 29 = .ok (.getfield 135, 3) := by decide +kernel
theorem dX11_cuts_32 : decode cX11_cuts 32 = .ok (.invokevirtual 138, 3) := by decide +kernel
theorem dX11_cuts_35 : decode cX11_cuts 35 = .ok (.ifCond .ne 6, 3) := by decide +kernel
theorem dX11_cuts_38 : decode cX11_cuts 38 = .ok (.bipush (-2), 2) := by decide +kernel
theorem dX11_cuts_40 : decode cX11_cuts 40 = .ok (.ireturn, 1) := by decide +kernel
theorem dX11_cuts_41 : decode cX11_cuts 41 = .ok (.aload_n 0, 1) := by decide +kernel
theorem dX11_cuts_42 : decode cX11_cuts 42 = .ok (.getfield 29, 3) := by decide +kernel
theorem dX11_cuts_45 : decode cX11_cuts 45 = .ok (.invokevirtual 153, 3) := by decide +kernel
theorem dX11_cuts_48 : decode cX11_cuts 48 = .ok (.aload_n 0, 1) := by decide +kernel
theorem dX11_cuts_49 : decode cX11_cuts 49 = .ok (.getfield 29, 3) := by decide +kernel
theorem dX11_cuts_52 : decode cX11_cuts 52 = .ok (.dup, 1) := by decide +kernel
theorem dX11_cuts_53 : decode cX11_cuts 53 = .ok (.getfield 120, 3) := by decide +kernel
theorem dX11_cuts_56 : decode cX11_cuts 56 = .ok (.iconst 1, 1) := by decide +kernel
theorem dX11_cuts_57 : decode cX11_cuts 57 = .ok (.iload_n 1, 1) := by decide +kernel
theorem dX11_cuts_58 : decode cX11_cuts 58 = .ok (.ishl, 1) := by decide +kernel
theorem dX11_cuts_59 : decode cX11_cuts 59 = .ok (.ior, 1) := by decide +kernel
theorem dX11_cuts_60 : decode cX11_cuts 60 = .ok (.putfield 120, 3) := by decide +kernel
theorem dX11_cuts_63 : decode cX11_cuts 63 = .ok (.aload_n 0, 1) := by decide +kernel
theorem dX11_cuts_64 : decode cX11_cuts 64 = .ok (.getfield 19, 3) := by decide +kernel
theorem dX11_cuts_67 : decode cX11_cuts 67 = .ok (.aload_n 0, 1) := by decide +kernel
theorem dX11_cuts_68 : decode cX11_cuts 68 = .ok (.getfield 29, 3) := by decide +kernel
theorem dX11_cuts_71 : decode cX11_cuts 71 = .ok (.getfield 120, 3) := by decide +kernel
theorem dX11_cuts_74 : decode cX11_cuts 74 = .ok (.invokevirtual 150, 3) := by decide +kernel
theorem dX11_cuts_77 : decode cX11_cuts 77 = .ok (.ireturn, 1) := by decide +kernel
set_option maxRecDepth 20000 in
theorem ggX11_waits_X11_isWithin : GoodIn wsX11_waits wsX11_isWithin := goodIn_r _ [6] (by decide +kernel) (by decide +kernel)
set_option maxRecDepth 20000 in
theorem gX11_waits_X11_isWithin : GoodIn wsX11_waits (va_wsS RX11 75 yX11_isWithin wsX11_isWithin) := goodIn_app (goodIn_of _ (by decide +kernel)) ggX11_waits_X11_isWithin
set_option maxRecDepth 20000 in
theorem ggX11_waits_X2_remember : GoodIn wsX11_waits wsX2_remember := goodIn_r _ [11, 12, 13, 14, 15, 16, 17, 18, 19, 20, 21, 22, 23, 5, 24, 36, 37, 38, 39, 40, 41, 42] (by decide +kernel) (by decide +kernel)
set_option maxRecDepth 20000 in
theorem gX11_waits_X2_remember : GoodIn wsX11_waits (wsV RX11 153 RX2 yX2_remember wsX2_remember) := goodIn_app (goodIn_of _ (by decide +kernel)) ggX11_waits_X2_remember
theorem dX11_waits_0 : decode cX11_waits 0 = .ok (.iload_n 1, 1) := by decide +kernel
theorem dX11_waits_1 : decode cX11_waits 1 = .ok (.iconst 1, 1) := by decide +kernel
theorem dX11_waits_2 : decode cX11_waits 2 = .ok (.bipush 99, 2) := by decide +kernel
theorem dX11_waits_4 : decode cX11_waits 4 = .ok (.invokestatic 75, 3) := by decide +kernel
theorem dX11_waits_7 : decode cX11_waits 7 = .ok (.ifCond .ne 5, 3) := by decide +kernel
theorem dX11_waits_10 : decode cX11_waits 10 = .ok (.iconst (-1), 1) := by decide +kernel
theorem dX11_waits_11 : decode cX11_waits 11 = .ok (.ireturn, 1) := by decide +kernel
theorem dX11_waits_12 : decode cX11_waits 12 = .ok (.aload_n 0, 1) := by decide +kernel
theorem dX11_waits_13 : decode cX11_waits 13 = .ok (.getfield 29, 3) := by decide +kernel
theorem dX11_waits_16 : decode cX11_waits 16 = .ok (.getfield 174, 3) := by decide +kernel
theorem dX11_waits_19 : decode cX11_waits 19 = .ok (.iload_n 1, 1) := by decide +kernel
theorem dX11_waits_20 : decode cX11_waits 20 = .ok (.iadd, 1) := by decide +kernel
theorem dX11_waits_21 : decode cX11_waits 21 = .ok (.sipush 999, 3) := by decide +kernel
theorem dX11_waits_24 : decode cX11_waits 24 = .ok (.if_icmp .le 6, 3) := by decide +kernel
theorem dX11_waits_27 : decode cX11_waits 27 = .ok (.bipush (-2), 2) := by decide +kernel
theorem dX11_waits_29 : decode cX11_waits 29 = .ok (.ireturn, 1) := by decide +kernel
theorem dX11_waits_30 : decode cX11_waits 30 = .ok (.aload_n 0, 1) := by decide +kernel
theorem dX11_waits_31 : decode cX11_waits 31 = .ok (.getfield 29, 3) := by decide +kernel
theorem dX11_waits_34 : decode cX11_waits 34 = .ok (.invokevirtual 153, 3) := by decide +kernel
theorem dX11_waits_37 : decode cX11_waits 37 = .ok (.aload_n 0, 1) := by decide +kernel
theorem dX11_waits_38 : decode cX11_waits 38 = .ok (.getfield 29, 3) := by decide +kernel
theorem dX11_waits_41 : decode cX11_waits 41 = .ok (.dup, 1) := by decide +kernel
theorem dX11_waits_42 : decode cX11_waits 42 = .ok (.getfield 174, 3) := by decide +kernel
theorem dX11_waits_45 : decode cX11_waits 45 = .ok (.iload_n 1, 1) := by decide +kernel
theorem dX11_waits_46 : decode cX11_waits 46 = .ok (.iadd, 1) := by decide +kernel
theorem dX11_waits_47 : decode cX11_waits 47 = .ok (.putfield 174, 3) := by decide +kernel
theorem dX11_waits_50 : decode cX11_waits 50 = .ok (.aload_n 0, 1) := by decide +kernel
theorem dX11_waits_51 : decode cX11_waits 51 = .ok (.getfield 29, 3) := by decide +kernel
theorem dX11_waits_54 : decode cX11_waits 54 = .ok (.getfield 174, 3) := by decide +kernel
theorem dX11_waits_57 : decode cX11_waits 57 = .ok (.ireturn, 1) := by decide +kernel
set_option maxRecDepth 20000 in
theorem ggX11_undo_X2_recall : GoodIn wsX11_undo wsX2_recall := goodIn_r _ [7, 8, 9, 10, 11, 12, 13, 14, 26, 27, 28, 29, 30, 31, 32] (by decide +kernel) (by decide +kernel)
set_option maxRecDepth 20000 in
theorem gX11_undo_X2_recall : GoodIn wsX11_undo (wsV RX11 180 RX2 yX2_recall wsX2_recall) := goodIn_app (goodIn_of _ (by decide +kernel)) ggX11_undo_X2_recall
theorem dX11_undo_0 : decode cX11_undo 0 = .ok (.aload_n 0, 1) := by decide +kernel
theorem dX11_undo_1 : decode cX11_undo 1 = .ok (.getfield 29, 3) := by decide +kernel
theorem dX11_undo_4 : decode cX11_undo 4 = .ok (.getfield 177, 3) := by decide +kernel
theorem dX11_undo_7 : decode cX11_undo 7 = .ok (.ifCond .ne 6, 3) := by decide +kernel
theorem dX11_undo_10 : decode cX11_undo 10 = .ok (.bipush (-2), 2) := by decide +kernel
theorem dX11_undo_12 : decode cX11_undo 12 = .ok (.ireturn, 1) := by decide +kernel
theorem dX11_undo_13 : decode cX11_undo 13 = .ok (.aload_n 0, 1) := by decide +kernel
theorem dX11_undo_14 : decode cX11_undo 14 = .ok (.getfield 29, 3) := by decide +kernel
theorem dX11_undo_17 : decode cX11_undo 17 = .ok (.invokevirtual 180, 3) := by decide +kernel
theorem dX11_undo_20 : decode cX11_undo 20 = .ok (.aload_n 0, 1) := by decide +kernel
theorem dX11_undo_21 : decode cX11_undo 21 = .ok (.getfield 29, 3) := by decide +kernel
theorem dX11_undo_24 : decode cX11_undo 24 = .ok (.getfield 177, 3) := by decide +kernel
theorem dX11_undo_27 : decode cX11_undo 27 = .ok (.ireturn, 1) := by decide +kernel
set_option maxRecDepth 20000 in
theorem ggX11_now_X11_oneIf : GoodIn wsX11_now wsX11_oneIf := goodIn_r _ [13] (by decide +kernel) (by decide +kernel)
set_option maxRecDepth 20000 in
theorem gX11_now_X11_oneIf : GoodIn wsX11_now (va_wsS RX11 127 yX11_oneIf wsX11_oneIf) := goodIn_app (goodIn_of _ (by decide +kernel)) ggX11_now_X11_oneIf
set_option maxRecDepth 20000 in
theorem ggX11_now_X6_barsWith : GoodIn wsX11_now wsX6_barsWith := goodIn_r _ [18, 19, 20, 21, 22, 17, 23, 24, 12, 25, 26, 27, 28, 29, 30, 31, 32, 33, 34, 35, 81, 82, 83, 84, 85, 86, 87, 88, 89] (by decide +kernel) (by decide +kernel)
set_option maxRecDepth 20000 in
theorem gX11_now_X6_barsWith : GoodIn wsX11_now (wsV RX11 150 RX6 yX6_barsWith wsX6_barsWith) := goodIn_app (goodIn_of _ (by decide +kernel)) ggX11_now_X6_barsWith
set_option maxRecDepth 20000 in
theorem ggX11_now_X6_noteBarWith : GoodIn wsX11_now wsX6_noteBarWith := goodIn_r _ [39, 40, 41, 42, 43, 17, 44, 45, 46, 19, 20, 21, 22, 23, 24, 12, 25, 26, 27, 28, 29, 30, 31, 32, 33, 34, 35, 47, 48, 49, 50, 81, 82, 83, 84, 85, 86, 87, 88, 89] (by decide +kernel) (by decide +kernel)
set_option maxRecDepth 20000 in
theorem gX11_now_X6_noteBarWith : GoodIn wsX11_now (wsV RX11 156 RX6 yX6_noteBarWith wsX6_noteBarWith) := goodIn_app (goodIn_of _ (by decide +kernel)) ggX11_now_X6_noteBarWith
set_option maxRecDepth 20000 in
theorem ggX11_now_X11_cuttableNow : GoodIn wsX11_now wsX11_cuttableNow := goodIn_r _ [54, 7, 1, 5, 2, 55, 56, 57, 17, 58, 19, 59, 60, 61, 62, 24, 12, 25, 41, 42, 43, 44, 45, 46, 20, 21, 22, 23, 26, 27, 28, 29, 30, 31, 32, 33, 34, 35, 63, 64, 65, 66, 67, 68, 69, 70, 71, 72, 73, 74, 75, 76, 77, 78, 79, 80, 81, 82, 83, 84, 85, 86, 87, 88, 89] (by decide +kernel) (by decide +kernel)
set_option maxRecDepth 20000 in
theorem gX11_now_X11_cuttableNow : GoodIn wsX11_now (wsV RX11 186 RX11 yX11_cuttableNow wsX11_cuttableNow) := goodIn_app (goodIn_of _ (by decide +kernel)) ggX11_now_X11_cuttableNow
theorem dX11_now_0 : decode cX11_now 0 = .ok (.iload_n 1, 1) := by decide +kernel
theorem dX11_now_1 : decode cX11_now 1 = .ok (.tableswitch 212 0 8 #[51, 59, 67, 75, 83, 94, 109, 139, 177], 51) := by decide +kernel
theorem dX11_now_52 : decode cX11_now 52 = .ok (.aload_n 0, 1) := by decide +kernel
theorem dX11_now_53 : decode cX11_now 53 = .ok (.getfield 29, 3) := by decide +kernel
theorem dX11_now_56 : decode cX11_now 56 = .ok (.getfield 135, 3) := by decide +kernel
theorem dX11_now_59 : decode cX11_now 59 = .ok (.ireturn, 1) := by decide +kernel
theorem dX11_now_60 : decode cX11_now 60 = .ok (.aload_n 0, 1) := by decide +kernel
theorem dX11_now_61 : decode cX11_now 61 = .ok (.getfield 29, 3) := by decide +kernel
theorem dX11_now_64 : decode cX11_now 64 = .ok (.getfield 159, 3) := by decide +kernel
theorem dX11_now_67 : decode cX11_now 67 = .ok (.ireturn, 1) := by decide +kernel
theorem dX11_now_68 : decode cX11_now 68 = .ok (.aload_n 0, 1) := by decide +kernel
theorem dX11_now_69 : decode cX11_now 69 = .ok (.getfield 29, 3) := by decide +kernel
theorem dX11_now_72 : decode cX11_now 72 = .ok (.getfield 174, 3) := by decide +kernel
theorem dX11_now_75 : decode cX11_now 75 = .ok (.ireturn, 1) := by decide +kernel
theorem dX11_now_76 : decode cX11_now 76 = .ok (.aload_n 0, 1) := by decide +kernel
theorem dX11_now_77 : decode cX11_now 77 = .ok (.getfield 29, 3) := by decide +kernel
theorem dX11_now_80 : decode cX11_now 80 = .ok (.getfield 120, 3) := by decide +kernel
theorem dX11_now_83 : decode cX11_now 83 = .ok (.ireturn, 1) := by decide +kernel
theorem dX11_now_84 : decode cX11_now 84 = .ok (.aload_n 0, 1) := by decide +kernel
theorem dX11_now_85 : decode cX11_now 85 = .ok (.getfield 29, 3) := by decide +kernel
theorem dX11_now_88 : decode cX11_now 88 = .ok (.getfield 162, 3) := by decide +kernel
theorem dX11_now_91 : decode cX11_now 91 = .ok (.invokestatic 127, 3) := by decide +kernel
theorem dX11_now_94 : decode cX11_now 94 = .ok (.ireturn, 1) := by decide +kernel
theorem dX11_now_95 : decode cX11_now 95 = .ok (.aload_n 0, 1) := by decide +kernel
theorem dX11_now_96 : decode cX11_now 96 = .ok (.getfield 19, 3) := by decide +kernel
theorem dX11_now_99 : decode cX11_now 99 = .ok (.aload_n 0, 1) := by decide +kernel
theorem dX11_now_100 : decode cX11_now 100 = .ok (.getfield 29, 3) := by decide +kernel
theorem dX11_now_103 : decode cX11_now 103 = .ok (.getfield 120, 3) := by decide +kernel
theorem dX11_now_106 : decode cX11_now 106 = .ok (.invokevirtual 150, 3) := by decide +kernel
theorem dX11_now_109 : decode cX11_now 109 = .ok (.ireturn, 1) := by decide +kernel
theorem dX11_now_110 : decode cX11_now 110 = .ok (.aload_n 0, 1) := by decide +kernel
theorem dX11_now_111 : decode cX11_now 111 = .ok (.getfield 19, 3) := by decide +kernel
theorem dX11_now_114 : decode cX11_now 114 = .ok (.getfield 183, 3) := by decide +kernel
theorem dX11_now_117 : decode cX11_now 117 = .ok (.ifCond .ne 8, 3) := by decide +kernel
theorem dX11_now_120 : decode cX11_now 120 = .ok (.bipush (-9), 2) := by decide +kernel
theorem dX11_now_122 : decode cX11_now 122 = .ok (.goto 17, 3) := by decide +kernel
theorem dX11_now_125 : decode cX11_now 125 = .ok (.aload_n 0, 1) := by decide +kernel
theorem dX11_now_126 : decode cX11_now 126 = .ok (.getfield 19, 3) := by decide +kernel
theorem dX11_now_129 : decode cX11_now 129 = .ok (.aload_n 0, 1) := by decide +kernel
theorem dX11_now_130 : decode cX11_now 130 = .ok (.getfield 29, 3) := by decide +kernel
theorem dX11_now_133 : decode cX11_now 133 = .ok (.getfield 120, 3) := by decide +kernel
theorem dX11_now_136 : decode cX11_now 136 = .ok (.invokevirtual 156, 3) := by decide +kernel
theorem dX11_now_139 : decode cX11_now 139 = .ok (.ireturn, 1) := by decide +kernel
theorem dX11_now_140 : decode cX11_now 140 = .ok (.aload_n 0, 1) := by decide +kernel
theorem dX11_now_141 : decode cX11_now 141 = .ok (.getfield 19, 3) := by decide +kernel
theorem dX11_now_144 : decode cX11_now 144 = .ok (.getfield 183, 3) := by decide +kernel
theorem dX11_now_147 : decode cX11_now 147 = .ok (.ifCond .ne 8, 3) := by decide +kernel
theorem dX11_now_150 : decode cX11_now 150 = .ok (.ldc 166, 2) := by decide +kernel
theorem dX11_now_152 : decode cX11_now 152 = .ok (.goto 25, 3) := by decide +kernel
theorem dX11_now_155 : decode cX11_now 155 = .ok (.aload_n 0, 1) := by decide +kernel
theorem dX11_now_156 : decode cX11_now 156 = .ok (.getfield 19, 3) := by decide +kernel
theorem dX11_now_159 : decode cX11_now 159 = .ok (.aload_n 0, 1) := by decide +kernel
theorem dX11_now_160 : decode cX11_now 160 = .ok (.getfield 29, 3) := by decide +kernel
theorem dX11_now_163 : decode cX11_now 163 = .ok (.getfield 120, 3) := by decide +kernel
theorem dX11_now_166 : decode cX11_now 166 = .ok (.invokevirtual 156, 3) := by decide +kernel
theorem dX11_now_169 : decode cX11_now 169 = .ok (.aload_n 0, 1) := by decide +kernel
theorem dX11_now_170 : decode cX11_now 170 = .ok (.getfield 29, 3) := by decide +kernel
theorem dX11_now_173 : decode cX11_now 173 = .ok (.getfield 135, 3) := by decide +kernel
theorem dX11_now_176 : decode cX11_now 176 = .ok (.isub, 1) := by decide +kernel
theorem dX11_now_177 : decode cX11_now 177 = .ok (.ireturn, 1) := by decide +kernel
theorem dX11_now_178 : decode cX11_now 178 = .ok (.aload_n 0, 1) := by decide +kernel
theorem dX11_now_179 : decode cX11_now 179 = .ok (.getfield 19, 3) := by decide +kernel
theorem dX11_now_182 : decode cX11_now 182 = .ok (.getfield 183, 3) := by decide +kernel
theorem dX11_now_185 : decode cX11_now 185 = .ok (.ifCond .ne 8, 3) := by decide +kernel
theorem dX11_now_188 : decode cX11_now 188 = .ok (.bipush (-9), 2) := by decide +kernel
theorem dX11_now_190 : decode cX11_now 190 = .ok (.goto 22, 3) := by decide +kernel
theorem dX11_now_193 : decode cX11_now 193 = .ok (.aload_n 0, 1) := by decide +kernel
theorem dX11_now_194 : decode cX11_now 194 = .ok (.getfield 19, 3) := by decide +kernel
theorem dX11_now_197 : decode cX11_now 197 = .ok (.aload_n 0, 1) := by decide +kernel
theorem dX11_now_198 : decode cX11_now 198 = .ok (.getfield 29, 3) := by decide +kernel
theorem dX11_now_201 : decode cX11_now 201 = .ok (.getfield 120, 3) := by decide +kernel
theorem dX11_now_204 : decode cX11_now 204 = .ok (.aload_n 0, 1) := by decide +kernel
theorem dX11_now_205 : decode cX11_now 205 = .ok (.invokevirtual 186, 3) := by decide +kernel
theorem dX11_now_208 : decode cX11_now 208 = .ok (.ior, 1) := by decide +kernel
theorem dX11_now_209 : decode cX11_now 209 = .ok (.invokevirtual 156, 3) := by decide +kernel
theorem dX11_now_212 : decode cX11_now 212 = .ok (.ireturn, 1) := by decide +kernel
theorem dX11_now_213 : decode cX11_now 213 = .ok (.ldc 166, 2) := by decide +kernel
theorem dX11_now_215 : decode cX11_now 215 = .ok (.ireturn, 1) := by decide +kernel
set_option maxRecDepth 20000 in
theorem ggX11_trim_X11_isWithin : GoodIn wsX11_trim wsX11_isWithin := goodIn_r _ [8] (by decide +kernel) (by decide +kernel)
set_option maxRecDepth 20000 in
theorem gX11_trim_X11_isWithin : GoodIn wsX11_trim (va_wsS RX11 75 yX11_isWithin wsX11_isWithin) := goodIn_app (goodIn_of _ (by decide +kernel)) ggX11_trim_X11_isWithin
set_option maxRecDepth 20000 in
theorem ggX11_trim_X11_cuttableNow : GoodIn wsX11_trim wsX11_cuttableNow := goodIn_r _ [12, 1, 3, 4, 13, 14, 15, 16, 17, 18, 19, 20, 21, 22, 23, 24, 7, 25, 26, 27, 28, 29, 30, 31, 32, 33, 34, 35, 36, 37, 38, 39, 40, 41, 42, 43, 44, 45, 66, 67, 68, 69, 70, 71, 72, 73, 74, 75, 76, 86, 87, 88, 89, 90, 91, 92, 77, 78, 79, 80, 81, 82, 83, 84, 85] (by decide +kernel) (by decide +kernel)
set_option maxRecDepth 20000 in
theorem gX11_trim_X11_cuttableNow : GoodIn wsX11_trim (wsV RX11 186 RX11 yX11_cuttableNow wsX11_cuttableNow) := goodIn_app (goodIn_of _ (by decide +kernel)) ggX11_trim_X11_cuttableNow
set_option maxRecDepth 20000 in
theorem ggX11_trim_X6_fewestCuts : GoodIn wsX11_trim wsX6_fewestCuts := goodIn_r _ [49, 50, 51, 52, 53, 54, 55, 56, 57, 58, 59, 17, 60, 61, 26, 27, 28, 29, 30, 31, 19, 32, 33, 34, 35, 24, 7, 25, 36, 37, 38, 39, 40, 41, 42, 43, 44, 45, 62, 63, 64, 65, 77, 78, 79, 80, 81, 82, 83, 84, 85] (by decide +kernel) (by decide +kernel)
set_option maxRecDepth 20000 in
theorem gX11_trim_X6_fewestCuts : GoodIn wsX11_trim (wsV RX11 190 RX6 yX6_fewestCuts wsX6_fewestCuts) := goodIn_app (goodIn_of _ (by decide +kernel)) ggX11_trim_X6_fewestCuts
theorem dX11_trim_0 : decode cX11_trim 0 = .ok (.iload_n 1, 1) := by decide +kernel
theorem dX11_trim_1 : decode cX11_trim 1 = .ok (.iconst 0, 1) := by decide +kernel
theorem dX11_trim_2 : decode cX11_trim 2 = .ok (.sipush 999, 3) := by decide +kernel
theorem dX11_trim_5 : decode cX11_trim 5 = .ok (.invokestatic 75, 3) := by decide +kernel
theorem dX11_trim_8 : decode cX11_trim 8 = .ok (.ifCond .ne 5, 3) := by decide +kernel
theorem dX11_trim_11 : decode cX11_trim 11 = .ok (.iconst (-1), 1) := by decide +kernel
theorem dX11_trim_12 : decode cX11_trim 12 = .ok (.ireturn, 1) := by decide +kernel
theorem dX11_trim_13 : decode cX11_trim 13 = .ok (.aload_n 0, 1) := by decide +kernel
theorem dX11_trim_14 : decode cX11_trim 14 = .ok (.getfield 19, 3) := by decide +kernel
theorem dX11_trim_17 : decode cX11_trim 17 = .ok (.getfield 183, 3) := by decide +kernel
theorem dX11_trim_20 : decode cX11_trim 20 = .ok (.ifCond .ne 8, 3) := by decide +kernel
theorem dX11_trim_23 : decode cX11_trim 23 = .ok (.bipush (-9), 2) := by decide +kernel
theorem dX11_trim_25 : decode cX11_trim 25 = .ok (.goto 22, 3) := by decide +kernel
theorem dX11_trim_28 : decode cX11_trim 28 = .ok (.aload_n 0, 1) := by decide +kernel
theorem dX11_trim_29 : decode cX11_trim 29 = .ok (.getfield 19, 3) := by decide +kernel
theorem dX11_trim_32 : decode cX11_trim 32 = .ok (.iload_n 1, 1) := by decide +kernel
theorem dX11_trim_33 : decode cX11_trim 33 = .ok (.aload_n 0, 1) := by decide +kernel
theorem dX11_trim_34 : decode cX11_trim 34 = .ok (.getfield 29, 3) := by decide +kernel
theorem dX11_trim_37 : decode cX11_trim 37 = .ok (.getfield 120, 3) := by decide +kernel
theorem dX11_trim_40 : decode cX11_trim 40 = .ok (.aload_n 0, 1) := by decide +kernel
theorem dX11_trim_41 : decode cX11_trim 41 = .ok (.invokevirtual 186, 3) := by decide +kernel
theorem dX11_trim_44 : decode cX11_trim 44 = .ok (.invokevirtual 190, 3) := by decide +kernel
theorem dX11_trim_47 : decode cX11_trim 47 = .ok (.ireturn, 1) := by decide +kernel
set_option maxRecDepth 20000 in
theorem ggX11_odds_X11_isWithin : GoodIn wsX11_odds wsX11_isWithin := goodIn_r _ [8] (by decide +kernel) (by decide +kernel)
set_option maxRecDepth 20000 in
theorem gX11_odds_X11_isWithin : GoodIn wsX11_odds (va_wsS RX11 75 yX11_isWithin wsX11_isWithin) := goodIn_app (goodIn_of _ (by decide +kernel)) ggX11_odds_X11_isWithin
set_option maxRecDepth 20000 in
theorem ggX11_odds_X11_cuttableNow : GoodIn wsX11_odds wsX11_cuttableNow := goodIn_r _ [12, 1, 3, 4, 13, 14, 15, 16, 17, 18, 19, 20, 21, 22, 23, 24, 7, 25, 26, 27, 28, 29, 30, 31, 32, 33, 34, 35, 36, 37, 38, 39, 40, 41, 42, 43, 44, 45, 67, 68, 69, 70, 71, 72, 73, 74, 75, 76, 77, 87, 88, 89, 90, 91, 92, 93, 78, 79, 80, 81, 82, 83, 84, 85, 86] (by decide +kernel) (by decide +kernel)
set_option maxRecDepth 20000 in
theorem gX11_odds_X11_cuttableNow : GoodIn wsX11_odds (wsV RX11 186 RX11 yX11_cuttableNow wsX11_cuttableNow) := goodIn_app (goodIn_of _ (by decide +kernel)) ggX11_odds_X11_cuttableNow
set_option maxRecDepth 20000 in
theorem ggX11_odds_X6_chancesBy : GoodIn wsX11_odds wsX6_chancesBy := goodIn_r _ [49, 50, 51, 52, 17, 53, 54, 26, 27, 28, 29, 30, 31, 19, 32, 33, 34, 35, 24, 7, 25, 36, 37, 38, 39, 40, 41, 42, 43, 44, 45, 55, 56, 57, 58, 59, 60, 61, 62, 78, 79, 80, 81, 82, 83, 84, 85, 86] (by decide +kernel) (by decide +kernel)
set_option maxRecDepth 20000 in
theorem gX11_odds_X6_chancesBy : GoodIn wsX11_odds (wsV RX11 193 RX6 yX6_chancesBy wsX6_chancesBy) := goodIn_app (goodIn_of _ (by decide +kernel)) ggX11_odds_X6_chancesBy
set_option maxRecDepth 20000 in
theorem ggX11_odds_X6_weightOf : GoodIn wsX11_odds wsX6_weightOf := goodIn_r _ [62, 19, 24, 7, 25, 78, 79, 80, 81, 82, 83, 84, 85, 86] (by decide +kernel) (by decide +kernel)
set_option maxRecDepth 20000 in
theorem gX11_odds_X6_weightOf : GoodIn wsX11_odds (wsV RX11 197 RX6 yX6_weightOf wsX6_weightOf) := goodIn_app (goodIn_of _ (by decide +kernel)) ggX11_odds_X6_weightOf
set_option maxRecDepth 20000 in
theorem ggX11_odds_X11_greatestDivisor : GoodIn wsX11_odds wsX11_greatestDivisor := goodIn_r _ [66] (by decide +kernel) (by decide +kernel)
set_option maxRecDepth 20000 in
theorem gX11_odds_X11_greatestDivisor : GoodIn wsX11_odds (va_wsS RX11 200 yX11_greatestDivisor wsX11_greatestDivisor) := goodIn_app (goodIn_of _ (by decide +kernel)) ggX11_odds_X11_greatestDivisor
theorem dX11_odds_0 : decode cX11_odds 0 = .ok (.iload_n 1, 1) := by decide +kernel
theorem dX11_odds_1 : decode cX11_odds 1 = .ok (.iconst 0, 1) := by decide +kernel
theorem dX11_odds_2 : decode cX11_odds 2 = .ok (.bipush 10, 2) := by decide +kernel
theorem dX11_odds_4 : decode cX11_odds 4 = .ok (.invokestatic 75, 3) := by decide +kernel
theorem dX11_odds_7 : decode cX11_odds 7 = .ok (.ifCond .eq 23, 3) := by decide +kernel
theorem dX11_odds_10 : decode cX11_odds 10 = .ok (.iload_n 2, 1) := by decide +kernel
theorem dX11_odds_11 : decode cX11_odds 11 = .ok (.iconst 0, 1) := by decide +kernel
theorem dX11_odds_12 : decode cX11_odds 12 = .ok (.sipush 999, 3) := by decide +kernel
theorem dX11_odds_15 : decode cX11_odds 15 = .ok (.invokestatic 75, 3) := by decide +kernel
theorem dX11_odds_18 : decode cX11_odds 18 = .ok (.ifCond .eq 12, 3) := by decide +kernel
theorem dX11_odds_21 : decode cX11_odds 21 = .ok (.iload_n 3, 1) := by decide +kernel
theorem dX11_odds_22 : decode cX11_odds 22 = .ok (.iconst 0, 1) := by decide +kernel
theorem dX11_odds_23 : decode cX11_odds 23 = .ok (.iconst 1, 1) := by decide +kernel
theorem dX11_odds_24 : decode cX11_odds 24 = .ok (.invokestatic 75, 3) := by decide +kernel
theorem dX11_odds_27 : decode cX11_odds 27 = .ok (.ifCond .ne 5, 3) := by decide +kernel
theorem dX11_odds_30 : decode cX11_odds 30 = .ok (.iconst (-1), 1) := by decide +kernel
theorem dX11_odds_31 : decode cX11_odds 31 = .ok (.ireturn, 1) := by decide +kernel
theorem dX11_odds_32 : decode cX11_odds 32 = .ok (.aload_n 0, 1) := by decide +kernel
theorem dX11_odds_33 : decode cX11_odds 33 = .ok (.getfield 19, 3) := by decide +kernel
theorem dX11_odds_36 : decode cX11_odds 36 = .ok (.getfield 183, 3) := by decide +kernel
theorem dX11_odds_39 : decode cX11_odds 39 = .ok (.ifCond .ne 5, 3) := by decide +kernel
theorem dX11_odds_42 : decode cX11_odds 42 = .ok (.iload_n 3, 1) := by decide +kernel
theorem dX11_odds_43 : decode cX11_odds 43 = .ok (.ireturn, 1) := by decide +kernel
theorem dX11_odds_44 : decode cX11_odds 44 = .ok (.aload_n 0, 1) := by decide +kernel
theorem dX11_odds_45 : decode cX11_odds 45 = .ok (.invokevirtual 186, 3) := by decide +kernel
theorem dX11_odds_48 : decode cX11_odds 48 = .ok (.istore 4, 2) := by decide +kernel
theorem dX11_odds_50 : decode cX11_odds 50 = .ok (.aload_n 0, 1) := by decide +kernel
theorem dX11_odds_51 : decode cX11_odds 51 = .ok (.getfield 19, 3) := by decide +kernel
theorem dX11_odds_54 : decode cX11_odds 54 = .ok (.iload_n 2, 1) := by decide +kernel
theorem dX11_odds_55 : decode cX11_odds 55 = .ok (.iload_n 1, 1) := by decide +kernel
theorem dX11_odds_56 : decode cX11_odds 56 = .ok (.aload_n 0, 1) := by decide +kernel
theorem dX11_odds_57 : decode cX11_odds 57 = .ok (.getfield 29, 3) := by decide +kernel
theorem dX11_odds_60 : decode cX11_odds 60 = .ok (.getfield 120, 3) := by decide +kernel
theorem dX11_odds_63 : decode cX11_odds 63 = .ok (.iload 4, 2) := by decide +kernel
theorem dX11_odds_65 : decode cX11_odds 65 = .ok (.invokevirtual 193, 3) := by decide +kernel
theorem dX11_odds_68 : decode cX11_odds 68 = .ok (.istore 5, 2) := by decide +kernel
theorem dX11_odds_70 : decode cX11_odds 70 = .ok (.aload_n 0, 1) := by decide +kernel
theorem dX11_odds_71 : decode cX11_odds 71 = .ok (.getfield 19, 3) := by decide +kernel
theorem dX11_odds_74 : decode cX11_odds 74 = .ok (.iload 4, 2) := by decide +kernel
theorem dX11_odds_76 : decode cX11_odds 76 = .ok (.iload 4, 2) := by decide +kernel
theorem dX11_odds_78 : decode cX11_odds 78 = .ok (.bipush 10, 2) := by decide +kernel
theorem dX11_odds_80 : decode cX11_odds 80 = .ok (.invokevirtual 197, 3) := by decide +kernel
theorem dX11_odds_83 : decode cX11_odds 83 = .ok (.istore 6, 2) := by decide +kernel
theorem dX11_odds_85 : decode cX11_odds 85 = .ok (.iload 6, 2) := by decide +kernel
theorem dX11_odds_87 : decode cX11_odds 87 = .ok (.iload 5, 2) := by decide +kernel
theorem dX11_odds_89 : decode cX11_odds 89 = .ok (.invokestatic 200, 3) := by decide +kernel
theorem dX11_odds_92 : decode cX11_odds 92 = .ok (.istore 7, 2) := by decide +kernel
theorem dX11_odds_94 : decode cX11_odds 94 = .ok (.iload 7, 2) := by decide +kernel
theorem dX11_odds_96 : decode cX11_odds 96 = .ok (.ifCond .ne 5, 3) := by decide +kernel
theorem dX11_odds_99 : decode cX11_odds 99 = .ok (.iload_n 3, 1) := by decide +kernel
theorem dX11_odds_100 : decode cX11_odds 100 = .ok (.ireturn, 1) := by decide +kernel
theorem dX11_odds_101 : decode cX11_odds 101 = .ok (.iload_n 3, 1) := by decide +kernel
theorem dX11_odds_102 : decode cX11_odds 102 = .ok (.ifCond .ne 11, 3) := by decide +kernel
theorem dX11_odds_105 : decode cX11_odds 105 = .ok (.iload 5, 2) := by decide +kernel
theorem dX11_odds_107 : decode cX11_odds 107 = .ok (.iload 7, 2) := by decide +kernel
theorem dX11_odds_109 : decode cX11_odds 109 = .ok (.idiv, 1) := by decide +kernel
theorem dX11_odds_110 : decode cX11_odds 110 = .ok (.goto 8, 3) := by decide +kernel
theorem dX11_odds_113 : decode cX11_odds 113 = .ok (.iload 6, 2) := by decide +kernel
theorem dX11_odds_115 : decode cX11_odds 115 = .ok (.iload 7, 2) := by decide +kernel
theorem dX11_odds_117 : decode cX11_odds 117 = .ok (.idiv, 1) := by decide +kernel
theorem dX11_odds_118 : decode cX11_odds 118 = .ok (.ireturn, 1) := by decide +kernel
set_option maxRecDepth 20000 in
theorem ggX11_hears_X11_isWithin : GoodIn wsX11_hears wsX11_isWithin := goodIn_r _ [6] (by decide +kernel) (by decide +kernel)
set_option maxRecDepth 20000 in
theorem gX11_hears_X11_isWithin : GoodIn wsX11_hears (va_wsS RX11 75 yX11_isWithin wsX11_isWithin) := goodIn_app (goodIn_of _ (by decide +kernel)) ggX11_hears_X11_isWithin
set_option maxRecDepth 20000 in
theorem ggX11_hears_X3_takes : GoodIn wsX11_hears wsX3_takes := goodIn_r _ [11, 12, 13, 14, 26, 27, 28, 29, 30, 31, 32] (by decide +kernel) (by decide +kernel)
set_option maxRecDepth 20000 in
theorem gX11_hears_X3_takes : GoodIn wsX11_hears (wsV RX11 203 RX3 yX3_takes wsX3_takes) := goodIn_app (goodIn_of _ (by decide +kernel)) ggX11_hears_X3_takes
theorem dX11_hears_0 : decode cX11_hears 0 = .ok (.iload_n 1, 1) := by decide +kernel
theorem dX11_hears_1 : decode cX11_hears 1 = .ok (.iconst 0, 1) := by decide +kernel
theorem dX11_hears_2 : decode cX11_hears 2 = .ok (.bipush 60, 2) := by decide +kernel
theorem dX11_hears_4 : decode cX11_hears 4 = .ok (.invokestatic 75, 3) := by decide +kernel
theorem dX11_hears_7 : decode cX11_hears 7 = .ok (.ifCond .eq 12, 3) := by decide +kernel
theorem dX11_hears_10 : decode cX11_hears 10 = .ok (.iload_n 2, 1) := by decide +kernel
theorem dX11_hears_11 : decode cX11_hears 11 = .ok (.iconst 0, 1) := by decide +kernel
theorem dX11_hears_12 : decode cX11_hears 12 = .ok (.iconst 3, 1) := by decide +kernel
theorem dX11_hears_13 : decode cX11_hears 13 = .ok (.invokestatic 75, 3) := by decide +kernel
theorem dX11_hears_16 : decode cX11_hears 16 = .ok (.ifCond .ne 5, 3) := by decide +kernel
theorem dX11_hears_19 : decode cX11_hears 19 = .ok (.iconst (-1), 1) := by decide +kernel
theorem dX11_hears_20 : decode cX11_hears 20 = .ok (.ireturn, 1) := by decide +kernel
theorem dX11_hears_21 : decode cX11_hears 21 = .ok (.aload_n 0, 1) := by decide +kernel
theorem dX11_hears_22 : decode cX11_hears 22 = .ok (.getfield 42, 3) := by decide +kernel
theorem dX11_hears_25 : decode cX11_hears 25 = .ok (.iload_n 1, 1) := by decide +kernel
theorem dX11_hears_26 : decode cX11_hears 26 = .ok (.iload_n 2, 1) := by decide +kernel
theorem dX11_hears_27 : decode cX11_hears 27 = .ok (.invokevirtual 203, 3) := by decide +kernel
theorem dX11_hears_30 : decode cX11_hears 30 = .ok (.ifCond .eq 13, 3) := by decide +kernel
theorem dX11_hears_33 : decode cX11_hears 33 = .ok (.aload_n 0, 1) := by decide +kernel
theorem dX11_hears_34 : decode cX11_hears 34 = .ok (.getfield 42, 3) := by decide +kernel
theorem dX11_hears_37 : decode cX11_hears 37 = .ok (.getfield 101, 3) := by decide +kernel
theorem dX11_hears_40 : decode cX11_hears 40 = .ok (.goto 5, 3) := by decide +kernel
theorem dX11_hears_43 : decode cX11_hears 43 = .ok (.bipush (-3), 2) := by decide +kernel
theorem dX11_hears_45 : decode cX11_hears 45 = .ok (.ireturn, 1) := by decide +kernel
theorem dX11_forget_0 : decode cX11_forget 0 = .ok (.aload_n 0, 1) := by decide +kernel
theorem dX11_forget_1 : decode cX11_forget 1 = .ok (.getfield 42, 3) := by decide +kernel
theorem dX11_forget_4 : decode cX11_forget 4 = .ok (.getfield 101, 3) := by decide +kernel
theorem dX11_forget_7 : decode cX11_forget 7 = .ok (.istore_n 1, 1) := by decide +kernel
theorem dX11_forget_8 : decode cX11_forget 8 = .ok (.aload_n 0, 1) := by decide +kernel
theorem dX11_forget_9 : decode cX11_forget 9 = .ok (.getfield 42, 3) := by decide +kernel
theorem dX11_forget_12 : decode cX11_forget 12 = .ok (.iconst 0, 1) := by decide +kernel
theorem dX11_forget_13 : decode cX11_forget 13 = .ok (.putfield 101, 3) := by decide +kernel
theorem dX11_forget_16 : decode cX11_forget 16 = .ok (.iload_n 1, 1) := by decide +kernel
theorem dX11_forget_17 : decode cX11_forget 17 = .ok (.ireturn, 1) := by decide +kernel
set_option maxRecDepth 20000 in
theorem ggX11_places_X11_isWithin : GoodIn wsX11_places wsX11_isWithin := goodIn_r _ [8] (by decide +kernel) (by decide +kernel)
set_option maxRecDepth 20000 in
theorem gX11_places_X11_isWithin : GoodIn wsX11_places (va_wsS RX11 75 yX11_isWithin wsX11_isWithin) := goodIn_app (goodIn_of _ (by decide +kernel)) ggX11_places_X11_isWithin
set_option maxRecDepth 20000 in
theorem ggX11_places_X3_findPlaces : GoodIn wsX11_places wsX3_findPlaces := goodIn_r _ [13, 14, 15, 16, 17, 18, 12, 19, 20, 21, 22, 7, 23, 24, 25, 26, 27, 28, 29, 30, 31, 32, 33, 34, 35, 36, 37, 38, 39, 40, 41, 42, 43, 44, 45, 46, 47, 48, 49, 87, 88, 89, 90, 91, 92, 93, 94, 95, 96, 97, 98, 99, 100, 101, 102] (by decide +kernel) (by decide +kernel)
set_option maxRecDepth 20000 in
theorem gX11_places_X3_findPlaces : GoodIn wsX11_places (wsV RX11 205 RX3 yX3_findPlaces wsX3_findPlaces) := goodIn_app (goodIn_of _ (by decide +kernel)) ggX11_places_X3_findPlaces
set_option maxRecDepth 20000 in
theorem ggX11_places_X3_placesInAll : GoodIn wsX11_places wsX3_placesInAll := goodIn_r _ [53, 15, 54, 55, 56, 12, 57, 58, 59, 60, 61, 62, 63, 64, 14, 87, 88, 89, 90, 91, 92, 93] (by decide +kernel) (by decide +kernel)
set_option maxRecDepth 20000 in
theorem gX11_places_X3_placesInAll : GoodIn wsX11_places (wsV RX11 209 RX3 yX3_placesInAll wsX3_placesInAll) := goodIn_app (goodIn_of _ (by decide +kernel)) ggX11_places_X3_placesInAll
set_option maxRecDepth 20000 in
theorem ggX11_places_X3_placeOf : GoodIn wsX11_places wsX3_placeOf := goodIn_r _ [68, 15, 54, 55, 56, 12, 57, 58, 59, 60, 61, 62, 63, 64, 14, 87, 88, 89, 90, 91, 92, 93] (by decide +kernel) (by decide +kernel)
set_option maxRecDepth 20000 in
theorem gX11_places_X3_placeOf : GoodIn wsX11_places (wsV RX11 212 RX3 yX3_placeOf wsX3_placeOf) := goodIn_app (goodIn_of _ (by decide +kernel)) ggX11_places_X3_placeOf
theorem dX11_places_0 : decode cX11_places 0 = .ok (.iload_n 1, 1) := by decide +kernel
theorem dX11_places_1 : decode cX11_places 1 = .ok (.iconst (-1), 1) := by decide +kernel
theorem dX11_places_2 : decode cX11_places 2 = .ok (.bipush 9, 2) := by decide +kernel
theorem dX11_places_4 : decode cX11_places 4 = .ok (.invokestatic 75, 3) := by decide +kernel
theorem dX11_places_7 : decode cX11_places 7 = .ok (.ifCond .ne 5, 3) := by decide +kernel
theorem dX11_places_10 : decode cX11_places 10 = .ok (.iconst (-1), 1) := by decide +kernel
theorem dX11_places_11 : decode cX11_places 11 = .ok (.ireturn, 1) := by decide +kernel
theorem dX11_places_12 : decode cX11_places 12 = .ok (.aload_n 0, 1) := by decide +kernel
theorem dX11_places_13 : decode cX11_places 13 = .ok (.getfield 42, 3) := by decide +kernel
theorem dX11_places_16 : decode cX11_places 16 = .ok (.aload_n 0, 1) := by decide +kernel
theorem dX11_places_17 : decode cX11_places 17 = .ok (.getfield 19, 3) := by decide +kernel
theorem dX11_places_20 : decode cX11_places 20 = .ok (.aload_n 0, 1) := by decide +kernel
theorem dX11_places_21 : decode cX11_places 21 = .ok (.getfield 29, 3) := by decide +kernel
theorem dX11_places_24 : decode cX11_places 24 = .ok (.getfield 120, 3) := by decide +kernel
theorem dX11_places_27 : decode cX11_places 27 = .ok (.invokevirtual 205, 3) := by decide +kernel
theorem dX11_places_30 : decode cX11_places 30 = .ok (.iload_n 1, 1) := by decide +kernel
theorem dX11_places_31 : decode cX11_places 31 = .ok (.iconst (-1), 1) := by decide +kernel
theorem dX11_places_32 : decode cX11_places 32 = .ok (.if_icmp .ne 13, 3) := by decide +kernel
theorem dX11_places_35 : decode cX11_places 35 = .ok (.aload_n 0, 1) := by decide +kernel
theorem dX11_places_36 : decode cX11_places 36 = .ok (.getfield 42, 3) := by decide +kernel
theorem dX11_places_39 : decode cX11_places 39 = .ok (.invokevirtual 209, 3) := by decide +kernel
theorem dX11_places_42 : decode cX11_places 42 = .ok (.goto 11, 3) := by decide +kernel
theorem dX11_places_45 : decode cX11_places 45 = .ok (.aload_n 0, 1) := by decide +kernel
theorem dX11_places_46 : decode cX11_places 46 = .ok (.getfield 42, 3) := by decide +kernel
theorem dX11_places_49 : decode cX11_places 49 = .ok (.iload_n 1, 1) := by decide +kernel
theorem dX11_places_50 : decode cX11_places 50 = .ok (.invokevirtual 212, 3) := by decide +kernel
theorem dX11_places_53 : decode cX11_places 53 = .ok (.ireturn, 1) := by decide +kernel
set_option maxRecDepth 20000 in
theorem ggX11_listen_X3_findPlaces : GoodIn wsX11_listen wsX3_findPlaces := goodIn_r _ [9, 10, 11, 12, 13, 14, 8, 15, 16, 17, 18, 19, 20, 21, 22, 23, 24, 25, 26, 27, 28, 29, 30, 31, 32, 33, 34, 35, 36, 37, 38, 39, 40, 41, 42, 43, 44, 45, 46, 92, 93, 94, 95, 96, 97, 98, 99, 100, 101, 102, 103, 104, 105, 106, 107] (by decide +kernel) (by decide +kernel)
set_option maxRecDepth 20000 in
theorem gX11_listen_X3_findPlaces : GoodIn wsX11_listen (wsV RX11 205 RX3 yX3_findPlaces wsX3_findPlaces) := goodIn_app (goodIn_of _ (by decide +kernel)) ggX11_listen_X3_findPlaces
set_option maxRecDepth 20000 in
theorem ggX11_listen_X3_placesInAll : GoodIn wsX11_listen wsX3_placesInAll := goodIn_r _ [50, 11, 51, 52, 53, 8, 54, 55, 56, 57, 58, 59, 60, 61, 10, 92, 93, 94, 95, 96, 97, 98] (by decide +kernel) (by decide +kernel)
set_option maxRecDepth 20000 in
theorem gX11_listen_X3_placesInAll : GoodIn wsX11_listen (wsV RX11 209 RX3 yX3_placesInAll wsX3_placesInAll) := goodIn_app (goodIn_of _ (by decide +kernel)) ggX11_listen_X3_placesInAll
set_option maxRecDepth 20000 in
theorem ggX11_listen_X3_bestToListen : GoodIn wsX11_listen wsX3_bestToListen := goodIn_r _ [65, 66, 67, 68, 8, 69, 70, 16, 59, 60, 57, 61, 18, 19, 20, 21, 22, 23, 24, 25, 26, 27, 28, 29, 30, 31, 32, 33, 34, 35, 36, 37, 71, 72, 51, 52, 53, 54, 11, 55, 56, 58, 10, 73, 48, 49, 50, 92, 93, 94, 95, 96, 97, 98, 99, 100, 101, 102, 103, 104, 105, 106, 107] (by decide +kernel) (by decide +kernel)
set_option maxRecDepth 20000 in
theorem gX11_listen_X3_bestToListen : GoodIn wsX11_listen (wsV RX11 215 RX3 yX3_bestToListen wsX3_bestToListen) := goodIn_app (goodIn_of _ (by decide +kernel)) ggX11_listen_X3_bestToListen
theorem dX11_listen_0 : decode cX11_listen 0 = .ok (.aload_n 0, 1) := by decide +kernel
theorem dX11_listen_1 : decode cX11_listen 1 = .ok (.getfield 42, 3) := by decide +kernel
theorem dX11_listen_4 : decode cX11_listen 4 = .ok (.aload_n 0, 1) := by decide +kernel
theorem dX11_listen_5 : decode cX11_listen 5 = .ok (.getfield 19, 3) := by decide +kernel
theorem dX11_listen_8 : decode cX11_listen 8 = .ok (.aload_n 0, 1) := by decide +kernel
theorem dX11_listen_9 : decode cX11_listen 9 = .ok (.getfield 29, 3) := by decide +kernel
theorem dX11_listen_12 : decode cX11_listen 12 = .ok (.getfield 120, 3) := by decide +kernel
theorem dX11_listen_15 : decode cX11_listen 15 = .ok (.invokevirtual 205, 3) := by decide +kernel
theorem dX11_listen_18 : decode cX11_listen 18 = .ok (.aload_n 0, 1) := by decide +kernel
theorem dX11_listen_19 : decode cX11_listen 19 = .ok (.getfield 42, 3) := by decide +kernel
theorem dX11_listen_22 : decode cX11_listen 22 = .ok (.invokevirtual 209, 3) := by decide +kernel
theorem dX11_listen_25 : decode cX11_listen 25 = .ok (.ifCond .ne 8, 3) := by decide +kernel
theorem dX11_listen_28 : decode cX11_listen 28 = .ok (.bipush (-9), 2) := by decide +kernel
theorem dX11_listen_30 : decode cX11_listen 30 = .ok (.goto 21, 3) := by decide +kernel
theorem dX11_listen_33 : decode cX11_listen 33 = .ok (.aload_n 0, 1) := by decide +kernel
theorem dX11_listen_34 : decode cX11_listen 34 = .ok (.getfield 42, 3) := by decide +kernel
theorem dX11_listen_37 : decode cX11_listen 37 = .ok (.aload_n 0, 1) := by decide +kernel
theorem dX11_listen_38 : decode cX11_listen 38 = .ok (.getfield 19, 3) := by decide +kernel
theorem dX11_listen_41 : decode cX11_listen 41 = .ok (.aload_n 0, 1) := by decide +kernel
theorem dX11_listen_42 : decode cX11_listen 42 = .ok (.getfield 29, 3) := by decide +kernel
theorem dX11_listen_45 : decode cX11_listen 45 = .ok (.getfield 120, 3) := by decide +kernel
theorem dX11_listen_48 : decode cX11_listen 48 = .ok (.invokevirtual 215, 3) := by decide +kernel
theorem dX11_listen_51 : decode cX11_listen 51 = .ok (.ireturn, 1) := by decide +kernel
set_option maxRecDepth 20000 in
theorem ggX11_pack_X4_mostThings : GoodIn wsX11_pack wsX4_mostThings := goodIn_r _ [10, 11, 12, 13, 14, 9, 15, 16, 17, 18, 19, 20, 21, 22, 23, 24, 25, 26, 27, 28, 29, 30, 31, 32, 33, 34, 35, 36, 37, 38, 39, 40, 41, 42, 43, 44, 45, 46, 47, 48, 49, 50, 51, 52, 53, 54, 55, 56, 57, 58, 59, 60, 61, 62, 63, 64, 65, 66, 67, 68, 69, 70, 71, 72, 73, 74, 75, 96, 97, 98, 99, 100, 101, 102, 103, 104, 112, 113, 114] (by decide +kernel) (by decide +kernel)
set_option maxRecDepth 20000 in
theorem gX11_pack_X4_mostThings : GoodIn wsX11_pack (wsV RX11 222 RX4 yX4_mostThings wsX4_mostThings) := goodIn_app (goodIn_of _ (by decide +kernel)) ggX11_pack_X4_mostThings
set_option maxRecDepth 20000 in
theorem ggX11_pack_J6_bitCount_0f7a4 : GoodIn wsX11_pack wsJ6_bitCount_0f7a4 := goodIn_r _ [72, 73, 74, 75] (by decide +kernel) (by decide +kernel)
set_option maxRecDepth 20000 in
theorem gX11_pack_J6_bitCount_0f7a4 : GoodIn wsX11_pack (va_wsS RX11 225 yJ6_bitCount_0f7a4 wsJ6_bitCount_0f7a4) := goodIn_app (goodIn_of _ (by decide +kernel)) ggX11_pack_J6_bitCount_0f7a4
set_option maxRecDepth 20000 in
theorem ggX11_pack_X4_restOf : GoodIn wsX11_pack wsX4_restOf := goodIn_r _ [80, 17, 18, 19, 42, 43, 44, 23, 45, 46, 47, 48, 49, 50, 51, 81, 82, 83, 9, 84, 16, 52, 53, 54, 55, 56, 57, 58, 59, 60, 61, 62, 63, 64, 65, 66, 67, 68, 41, 96, 97, 98, 99, 100, 101, 102, 103, 104, 112, 113, 114] (by decide +kernel) (by decide +kernel)
set_option maxRecDepth 20000 in
theorem gX11_pack_X4_restOf : GoodIn wsX11_pack (wsV RX11 230 RX4 yX4_restOf wsX4_restOf) := goodIn_app (goodIn_of _ (by decide +kernel)) ggX11_pack_X4_restOf
theorem dX11_pack_0 : decode cX11_pack 0 = .ok (.iload_n 1, 1) := by decide +kernel
theorem dX11_pack_1 : decode cX11_pack 1 = .ok (.bipush (-2), 2) := by decide +kernel
theorem dX11_pack_3 : decode cX11_pack 3 = .ok (.if_icmp .lt 14, 3) := by decide +kernel
theorem dX11_pack_6 : decode cX11_pack 6 = .ok (.iload_n 1, 1) := by decide +kernel
theorem dX11_pack_7 : decode cX11_pack 7 = .ok (.aload_n 0, 1) := by decide +kernel
theorem dX11_pack_8 : decode cX11_pack 8 = .ok (.getfield 19, 3) := by decide +kernel
theorem dX11_pack_11 : decode cX11_pack 11 = .ok (.getfield 219, 3) := by decide +kernel
theorem dX11_pack_14 : decode cX11_pack 14 = .ok (.if_icmp .lt 5, 3) := by decide +kernel
theorem dX11_pack_17 : decode cX11_pack 17 = .ok (.iconst (-1), 1) := by decide +kernel
theorem dX11_pack_18 : decode cX11_pack 18 = .ok (.ireturn, 1) := by decide +kernel
theorem dX11_pack_19 : decode cX11_pack 19 = .ok (.aload_n 0, 1) := by decide +kernel
theorem dX11_pack_20 : decode cX11_pack 20 = .ok (.getfield 49, 3) := by decide +kernel
theorem dX11_pack_23 : decode cX11_pack 23 = .ok (.aload_n 0, 1) := by decide +kernel
theorem dX11_pack_24 : decode cX11_pack 24 = .ok (.getfield 19, 3) := by decide +kernel
theorem dX11_pack_27 : decode cX11_pack 27 = .ok (.aload_n 0, 1) := by decide +kernel
theorem dX11_pack_28 : decode cX11_pack 28 = .ok (.getfield 29, 3) := by decide +kernel
theorem dX11_pack_31 : decode cX11_pack 31 = .ok (.getfield 120, 3) := by decide +kernel
theorem dX11_pack_34 : decode cX11_pack 34 = .ok (.invokevirtual 222, 3) := by decide +kernel
theorem dX11_pack_37 : decode cX11_pack 37 = .ok (.istore_n 2, 1) := by decide +kernel
theorem dX11_pack_38 : decode cX11_pack 38 = .ok (.iload_n 1, 1) := by decide +kernel
theorem dX11_pack_39 : decode cX11_pack 39 = .ok (.iconst (-1), 1) := by decide +kernel
theorem dX11_pack_40 : decode cX11_pack 40 = .ok (.if_icmp .ne 8, 3) := by decide +kernel
theorem dX11_pack_43 : decode cX11_pack 43 = .ok (.iload_n 2, 1) := by decide +kernel
theorem dX11_pack_44 : decode cX11_pack 44 = .ok (.invokestatic 225, 3) := by decide +kernel
theorem dX11_pack_47 : decode cX11_pack 47 = .ok (.ireturn, 1) := by decide +kernel
theorem dX11_pack_48 : decode cX11_pack 48 = .ok (.iload_n 1, 1) := by decide +kernel
theorem dX11_pack_49 : decode cX11_pack 49 = .ok (.bipush (-2), 2) := by decide +kernel
theorem dX11_pack_51 : decode cX11_pack 51 = .ok (.if_icmp .ne 7, 3) := by decide +kernel
theorem dX11_pack_54 : decode cX11_pack 54 = .ok (.iload_n 2, 1) := by decide +kernel
theorem dX11_pack_55 : decode cX11_pack 55 = .ok (.goto 16, 3) := by decide +kernel
theorem dX11_pack_58 : decode cX11_pack 58 = .ok (.aload_n 0, 1) := by decide +kernel
theorem dX11_pack_59 : decode cX11_pack 59 = .ok (.getfield 49, 3) := by decide +kernel
theorem dX11_pack_62 : decode cX11_pack 62 = .ok (.iload_n 1, 1) := by decide +kernel
theorem dX11_pack_63 : decode cX11_pack 63 = .ok (.iload_n 2, 1) := by decide +kernel
theorem dX11_pack_64 : decode cX11_pack 64 = .ok (.aload_n 0, 1) := by decide +kernel
theorem dX11_pack_65 : decode cX11_pack 65 = .ok (.getfield 19, 3) := by decide +kernel
theorem dX11_pack_68 : decode cX11_pack 68 = .ok (.invokevirtual 230, 3) := by decide +kernel
theorem dX11_pack_71 : decode cX11_pack 71 = .ok (.ireturn, 1) := by decide +kernel
set_option maxRecDepth 20000 in
theorem ggX11_mark_X11_isWithin : GoodIn wsX11_mark wsX11_isWithin := goodIn_r _ [7] (by decide +kernel) (by decide +kernel)
set_option maxRecDepth 20000 in
theorem gX11_mark_X11_isWithin : GoodIn wsX11_mark (va_wsS RX11 75 yX11_isWithin wsX11_isWithin) := goodIn_app (goodIn_of _ (by decide +kernel)) ggX11_mark_X11_isWithin
set_option maxRecDepth 20000 in
theorem ggX11_mark_X6_hasSection : GoodIn wsX11_mark wsX6_hasSection := goodIn_r _ [12, 13, 87, 88, 89, 90, 91, 92, 93, 94, 95] (by decide +kernel) (by decide +kernel)
set_option maxRecDepth 20000 in
theorem gX11_mark_X6_hasSection : GoodIn wsX11_mark (wsV RX11 107 RX6 yX6_hasSection wsX6_hasSection) := goodIn_app (goodIn_of _ (by decide +kernel)) ggX11_mark_X6_hasSection
set_option maxRecDepth 20000 in
theorem ggX11_mark_X0_valueOf : GoodIn wsX11_mark wsX0_valueOf := goodIn_r _ [20, 21, 22, 15, 23, 24, 25, 26, 27, 28, 29, 11, 30, 31, 32, 9, 10, 12, 13, 33, 34, 35, 36, 37, 76, 77, 78, 79, 80, 81, 82, 83, 84, 85, 86, 87, 88, 89, 90, 91, 92, 93, 94, 95] (by decide +kernel) (by decide +kernel)
set_option maxRecDepth 20000 in
theorem gX11_mark_X0_valueOf_u234X0 : GoodIn wsX11_mark (va_wsO RX11 234 RX0 "TriangleRest$PlainSection" ⟨"TriangleRest$PlainSection", "valueOf", "(LTriangleRest;I)I"⟩ yX0_valueOf wsX0_valueOf) := goodIn_app (goodIn_of _ (by decide +kernel)) ggX11_mark_X0_valueOf
set_option maxRecDepth 20000 in
theorem ggX11_mark_X1_valueOf : GoodIn wsX11_mark wsX1_valueOf := goodIn_r _ [41, 42, 43, 44, 15, 45, 24, 25, 26, 27, 28, 29, 11, 30, 31, 32, 9, 10, 12, 13, 76, 77, 78, 79, 80, 81, 82, 83, 84, 85, 86, 96, 97, 98, 99, 100, 101, 102, 87, 88, 89, 90, 91, 92, 93, 94, 95] (by decide +kernel) (by decide +kernel)
set_option maxRecDepth 20000 in
theorem gX11_mark_X1_valueOf_u234X1 : GoodIn wsX11_mark (va_wsO RX11 234 RX1 "TriangleRest$PlainSection" ⟨"TriangleRest$PlainSection", "valueOf", "(LTriangleRest;I)I"⟩ yX1_valueOf wsX1_valueOf) := goodIn_app (goodIn_of _ (by decide +kernel)) ggX11_mark_X1_valueOf
set_option maxRecDepth 20000 in
theorem ggX11_mark_X5_valueOf : GoodIn wsX11_mark wsX5_valueOf := goodIn_r _ [26, 27, 28, 29, 11, 30, 31, 32, 9, 10, 12, 13, 76, 77, 78, 79, 80, 81, 82, 83, 84, 85, 86, 87, 88, 89, 90, 91, 92, 93, 94, 95] (by decide +kernel) (by decide +kernel)
set_option maxRecDepth 20000 in
theorem gX11_mark_X5_valueOf : GoodIn wsX11_mark (wsV RX11 234 RX5 yX5_valueOf wsX5_valueOf) := goodIn_app (goodIn_of _ (by decide +kernel)) ggX11_mark_X5_valueOf
set_option maxRecDepth 20000 in
theorem ggX11_mark_X7_valueOf : GoodIn wsX11_mark wsX7_valueOf := goodIn_r _ [51, 52, 53, 54, 55, 56, 57, 58, 59, 60, 15, 61, 24, 25, 26, 27, 28, 29, 11, 30, 31, 32, 9, 10, 12, 13, 62, 63, 64, 65, 66, 76, 77, 78, 79, 80, 81, 82, 83, 84, 85, 86, 87, 88, 89, 90, 91, 92, 93, 94, 95] (by decide +kernel) (by decide +kernel)
set_option maxRecDepth 20000 in
theorem gX11_mark_X7_valueOf_u234X7 : GoodIn wsX11_mark (va_wsO RX11 234 RX7 "TriangleRest$PlainSection" ⟨"TriangleRest$PlainSection", "valueOf", "(LTriangleRest;I)I"⟩ yX7_valueOf wsX7_valueOf) := goodIn_app (goodIn_of _ (by decide +kernel)) ggX11_mark_X7_valueOf
set_option maxRecDepth 20000 in
theorem ggX11_mark_X9_valueOf : GoodIn wsX11_mark wsX9_valueOf := goodIn_r _ [58, 59, 60, 15, 61, 24, 25, 26, 27, 28, 29, 11, 30, 31, 32, 9, 10, 12, 13, 62, 63, 64, 65, 66, 76, 77, 78, 79, 80, 81, 82, 83, 84, 85, 86, 87, 88, 89, 90, 91, 92, 93, 94, 95] (by decide +kernel) (by decide +kernel)
set_option maxRecDepth 20000 in
theorem gX11_mark_X9_valueOf_u234X9 : GoodIn wsX11_mark (va_wsO RX11 234 RX9 "TriangleRest$PlainSection" ⟨"TriangleRest$PlainSection", "valueOf", "(LTriangleRest;I)I"⟩ yX9_valueOf wsX9_valueOf) := goodIn_app (goodIn_of _ (by decide +kernel)) ggX11_mark_X9_valueOf
set_option maxRecDepth 20000 in
theorem ggX11_mark_X10_valueOf : GoodIn wsX11_mark wsX10_valueOf := goodIn_r _ [71, 72, 73, 74, 75, 18, 19, 20, 21, 22, 15, 23, 24, 25, 26, 27, 28, 29, 11, 30, 31, 32, 9, 10, 12, 13, 33, 34, 35, 36, 37, 76, 77, 78, 79, 80, 81, 82, 83, 84, 85, 86, 87, 88, 89, 90, 91, 92, 93, 94, 95] (by decide +kernel) (by decide +kernel)
set_option maxRecDepth 20000 in
theorem gX11_mark_X10_valueOf_u234X10 : GoodIn wsX11_mark (va_wsO RX11 234 RX10 "TriangleRest$PlainSection" ⟨"TriangleRest$PlainSection", "valueOf", "(LTriangleRest;I)I"⟩ yX10_valueOf wsX10_valueOf) := goodIn_app (goodIn_of _ (by decide +kernel)) ggX11_mark_X10_valueOf
theorem dX11_mark_0 : decode cX11_mark 0 = .ok (.iload_n 1, 1) := by decide +kernel
theorem dX11_mark_1 : decode cX11_mark 1 = .ok (.iconst 0, 1) := by decide +kernel
theorem dX11_mark_2 : decode cX11_mark 2 = .ok (.iconst 5, 1) := by decide +kernel
theorem dX11_mark_3 : decode cX11_mark 3 = .ok (.invokestatic 75, 3) := by decide +kernel
theorem dX11_mark_6 : decode cX11_mark 6 = .ok (.ifCond .eq 14, 3) := by decide +kernel
theorem dX11_mark_9 : decode cX11_mark 9 = .ok (.aload_n 0, 1) := by decide +kernel
theorem dX11_mark_10 : decode cX11_mark 10 = .ok (.getfield 19, 3) := by decide +kernel
theorem dX11_mark_13 : decode cX11_mark 13 = .ok (.iload_n 2, 1) := by decide +kernel
theorem dX11_mark_14 : decode cX11_mark 14 = .ok (.invokevirtual 107, 3) := by decide +kernel
theorem dX11_mark_17 : decode cX11_mark 17 = .ok (.ifCond .ne 6, 3) := by decide +kernel
theorem dX11_mark_20 : decode cX11_mark 20 = .ok (.ldc 166, 2) := by decide +kernel
theorem dX11_mark_22 : decode cX11_mark 22 = .ok (.ireturn, 1) := by decide +kernel
theorem dX11_mark_23 : decode cX11_mark 23 = .ok (.aload_n 0, 1) := by decide +kernel
theorem dX11_mark_24 : decode cX11_mark 24 = .ok (.getfield 55, 3) := by decide +kernel
theorem dX11_mark_27 : decode cX11_mark 27 = .ok (.iload_n 1, 1) := by decide +kernel
theorem dX11_mark_28 : decode cX11_mark 28 = .ok (.aaload, 1) := by decide +kernel
theorem dX11_mark_29 : decode cX11_mark 29 = .ok (.astore_n 3, 1) := by decide +kernel
theorem dX11_mark_30 : decode cX11_mark 30 = .ok (.aload_n 3, 1) := by decide +kernel
theorem dX11_mark_31 : decode cX11_mark 31 = .ok (.ifnonnull 8, 3) := by decide +kernel
theorem dX11_mark_34 : decode cX11_mark 34 = .ok (.ldc 166, 2) := by decide +kernel
theorem dX11_mark_36 : decode cX11_mark 36 = .ok (.goto 9, 3) := by decide +kernel
theorem dX11_mark_39 : decode cX11_mark 39 = .ok (.aload_n 3, 1) := by decide +kernel
theorem dX11_mark_40 : decode cX11_mark 40 = .ok (.aload_n 0, 1) := by decide +kernel
theorem dX11_mark_41 : decode cX11_mark 41 = .ok (.iload_n 2, 1) := by decide +kernel
theorem dX11_mark_42 : decode cX11_mark 42 = .ok (.invokevirtual 234, 3) := by decide +kernel
theorem dX11_mark_45 : decode cX11_mark 45 = .ok (.ireturn, 1) := by decide +kernel
set_option maxRecDepth 20000 in
theorem ggX11_keep_X11_isWithin : GoodIn wsX11_keep wsX11_isWithin := goodIn_r _ [7] (by decide +kernel) (by decide +kernel)
set_option maxRecDepth 20000 in
theorem gX11_keep_X11_isWithin : GoodIn wsX11_keep (va_wsS RX11 75 yX11_isWithin wsX11_isWithin) := goodIn_app (goodIn_of _ (by decide +kernel)) ggX11_keep_X11_isWithin
set_option maxRecDepth 20000 in
theorem ggX11_keep_X11_imageOf : GoodIn wsX11_keep wsX11_imageOf := goodIn_r _ [11, 12, 13, 30, 31, 32, 33, 34, 35, 36, 37, 38, 39, 40] (by decide +kernel) (by decide +kernel)
set_option maxRecDepth 20000 in
theorem gX11_keep_X11_imageOf : GoodIn wsX11_keep (wsV RX11 238 RX11 yX11_imageOf wsX11_imageOf) := goodIn_app (goodIn_of _ (by decide +kernel)) ggX11_keep_X11_imageOf
set_option maxRecDepth 20000 in
theorem ggX11_keep_X2_becomeLike : GoodIn wsX11_keep wsX2_becomeLike := goodIn_r _ [18, 19, 20, 21, 22, 23, 24, 25, 26, 27, 28, 29, 41, 42, 43, 44, 45, 46, 47] (by decide +kernel) (by decide +kernel)
set_option maxRecDepth 20000 in
theorem gX11_keep_X2_becomeLike : GoodIn wsX11_keep (wsV RX11 242 RX2 yX2_becomeLike wsX2_becomeLike) := goodIn_app (goodIn_of _ (by decide +kernel)) ggX11_keep_X2_becomeLike
theorem dX11_keep_0 : decode cX11_keep 0 = .ok (.iload_n 1, 1) := by decide +kernel
theorem dX11_keep_1 : decode cX11_keep 1 = .ok (.iconst 0, 1) := by decide +kernel
theorem dX11_keep_2 : decode cX11_keep 2 = .ok (.iconst 1, 1) := by decide +kernel
theorem dX11_keep_3 : decode cX11_keep 3 = .ok (.invokestatic 75, 3) := by decide +kernel
theorem dX11_keep_6 : decode cX11_keep 6 = .ok (.ifCond .ne 5, 3) := by decide +kernel
theorem dX11_keep_9 : decode cX11_keep 9 = .ok (.iconst (-1), 1) := by decide +kernel
theorem dX11_keep_10 : decode cX11_keep 10 = .ok (.ireturn, 1) := by decide +kernel
theorem dX11_keep_11 : decode cX11_keep 11 = .ok (.aload_n 0, 1) := by decide +kernel
theorem dX11_keep_12 : decode cX11_keep 12 = .ok (.iload_n 1, 1) := by decide +kernel
theorem dX11_keep_13 : decode cX11_keep 13 = .ok (.invokevirtual 238, 3) := by decide +kernel
theorem dX11_keep_16 : decode cX11_keep 16 = .ok (.aload_n 0, 1) := by decide +kernel
theorem dX11_keep_17 : decode cX11_keep 17 = .ok (.getfield 29, 3) := by decide +kernel
theorem dX11_keep_20 : decode cX11_keep 20 = .ok (.invokevirtual 242, 3) := by decide +kernel
theorem dX11_keep_23 : decode cX11_keep 23 = .ok (.aload_n 0, 1) := by decide +kernel
theorem dX11_keep_24 : decode cX11_keep 24 = .ok (.dup, 1) := by decide +kernel
theorem dX11_keep_25 : decode cX11_keep 25 = .ok (.getfield 104, 3) := by decide +kernel
theorem dX11_keep_28 : decode cX11_keep 28 = .ok (.iconst 1, 1) := by decide +kernel
theorem dX11_keep_29 : decode cX11_keep 29 = .ok (.iload_n 1, 1) := by decide +kernel
theorem dX11_keep_30 : decode cX11_keep 30 = .ok (.ishl, 1) := by decide +kernel
theorem dX11_keep_31 : decode cX11_keep 31 = .ok (.ior, 1) := by decide +kernel
theorem dX11_keep_32 : decode cX11_keep 32 = .ok (.putfield 104, 3) := by decide +kernel
theorem dX11_keep_35 : decode cX11_keep 35 = .ok (.aload_n 0, 1) := by decide +kernel
theorem dX11_keep_36 : decode cX11_keep 36 = .ok (.getfield 29, 3) := by decide +kernel
theorem dX11_keep_39 : decode cX11_keep 39 = .ok (.getfield 135, 3) := by decide +kernel
theorem dX11_keep_42 : decode cX11_keep 42 = .ok (.ireturn, 1) := by decide +kernel
set_option maxRecDepth 20000 in
theorem ggX11_back_X11_isWithin : GoodIn wsX11_back wsX11_isWithin := goodIn_r _ [7] (by decide +kernel) (by decide +kernel)
set_option maxRecDepth 20000 in
theorem gX11_back_X11_isWithin : GoodIn wsX11_back (va_wsS RX11 75 yX11_isWithin wsX11_isWithin) := goodIn_app (goodIn_of _ (by decide +kernel)) ggX11_back_X11_isWithin
set_option maxRecDepth 20000 in
theorem ggX11_back_X11_isIn : GoodIn wsX11_back wsX11_isIn := goodIn_r _ [10] (by decide +kernel) (by decide +kernel)
set_option maxRecDepth 20000 in
theorem gX11_back_X11_isIn : GoodIn wsX11_back (va_wsS RX11 123 yX11_isIn wsX11_isIn) := goodIn_app (goodIn_of _ (by decide +kernel)) ggX11_back_X11_isIn
set_option maxRecDepth 20000 in
theorem ggX11_back_X11_imageOf : GoodIn wsX11_back wsX11_imageOf := goodIn_r _ [14, 15, 16, 33, 34, 35, 36, 37, 38, 39, 40, 41, 42, 43] (by decide +kernel) (by decide +kernel)
set_option maxRecDepth 20000 in
theorem gX11_back_X11_imageOf : GoodIn wsX11_back (wsV RX11 238 RX11 yX11_imageOf wsX11_imageOf) := goodIn_app (goodIn_of _ (by decide +kernel)) ggX11_back_X11_imageOf
set_option maxRecDepth 20000 in
theorem ggX11_back_X2_becomeLike : GoodIn wsX11_back wsX2_becomeLike := goodIn_r _ [21, 22, 23, 24, 25, 26, 27, 28, 29, 30, 31, 32, 44, 45, 46, 47, 48, 49, 50] (by decide +kernel) (by decide +kernel)
set_option maxRecDepth 20000 in
theorem gX11_back_X2_becomeLike : GoodIn wsX11_back (wsV RX11 242 RX2 yX2_becomeLike wsX2_becomeLike) := goodIn_app (goodIn_of _ (by decide +kernel)) ggX11_back_X2_becomeLike
theorem dX11_back_0 : decode cX11_back 0 = .ok (.iload_n 1, 1) := by decide +kernel
theorem dX11_back_1 : decode cX11_back 1 = .ok (.iconst 0, 1) := by decide +kernel
theorem dX11_back_2 : decode cX11_back 2 = .ok (.iconst 1, 1) := by decide +kernel
theorem dX11_back_3 : decode cX11_back 3 = .ok (.invokestatic 75, 3) := by decide +kernel
theorem dX11_back_6 : decode cX11_back 6 = .ok (.ifCond .ne 5, 3) := by decide +kernel
theorem dX11_back_9 : decode cX11_back 9 = .ok (.iconst (-1), 1) := by decide +kernel
theorem dX11_back_10 : decode cX11_back 10 = .ok (.ireturn, 1) := by decide +kernel
theorem dX11_back_11 : decode cX11_back 11 = .ok (.aload_n 0, 1) := by decide +kernel
theorem dX11_back_12 : decode cX11_back 12 = .ok (.getfield 104, 3) := by decide +kernel
theorem dX11_back_15 : decode cX11_back 15 = .ok (.iload_n 1, 1) := by decide +kernel
theorem dX11_back_16 : decode cX11_back 16 = .ok (.invokestatic 123, 3) := by decide +kernel
theorem dX11_back_19 : decode cX11_back 19 = .ok (.ifCond .ne 6, 3) := by decide +kernel
theorem dX11_back_22 : decode cX11_back 22 = .ok (.bipush (-2), 2) := by decide +kernel
theorem dX11_back_24 : decode cX11_back 24 = .ok (.ireturn, 1) := by decide +kernel
theorem dX11_back_25 : decode cX11_back 25 = .ok (.aload_n 0, 1) := by decide +kernel
theorem dX11_back_26 : decode cX11_back 26 = .ok (.getfield 29, 3) := by decide +kernel
theorem dX11_back_29 : decode cX11_back 29 = .ok (.aload_n 0, 1) := by decide +kernel
theorem dX11_back_30 : decode cX11_back 30 = .ok (.iload_n 1, 1) := by decide +kernel
theorem dX11_back_31 : decode cX11_back 31 = .ok (.invokevirtual 238, 3) := by decide +kernel
theorem dX11_back_34 : decode cX11_back 34 = .ok (.invokevirtual 242, 3) := by decide +kernel
theorem dX11_back_37 : decode cX11_back 37 = .ok (.aload_n 0, 1) := by decide +kernel
theorem dX11_back_38 : decode cX11_back 38 = .ok (.getfield 29, 3) := by decide +kernel
theorem dX11_back_41 : decode cX11_back 41 = .ok (.getfield 135, 3) := by decide +kernel
theorem dX11_back_44 : decode cX11_back 44 = .ok (.ireturn, 1) := by decide +kernel
theorem dX11_count_0 : decode cX11_count 0 = .ok (.iload_n 1, 1) := by decide +kernel
theorem dX11_count_1 : decode cX11_count 1 = .ok (.tableswitch 75 0 4 #[35, 43, 51, 59, 67], 35) := by decide +kernel
theorem dX11_count_36 : decode cX11_count 36 = .ok (.aload_n 0, 1) := by decide +kernel
theorem dX11_count_37 : decode cX11_count 37 = .ok (.getfield 19, 3) := by decide +kernel
theorem dX11_count_40 : decode cX11_count 40 = .ok (.getfield 183, 3) := by decide +kernel
theorem dX11_count_43 : decode cX11_count 43 = .ok (.ireturn, 1) := by decide +kernel
theorem dX11_count_44 : decode cX11_count 44 = .ok (.aload_n 0, 1) := by decide +kernel
theorem dX11_count_45 : decode cX11_count 45 = .ok (.getfield 19, 3) := by decide +kernel
theorem dX11_count_48 : decode cX11_count 48 = .ok (.getfield 219, 3) := by decide +kernel
theorem dX11_count_51 : decode cX11_count 51 = .ok (.ireturn, 1) := by decide +kernel
theorem dX11_count_52 : decode cX11_count 52 = .ok (.aload_n 0, 1) := by decide +kernel
theorem dX11_count_53 : decode cX11_count 53 = .ok (.getfield 42, 3) := by decide +kernel
theorem dX11_count_56 : decode cX11_count 56 = .ok (.getfield 101, 3) := by decide +kernel
theorem dX11_count_59 : decode cX11_count 59 = .ok (.ireturn, 1) := by decide +kernel
theorem dX11_count_60 : decode cX11_count 60 = .ok (.aload_n 0, 1) := by decide +kernel
theorem dX11_count_61 : decode cX11_count 61 = .ok (.getfield 29, 3) := by decide +kernel
theorem dX11_count_64 : decode cX11_count 64 = .ok (.getfield 177, 3) := by decide +kernel
theorem dX11_count_67 : decode cX11_count 67 = .ok (.ireturn, 1) := by decide +kernel
theorem dX11_count_68 : decode cX11_count 68 = .ok (.aload_n 0, 1) := by decide +kernel
theorem dX11_count_69 : decode cX11_count 69 = .ok (.getfield 12, 3) := by decide +kernel
theorem dX11_count_72 : decode cX11_count 72 = .ok (.getfield 83, 3) := by decide +kernel
theorem dX11_count_75 : decode cX11_count 75 = .ok (.ireturn, 1) := by decide +kernel
theorem dX11_count_76 : decode cX11_count 76 = .ok (.iconst (-1), 1) := by decide +kernel
theorem dX11_count_77 : decode cX11_count 77 = .ok (.ireturn, 1) := by decide +kernel
theorem dX11_trace_0 : decode cX11_trace 0 = .ok (.aload_n 0, 1) := by decide +kernel
theorem dX11_trace_1 : decode cX11_trace 1 = .ok (.getfield 245, 3) := by decide +kernel
theorem dX11_trace_4 : decode cX11_trace 4 = .ok (.lreturn, 1) := by decide +kernel
theorem dX11_imageOf_0 : decode cX11_imageOf 0 = .ok (.iload_n 1, 1) := by decide +kernel
theorem dX11_imageOf_1 : decode cX11_imageOf 1 = .ok (.ifCond .ne 10, 3) := by decide +kernel
theorem dX11_imageOf_4 : decode cX11_imageOf 4 = .ok (.aload_n 0, 1) := by decide +kernel
theorem dX11_imageOf_5 : decode cX11_imageOf 5 = .ok (.getfield 33, 3) := by decide +kernel
theorem dX11_imageOf_8 : decode cX11_imageOf 8 = .ok (.goto 7, 3) := by decide +kernel
theorem dX11_imageOf_11 : decode cX11_imageOf 11 = .ok (.aload_n 0, 1) := by decide +kernel
theorem dX11_imageOf_12 : decode cX11_imageOf 12 = .ok (.getfield 36, 3) := by decide +kernel
theorem dX11_imageOf_15 : decode cX11_imageOf 15 = .ok (.areturn, 1) := by decide +kernel
set_option maxRecDepth 20000 in
theorem ggX11_cuttableNow_X6_allCuttable : GoodIn wsX11_cuttableNow wsX6_allCuttable := goodIn_r _ [9, 10, 11, 12, 13, 8, 14, 15, 16, 17, 18, 19, 20, 21, 22, 23, 24, 25, 26, 27, 28, 29, 30, 31, 32, 33, 34, 35, 36, 37, 56, 57, 58, 59, 60, 61, 62, 63, 64] (by decide +kernel) (by decide +kernel)
set_option maxRecDepth 20000 in
theorem gX11_cuttableNow_X6_allCuttable : GoodIn wsX11_cuttableNow (wsV RX11 249 RX6 yX6_allCuttable wsX6_allCuttable) := goodIn_app (goodIn_of _ (by decide +kernel)) ggX11_cuttableNow_X6_allCuttable
theorem dX11_cuttableNow_0 : decode cX11_cuttableNow 0 = .ok (.aload_n 0, 1) := by decide +kernel
theorem dX11_cuttableNow_1 : decode cX11_cuttableNow 1 = .ok (.getfield 19, 3) := by decide +kernel
theorem dX11_cuttableNow_4 : decode cX11_cuttableNow 4 = .ok (.aload_n 0, 1) := by decide +kernel
theorem dX11_cuttableNow_5 : decode cX11_cuttableNow 5 = .ok (.getfield 29, 3) := by decide +kernel
theorem dX11_cuttableNow_8 : decode cX11_cuttableNow 8 = .ok (.getfield 120, 3) := by decide +kernel
theorem dX11_cuttableNow_11 : decode cX11_cuttableNow 11 = .ok (.aload_n 0, 1) := by decide +kernel
theorem dX11_cuttableNow_12 : decode cX11_cuttableNow 12 = .ok (.getfield 29, 3) := by decide +kernel
theorem dX11_cuttableNow_15 : decode cX11_cuttableNow 15 = .ok (.getfield 135, 3) := by decide +kernel
theorem dX11_cuttableNow_18 : decode cX11_cuttableNow 18 = .ok (.invokevirtual 249, 3) := by decide +kernel
theorem dX11_cuttableNow_21 : decode cX11_cuttableNow 21 = .ok (.ireturn, 1) := by decide +kernel
theorem dX11_isWithin_0 : decode cX11_isWithin 0 = .ok (.iload_n 0, 1) := by decide +kernel
theorem dX11_isWithin_1 : decode cX11_isWithin 1 = .ok (.iload_n 1, 1) := by decide +kernel
theorem dX11_isWithin_2 : decode cX11_isWithin 2 = .ok (.if_icmp .lt 12, 3) := by decide +kernel
theorem dX11_isWithin_5 : decode cX11_isWithin 5 = .ok (.iload_n 0, 1) := by decide +kernel
theorem dX11_isWithin_6 : decode cX11_isWithin 6 = .ok (.iload_n 2, 1) := by decide +kernel
theorem dX11_isWithin_7 : decode cX11_isWithin 7 = .ok (.if_icmp .gt 7, 3) := by decide +kernel
theorem dX11_isWithin_10 : decode cX11_isWithin 10 = .ok (.iconst 1, 1) := by decide +kernel
theorem dX11_isWithin_11 : decode cX11_isWithin 11 = .ok (.goto 4, 3) := by decide +kernel
theorem dX11_isWithin_14 : decode cX11_isWithin 14 = .ok (.iconst 0, 1) := by decide +kernel
theorem dX11_isWithin_15 : decode cX11_isWithin 15 = .ok (.ireturn, 1) := by decide +kernel
theorem dX11_isIn_0 : decode cX11_isIn 0 = .ok (.iload_n 0, 1) := by decide +kernel
theorem dX11_isIn_1 : decode cX11_isIn 1 = .ok (.iload_n 1, 1) := by decide +kernel
theorem dX11_isIn_2 : decode cX11_isIn 2 = .ok (.ishr, 1) := by decide +kernel
theorem dX11_isIn_3 : decode cX11_isIn 3 = .ok (.iconst 1, 1) := by decide +kernel
theorem dX11_isIn_4 : decode cX11_isIn 4 = .ok (.iand, 1) := by decide +kernel
theorem dX11_isIn_5 : decode cX11_isIn 5 = .ok (.iconst 1, 1) := by decide +kernel
theorem dX11_isIn_6 : decode cX11_isIn 6 = .ok (.if_icmp .ne 7, 3) := by decide +kernel
theorem dX11_isIn_9 : decode cX11_isIn 9 = .ok (.iconst 1, 1) := by decide +kernel
theorem dX11_isIn_10 : decode cX11_isIn 10 = .ok (.goto 4, 3) := by decide +kernel
theorem dX11_isIn_13 : decode cX11_isIn 13 = .ok (.iconst 0, 1) := by decide +kernel
theorem dX11_isIn_14 : decode cX11_isIn 14 = .ok (.ireturn, 1) := by decide +kernel
theorem dX11_oneIf_0 : decode cX11_oneIf 0 = .ok (.iload_n 0, 1) := by decide +kernel
theorem dX11_oneIf_1 : decode cX11_oneIf 1 = .ok (.ifCond .eq 7, 3) := by decide +kernel
theorem dX11_oneIf_4 : decode cX11_oneIf 4 = .ok (.iconst 1, 1) := by decide +kernel
theorem dX11_oneIf_5 : decode cX11_oneIf 5 = .ok (.goto 4, 3) := by decide +kernel
theorem dX11_oneIf_8 : decode cX11_oneIf 8 = .ok (.iconst 0, 1) := by decide +kernel
theorem dX11_oneIf_9 : decode cX11_oneIf 9 = .ok (.ireturn, 1) := by decide +kernel
theorem dX11_greatestDivisor_0 : decode cX11_greatestDivisor 0 = .ok (.iload_n 0, 1) := by decide +kernel
theorem dX11_greatestDivisor_1 : decode cX11_greatestDivisor 1 = .ok (.istore_n 2, 1) := by decide +kernel
theorem dX11_greatestDivisor_2 : decode cX11_greatestDivisor 2 = .ok (.iload_n 1, 1) := by decide +kernel
theorem dX11_greatestDivisor_3 : decode cX11_greatestDivisor 3 = .ok (.istore_n 3, 1) := by decide +kernel
theorem dX11_greatestDivisor_4 : decode cX11_greatestDivisor 4 = .ok (.iconst 0, 1) := by decide +kernel
theorem dX11_greatestDivisor_5 : decode cX11_greatestDivisor 5 = .ok (.istore 4, 2) := by decide +kernel
theorem dX11_greatestDivisor_7 : decode cX11_greatestDivisor 7 = .ok (.iload 4, 2) := by decide +kernel
theorem dX11_greatestDivisor_9 : decode cX11_greatestDivisor 9 = .ok (.bipush 64, 2) := by decide +kernel
theorem dX11_greatestDivisor_11 : decode cX11_greatestDivisor 11 = .ok (.if_icmp .ge 23, 3) := by decide +kernel
theorem dX11_greatestDivisor_14 : decode cX11_greatestDivisor 14 = .ok (.iload_n 3, 1) := by decide +kernel
theorem dX11_greatestDivisor_15 : decode cX11_greatestDivisor 15 = .ok (.ifCond .eq 19, 3) := by decide +kernel
theorem dX11_greatestDivisor_18 : decode cX11_greatestDivisor 18 = .ok (.iload_n 2, 1) := by decide +kernel
theorem dX11_greatestDivisor_19 : decode cX11_greatestDivisor 19 = .ok (.iload_n 3, 1) := by decide +kernel
theorem dX11_greatestDivisor_20 : decode cX11_greatestDivisor 20 = .ok (.irem, 1) := by decide +kernel
theorem dX11_greatestDivisor_21 : decode cX11_greatestDivisor 21 = .ok (.istore 5, 2) := by decide +kernel
theorem dX11_greatestDivisor_23 : decode cX11_greatestDivisor 23 = .ok (.iload_n 3, 1) := by decide +kernel
theorem dX11_greatestDivisor_24 : decode cX11_greatestDivisor 24 = .ok (.istore_n 2, 1) := by decide +kernel
theorem dX11_greatestDivisor_25 : decode cX11_greatestDivisor 25 = .ok (.iload 5, 2) := by decide +kernel
theorem dX11_greatestDivisor_27 : decode cX11_greatestDivisor 27 = .ok (.istore_n 3, 1) := by decide +kernel
theorem dX11_greatestDivisor_28 : decode cX11_greatestDivisor 28 = .ok (.iinc 4 1, 3) := by decide +kernel
theorem dX11_greatestDivisor_31 : decode cX11_greatestDivisor 31 = .ok (.goto (-24), 3) := by decide +kernel
theorem dX11_greatestDivisor_34 : decode cX11_greatestDivisor 34 = .ok (.iload_n 2, 1) := by decide +kernel
theorem dX11_greatestDivisor_35 : decode cX11_greatestDivisor 35 = .ok (.ireturn, 1) := by decide +kernel
set_option maxRecDepth 20000 in
theorem ggX12_init_X12_reads : GoodIn wsX12_init wsX12_reads := goodIn_r _ [21, 7, 22, 23, 24, 25, 26, 20, 27, 28, 29, 5, 30, 31, 32, 33, 34, 35, 36, 37, 38, 39, 40, 41, 42, 43, 44, 45, 46, 47, 48, 49, 50, 51, 57, 58, 59, 60, 61, 62, 63, 64, 65, 66, 67, 68, 69, 70, 71, 72, 73, 74] (by decide +kernel) (by decide +kernel)
set_option maxRecDepth 20000 in
theorem gX12_init_X12_reads : GoodIn wsX12_init (wsV RX12 44 RX12 yX12_reads wsX12_reads) := goodIn_app (goodIn_of _ (by decide +kernel)) ggX12_init_X12_reads
set_option maxRecDepth 20000 in
theorem ggX12_init_X12_begins : GoodIn wsX12_init wsX12_begins := goodIn_r _ [55, 6, 7, 8, 56, 11, 57, 58, 59, 60, 61, 62, 63, 64, 65, 66, 67, 68, 69, 70, 71, 72, 73, 74] (by decide +kernel) (by decide +kernel)
set_option maxRecDepth 20000 in
theorem gX12_init_X12_begins : GoodIn wsX12_init (wsV RX12 48 RX12 yX12_begins wsX12_begins) := goodIn_app (goodIn_of _ (by decide +kernel)) ggX12_init_X12_begins
theorem dX12_init_0 : decode cX12_init 0 = .ok (.aload_n 0, 1) := by decide +kernel
theorem dX12_init_1 : decode cX12_init 1 = .ok (.invokespecial 1, 3) := by decide +kernel
theorem dX12_init_4 : decode cX12_init 4 = .ok (.aload_n 0, 1) := by decide +kernel
theorem dX12_init_5 : decode cX12_init 5 = .ok (.bipush 120, 2) := by decide +kernel
theorem dX12_init_7 : decode cX12_init 7 = .ok (.newarray .int, 2) := by decide +kernel
theorem dX12_init_9 : decode cX12_init 9 = .ok (.putfield 7, 3) := by decide +kernel
theorem dX12_init_12 : decode cX12_init 12 = .ok (.aload_n 0, 1) := by decide +kernel
theorem dX12_init_13 : decode cX12_init 13 = .ok (.bipush 36, 2) := by decide +kernel
theorem dX12_init_15 : decode cX12_init 15 = .ok (.newarray .int, 2) := by decide +kernel
theorem dX12_init_17 : decode cX12_init 17 = .ok (.putfield 13, 3) := by decide +kernel
theorem dX12_init_20 : decode cX12_init 20 = .ok (.aload_n 0, 1) := by decide +kernel
theorem dX12_init_21 : decode cX12_init 21 = .ok (.bipush 36, 2) := by decide +kernel
theorem dX12_init_23 : decode cX12_init 23 = .ok (.newarray .int, 2) := by decide +kernel
theorem dX12_init_25 : decode cX12_init 25 = .ok (.putfield 16, 3) := by decide +kernel
theorem dX12_init_28 : decode cX12_init 28 = .ok (.aload_n 0, 1) := by decide +kernel
theorem dX12_init_29 : decode cX12_init 29 = .ok (.bipush 56, 2) := by decide +kernel
theorem dX12_init_31 : decode cX12_init 31 = .ok (.newarray .int, 2) := by decide +kernel
theorem dX12_init_33 : decode cX12_init 33 = .ok (.putfield 19, 3) := by decide +kernel
theorem dX12_init_36 : decode cX12_init 36 = .ok (.aload_n 0, 1) := by decide +kernel
theorem dX12_init_37 : decode cX12_init 37 = .ok (.bipush 112, 2) := by decide +kernel
theorem dX12_init_39 : decode cX12_init 39 = .ok (.newarray .int, 2) := by decide +kernel
theorem dX12_init_41 : decode cX12_init 41 = .ok (.putfield 22, 3) := by decide +kernel
theorem dX12_init_44 : decode cX12_init 44 = .ok (.aload_n 0, 1) := by decide +kernel
theorem dX12_init_45 : decode cX12_init 45 = .ok (.iconst 2, 1) := by decide +kernel
theorem dX12_init_46 : decode cX12_init 46 = .ok (.newarray .boolean, 2) := by decide +kernel
theorem dX12_init_48 : decode cX12_init 48 = .ok (.putfield 25, 3) := by decide +kernel
theorem dX12_init_51 : decode cX12_init 51 = .ok (.aload_n 0, 1) := by decide +kernel
theorem dX12_init_52 : decode cX12_init 52 = .ok (.bipush 8, 2) := by decide +kernel
theorem dX12_init_54 : decode cX12_init 54 = .ok (.newarray .int, 2) := by decide +kernel
theorem dX12_init_56 : decode cX12_init 56 = .ok (.putfield 29, 3) := by decide +kernel
theorem dX12_init_59 : decode cX12_init 59 = .ok (.aload_n 0, 1) := by decide +kernel
theorem dX12_init_60 : decode cX12_init 60 = .ok (.sipush 1100, 3) := by decide +kernel
theorem dX12_init_63 : decode cX12_init 63 = .ok (.newarray .int, 2) := by decide +kernel
theorem dX12_init_65 : decode cX12_init 65 = .ok (.putfield 32, 3) := by decide +kernel
theorem dX12_init_68 : decode cX12_init 68 = .ok (.aload_n 0, 1) := by decide +kernel
theorem dX12_init_69 : decode cX12_init 69 = .ok (.iconst 5, 1) := by decide +kernel
theorem dX12_init_70 : decode cX12_init 70 = .ok (.newarray .int, 2) := by decide +kernel
theorem dX12_init_72 : decode cX12_init 72 = .ok (.putfield 35, 3) := by decide +kernel
theorem dX12_init_75 : decode cX12_init 75 = .ok (.aload_n 0, 1) := by decide +kernel
theorem dX12_init_76 : decode cX12_init 76 = .ok (.bipush 8, 2) := by decide +kernel
theorem dX12_init_78 : decode cX12_init 78 = .ok (.newarray .int, 2) := by decide +kernel
theorem dX12_init_80 : decode cX12_init 80 = .ok (.putfield 38, 3) := by decide +kernel
theorem dX12_init_83 : decode cX12_init 83 = .ok (.aload_n 0, 1) := by decide +kernel
theorem dX12_init_84 : decode cX12_init 84 = .ok (.bipush 6, 2) := by decide +kernel
theorem dX12_init_86 : decode cX12_init 86 = .ok (.newarray .int, 2) := by decide +kernel
theorem dX12_init_88 : decode cX12_init 88 = .ok (.putfield 41, 3) := by decide +kernel
theorem dX12_init_91 : decode cX12_init 91 = .ok (.aload_n 0, 1) := by decide +kernel
theorem dX12_init_92 : decode cX12_init 92 = .ok (.invokevirtual 44, 3) := by decide +kernel
theorem dX12_init_95 : decode cX12_init 95 = .ok (.pop, 1) := by decide +kernel
theorem dX12_init_96 : decode cX12_init 96 = .ok (.aload_n 0, 1) := by decide +kernel
theorem dX12_init_97 : decode cX12_init 97 = .ok (.invokevirtual 48, 3) := by decide +kernel
theorem dX12_init_100 : decode cX12_init 100 = .ok (.return_, 1) := by decide +kernel
theorem dX12_in_0 : decode cX12_in 0 = .ok (.iload_n 0, 1) := by decide +kernel
theorem dX12_in_1 : decode cX12_in 1 = .ok (.iload_n 1, 1) := by decide +kernel
theorem dX12_in_2 : decode cX12_in 2 = .ok (.if_icmp .lt 12, 3) := by decide +kernel
theorem dX12_in_5 : decode cX12_in 5 = .ok (.iload_n 0, 1) := by decide +kernel
theorem dX12_in_6 : decode cX12_in 6 = .ok (.iload_n 2, 1) := by decide +kernel
theorem dX12_in_7 : decode cX12_in 7 = .ok (.if_icmp .gt 7, 3) := by decide +kernel
theorem dX12_in_10 : decode cX12_in 10 = .ok (.iconst 1, 1) := by decide +kernel
theorem dX12_in_11 : decode cX12_in 11 = .ok (.goto 4, 3) := by decide +kernel
theorem dX12_in_14 : decode cX12_in 14 = .ok (.iconst 0, 1) := by decide +kernel
theorem dX12_in_15 : decode cX12_in 15 = .ok (.ireturn, 1) := by decide +kernel
theorem dX12_has_0 : decode cX12_has 0 = .ok (.iload_n 0, 1) := by decide +kernel
theorem dX12_has_1 : decode cX12_has 1 = .ok (.iload_n 1, 1) := by decide +kernel
theorem dX12_has_2 : decode cX12_has 2 = .ok (.ishr, 1) := by decide +kernel
theorem dX12_has_3 : decode cX12_has 3 = .ok (.iconst 1, 1) := by decide +kernel
theorem dX12_has_4 : decode cX12_has 4 = .ok (.iand, 1) := by decide +kernel
theorem dX12_has_5 : decode cX12_has 5 = .ok (.iconst 1, 1) := by decide +kernel
theorem dX12_has_6 : decode cX12_has 6 = .ok (.if_icmp .ne 7, 3) := by decide +kernel
theorem dX12_has_9 : decode cX12_has 9 = .ok (.iconst 1, 1) := by decide +kernel
theorem dX12_has_10 : decode cX12_has 10 = .ok (.goto 4, 3) := by decide +kernel
theorem dX12_has_13 : decode cX12_has 13 = .ok (.iconst 0, 1) := by decide +kernel
theorem dX12_has_14 : decode cX12_has 14 = .ok (.ireturn, 1) := by decide +kernel
theorem dX12_ones_0 : decode cX12_ones 0 = .ok (.iconst 0, 1) := by decide +kernel
theorem dX12_ones_1 : decode cX12_ones 1 = .ok (.istore_n 1, 1) := by decide +kernel
theorem dX12_ones_2 : decode cX12_ones 2 = .ok (.iconst 0, 1) := by decide +kernel
theorem dX12_ones_3 : decode cX12_ones 3 = .ok (.istore_n 2, 1) := by decide +kernel
theorem dX12_ones_4 : decode cX12_ones 4 = .ok (.iload_n 2, 1) := by decide +kernel
theorem dX12_ones_5 : decode cX12_ones 5 = .ok (.bipush 8, 2) := by decide +kernel
theorem dX12_ones_7 : decode cX12_ones 7 = .ok (.if_icmp .ge 17, 3) := by decide +kernel
theorem dX12_ones_10 : decode cX12_ones 10 = .ok (.iload_n 1, 1) := by decide +kernel
theorem dX12_ones_11 : decode cX12_ones 11 = .ok (.iload_n 0, 1) := by decide +kernel
theorem dX12_ones_12 : decode cX12_ones 12 = .ok (.iload_n 2, 1) := by decide +kernel
theorem dX12_ones_13 : decode cX12_ones 13 = .ok (.ishr, 1) := by decide +kernel
theorem dX12_ones_14 : decode cX12_ones 14 = .ok (.iconst 1, 1) := by decide +kernel
theorem dX12_ones_15 : decode cX12_ones 15 = .ok (.iand, 1) := by decide +kernel
theorem dX12_ones_16 : decode cX12_ones 16 = .ok (.iadd, 1) := by decide +kernel
theorem dX12_ones_17 : decode cX12_ones 17 = .ok (.istore_n 1, 1) := by decide +kernel
theorem dX12_ones_18 : decode cX12_ones 18 = .ok (.iinc 2 1, 3) := by decide +kernel
theorem dX12_ones_21 : decode cX12_ones 21 = .ok (.goto (-17), 3) := by decide +kernel
theorem dX12_ones_24 : decode cX12_ones 24 = .ok (.iload_n 1, 1) := by decide +kernel
theorem dX12_ones_25 : decode cX12_ones 25 = .ok (.ireturn, 1) := by decide +kernel
set_option maxRecDepth 20000 in
theorem ggX12_isSection_X12_in : GoodIn wsX12_isSection wsX12_in := goodIn_r _ [5] (by decide +kernel) (by decide +kernel)
set_option maxRecDepth 20000 in
theorem gX12_isSection_X12_in : GoodIn wsX12_isSection (va_wsS RX12 51 yX12_in wsX12_in) := goodIn_app (goodIn_of _ (by decide +kernel)) ggX12_isSection_X12_in
theorem dX12_isSection_0 : decode cX12_isSection 0 = .ok (.iload_n 1, 1) := by decide +kernel
theorem dX12_isSection_1 : decode cX12_isSection 1 = .ok (.iconst 0, 1) := by decide +kernel
theorem dX12_isSection_2 : decode cX12_isSection 2 = .ok (.aload_n 0, 1) := by decide +kernel
theorem dX12_isSection_3 : decode cX12_isSection 3 = .ok (.getfield 13, 3) := by decide +kernel
theorem dX12_isSection_6 : decode cX12_isSection 6 = .ok (.iconst 0, 1) := by decide +kernel
theorem dX12_isSection_7 : decode cX12_isSection 7 = .ok (.iaload, 1) := by decide +kernel
theorem dX12_isSection_8 : decode cX12_isSection 8 = .ok (.iconst 1, 1) := by decide +kernel
theorem dX12_isSection_9 : decode cX12_isSection 9 = .ok (.isub, 1) := by decide +kernel
theorem dX12_isSection_10 : decode cX12_isSection 10 = .ok (.invokestatic 51, 3) := by decide +kernel
theorem dX12_isSection_13 : decode cX12_isSection 13 = .ok (.ireturn, 1) := by decide +kernel
set_option maxRecDepth 20000 in
theorem ggX12_type_X12_in : GoodIn wsX12_type wsX12_in := goodIn_r _ [6] (by decide +kernel) (by decide +kernel)
set_option maxRecDepth 20000 in
theorem gX12_type_X12_in : GoodIn wsX12_type (va_wsS RX12 51 yX12_in wsX12_in) := goodIn_app (goodIn_of _ (by decide +kernel)) ggX12_type_X12_in
theorem dX12_type_0 : decode cX12_type 0 = .ok (.iload_n 1, 1) := by decide +kernel
