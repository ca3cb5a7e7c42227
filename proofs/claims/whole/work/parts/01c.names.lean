theorem dX6_addSection_29 : decode cX6_addSection 29 = .ok (.aload_n 0, 1) := by decide +kernel
theorem dX6_addSection_30 : decode cX6_addSection 30 = .ok (.getfield 18, 3) := by decide +kernel
theorem dX6_addSection_33 : decode cX6_addSection 33 = .ok (.aload_n 0, 1) := by decide +kernel
theorem dX6_addSection_34 : decode cX6_addSection 34 = .ok (.getfield 24, 3) := by decide +kernel
theorem dX6_addSection_37 : decode cX6_addSection 37 = .ok (.iload_n 3, 1) := by decide +kernel
theorem dX6_addSection_38 : decode cX6_addSection 38 = .ok (.iastore, 1) := by decide +kernel
theorem dX6_addSection_39 : decode cX6_addSection 39 = .ok (.aload_n 0, 1) := by decide +kernel
theorem dX6_addSection_40 : decode cX6_addSection 40 = .ok (.dup, 1) := by decide +kernel
theorem dX6_addSection_41 : decode cX6_addSection 41 = .ok (.getfield 24, 3) := by decide +kernel
theorem dX6_addSection_44 : decode cX6_addSection 44 = .ok (.iconst 1, 1) := by decide +kernel
theorem dX6_addSection_45 : decode cX6_addSection 45 = .ok (.iadd, 1) := by decide +kernel
theorem dX6_addSection_46 : decode cX6_addSection 46 = .ok (.putfield 24, 3) := by decide +kernel
theorem dX6_addSection_49 : decode cX6_addSection 49 = .ok (.return_, 1) := by decide +kernel
theorem dX6_addThing_0 : decode cX6_addThing 0 = .ok (.aload_n 0, 1) := by decide +kernel
theorem dX6_addThing_1 : decode cX6_addThing 1 = .ok (.getfield 28, 3) := by decide +kernel
theorem dX6_addThing_4 : decode cX6_addThing 4 = .ok (.bipush 6, 2) := by decide +kernel
theorem dX6_addThing_6 : decode cX6_addThing 6 = .ok (.if_icmp .ge 23, 3) := by decide +kernel
theorem dX6_addThing_9 : decode cX6_addThing 9 = .ok (.aload_n 0, 1) := by decide +kernel
theorem dX6_addThing_10 : decode cX6_addThing 10 = .ok (.getfield 21, 3) := by decide +kernel
theorem dX6_addThing_13 : decode cX6_addThing 13 = .ok (.aload_n 0, 1) := by decide +kernel
theorem dX6_addThing_14 : decode cX6_addThing 14 = .ok (.getfield 28, 3) := by decide +kernel
theorem dX6_addThing_17 : decode cX6_addThing 17 = .ok (.iload_n 1, 1) := by decide +kernel
theorem dX6_addThing_18 : decode cX6_addThing 18 = .ok (.iastore, 1) := by decide +kernel
theorem dX6_addThing_19 : decode cX6_addThing 19 = .ok (.aload_n 0, 1) := by decide +kernel
theorem dX6_addThing_20 : decode cX6_addThing 20 = .ok (.dup, 1) := by decide +kernel
theorem dX6_addThing_21 : decode cX6_addThing 21 = .ok (.getfield 28, 3) := by decide +kernel
theorem dX6_addThing_24 : decode cX6_addThing 24 = .ok (.iconst 1, 1) := by decide +kernel
theorem dX6_addThing_25 : decode cX6_addThing 25 = .ok (.iadd, 1) := by decide +kernel
theorem dX6_addThing_26 : decode cX6_addThing 26 = .ok (.putfield 28, 3) := by decide +kernel
theorem dX6_addThing_29 : decode cX6_addThing 29 = .ok (.return_, 1) := by decide +kernel
theorem dX6_tellNote_0 : decode cX6_tellNote 0 = .ok (.aload_n 0, 1) := by decide +kernel
theorem dX6_tellNote_1 : decode cX6_tellNote 1 = .ok (.iconst 1, 1) := by decide +kernel
theorem dX6_tellNote_2 : decode cX6_tellNote 2 = .ok (.putfield 31, 3) := by decide +kernel
theorem dX6_tellNote_5 : decode cX6_tellNote 5 = .ok (.aload_n 0, 1) := by decide +kernel
theorem dX6_tellNote_6 : decode cX6_tellNote 6 = .ok (.iload_n 1, 1) := by decide +kernel
theorem dX6_tellNote_7 : decode cX6_tellNote 7 = .ok (.putfield 35, 3) := by decide +kernel
theorem dX6_tellNote_10 : decode cX6_tellNote 10 = .ok (.aload_n 0, 1) := by decide +kernel
theorem dX6_tellNote_11 : decode cX6_tellNote 11 = .ok (.iload_n 2, 1) := by decide +kernel
theorem dX6_tellNote_12 : decode cX6_tellNote 12 = .ok (.putfield 38, 3) := by decide +kernel
theorem dX6_tellNote_15 : decode cX6_tellNote 15 = .ok (.return_, 1) := by decide +kernel
theorem dX6_hasSection_0 : decode cX6_hasSection 0 = .ok (.iload_n 1, 1) := by decide +kernel
theorem dX6_hasSection_1 : decode cX6_hasSection 1 = .ok (.ifCond .lt 15, 3) := by decide +kernel
theorem dX6_hasSection_4 : decode cX6_hasSection 4 = .ok (.iload_n 1, 1) := by decide +kernel
theorem dX6_hasSection_5 : decode cX6_hasSection 5 = .ok (.aload_n 0, 1) := by decide +kernel
theorem dX6_hasSection_6 : decode cX6_hasSection 6 = .ok (.getfield 24, 3) := by decide +kernel
theorem dX6_hasSection_9 : decode cX6_hasSection 9 = .ok (.if_icmp .ge 7, 3) := by decide +kernel
theorem dX6_hasSection_12 : decode cX6_hasSection 12 = .ok (.iconst 1, 1) := by decide +kernel
theorem dX6_hasSection_13 : decode cX6_hasSection 13 = .ok (.goto 4, 3) := by decide +kernel
theorem dX6_hasSection_16 : decode cX6_hasSection 16 = .ok (.iconst 0, 1) := by decide +kernel
theorem dX6_hasSection_17 : decode cX6_hasSection 17 = .ok (.ireturn, 1) := by decide +kernel
theorem dX6_hasThing_0 : decode cX6_hasThing 0 = .ok (.iload_n 1, 1) := by decide +kernel
theorem dX6_hasThing_1 : decode cX6_hasThing 1 = .ok (.ifCond .lt 15, 3) := by decide +kernel
theorem dX6_hasThing_4 : decode cX6_hasThing 4 = .ok (.iload_n 1, 1) := by decide +kernel
theorem dX6_hasThing_5 : decode cX6_hasThing 5 = .ok (.aload_n 0, 1) := by decide +kernel
theorem dX6_hasThing_6 : decode cX6_hasThing 6 = .ok (.getfield 28, 3) := by decide +kernel
theorem dX6_hasThing_9 : decode cX6_hasThing 9 = .ok (.if_icmp .ge 7, 3) := by decide +kernel
theorem dX6_hasThing_12 : decode cX6_hasThing 12 = .ok (.iconst 1, 1) := by decide +kernel
theorem dX6_hasThing_13 : decode cX6_hasThing 13 = .ok (.goto 4, 3) := by decide +kernel
theorem dX6_hasThing_16 : decode cX6_hasThing 16 = .ok (.iconst 0, 1) := by decide +kernel
theorem dX6_hasThing_17 : decode cX6_hasThing 17 = .ok (.ireturn, 1) := by decide +kernel
set_option maxRecDepth 20000 in
theorem ggX6_lengthOf_X6_hasSection : GoodIn wsX6_lengthOf wsX6_hasSection := goodIn_r _ [6, 7, 8, 9, 10, 11, 12, 13, 14, 15, 16] (by decide +kernel) (by decide +kernel)
set_option maxRecDepth 20000 in
theorem gX6_lengthOf_X6_hasSection : GoodIn wsX6_lengthOf (wsV RX6 47 RX6 yX6_hasSection wsX6_hasSection) := goodIn_app (goodIn_of _ (by decide +kernel)) ggX6_lengthOf_X6_hasSection
theorem dX6_lengthOf_0 : decode cX6_lengthOf 0 = .ok (.aload_n 0, 1) := by decide +kernel
theorem dX6_lengthOf_1 : decode cX6_lengthOf 1 = .ok (.iload_n 1, 1) := by decide +kernel
theorem dX6_lengthOf_2 : decode cX6_lengthOf 2 = .ok (.invokevirtual 47, 3) := by decide +kernel
theorem dX6_lengthOf_5 : decode cX6_lengthOf 5 = .ok (.ifCond .eq 12, 3) := by decide +kernel
theorem dX6_lengthOf_8 : decode cX6_lengthOf 8 = .ok (.aload_n 0, 1) := by decide +kernel
theorem dX6_lengthOf_9 : decode cX6_lengthOf 9 = .ok (.getfield 9, 3) := by decide +kernel
theorem dX6_lengthOf_12 : decode cX6_lengthOf 12 = .ok (.iload_n 1, 1) := by decide +kernel
theorem dX6_lengthOf_13 : decode cX6_lengthOf 13 = .ok (.iaload, 1) := by decide +kernel
theorem dX6_lengthOf_14 : decode cX6_lengthOf 14 = .ok (.goto 4, 3) := by decide +kernel
theorem dX6_lengthOf_17 : decode cX6_lengthOf 17 = .ok (.iconst 0, 1) := by decide +kernel
theorem dX6_lengthOf_18 : decode cX6_lengthOf 18 = .ok (.ireturn, 1) := by decide +kernel
set_option maxRecDepth 20000 in
theorem ggX6_timesOf_X6_hasSection : GoodIn wsX6_timesOf wsX6_hasSection := goodIn_r _ [6, 7, 8, 9, 10, 11, 12, 13, 14, 15, 16] (by decide +kernel) (by decide +kernel)
set_option maxRecDepth 20000 in
theorem gX6_timesOf_X6_hasSection : GoodIn wsX6_timesOf (wsV RX6 47 RX6 yX6_hasSection wsX6_hasSection) := goodIn_app (goodIn_of _ (by decide +kernel)) ggX6_timesOf_X6_hasSection
theorem dX6_timesOf_0 : decode cX6_timesOf 0 = .ok (.aload_n 0, 1) := by decide +kernel
theorem dX6_timesOf_1 : decode cX6_timesOf 1 = .ok (.iload_n 1, 1) := by decide +kernel
theorem dX6_timesOf_2 : decode cX6_timesOf 2 = .ok (.invokevirtual 47, 3) := by decide +kernel
theorem dX6_timesOf_5 : decode cX6_timesOf 5 = .ok (.ifCond .eq 12, 3) := by decide +kernel
theorem dX6_timesOf_8 : decode cX6_timesOf 8 = .ok (.aload_n 0, 1) := by decide +kernel
theorem dX6_timesOf_9 : decode cX6_timesOf 9 = .ok (.getfield 15, 3) := by decide +kernel
theorem dX6_timesOf_12 : decode cX6_timesOf 12 = .ok (.iload_n 1, 1) := by decide +kernel
theorem dX6_timesOf_13 : decode cX6_timesOf 13 = .ok (.iaload, 1) := by decide +kernel
theorem dX6_timesOf_14 : decode cX6_timesOf 14 = .ok (.goto 4, 3) := by decide +kernel
theorem dX6_timesOf_17 : decode cX6_timesOf 17 = .ok (.iconst 0, 1) := by decide +kernel
theorem dX6_timesOf_18 : decode cX6_timesOf 18 = .ok (.ireturn, 1) := by decide +kernel
set_option maxRecDepth 20000 in
theorem ggX6_whoOf_X6_hasSection : GoodIn wsX6_whoOf wsX6_hasSection := goodIn_r _ [6, 7, 8, 9, 10, 11, 12, 13, 14, 15, 16] (by decide +kernel) (by decide +kernel)
set_option maxRecDepth 20000 in
theorem gX6_whoOf_X6_hasSection : GoodIn wsX6_whoOf (wsV RX6 47 RX6 yX6_hasSection wsX6_hasSection) := goodIn_app (goodIn_of _ (by decide +kernel)) ggX6_whoOf_X6_hasSection
theorem dX6_whoOf_0 : decode cX6_whoOf 0 = .ok (.aload_n 0, 1) := by decide +kernel
theorem dX6_whoOf_1 : decode cX6_whoOf 1 = .ok (.iload_n 1, 1) := by decide +kernel
theorem dX6_whoOf_2 : decode cX6_whoOf 2 = .ok (.invokevirtual 47, 3) := by decide +kernel
theorem dX6_whoOf_5 : decode cX6_whoOf 5 = .ok (.ifCond .eq 12, 3) := by decide +kernel
theorem dX6_whoOf_8 : decode cX6_whoOf 8 = .ok (.aload_n 0, 1) := by decide +kernel
theorem dX6_whoOf_9 : decode cX6_whoOf 9 = .ok (.getfield 18, 3) := by decide +kernel
theorem dX6_whoOf_12 : decode cX6_whoOf 12 = .ok (.iload_n 1, 1) := by decide +kernel
theorem dX6_whoOf_13 : decode cX6_whoOf 13 = .ok (.iaload, 1) := by decide +kernel
theorem dX6_whoOf_14 : decode cX6_whoOf 14 = .ok (.goto 4, 3) := by decide +kernel
theorem dX6_whoOf_17 : decode cX6_whoOf 17 = .ok (.iconst 0, 1) := by decide +kernel
theorem dX6_whoOf_18 : decode cX6_whoOf 18 = .ok (.ireturn, 1) := by decide +kernel
set_option maxRecDepth 20000 in
theorem ggX6_minutesOf_X6_hasThing : GoodIn wsX6_minutesOf wsX6_hasThing := goodIn_r _ [6, 7, 8, 9, 10, 11, 12, 13, 14, 15, 16] (by decide +kernel) (by decide +kernel)
set_option maxRecDepth 20000 in
theorem gX6_minutesOf_X6_hasThing : GoodIn wsX6_minutesOf (wsV RX6 51 RX6 yX6_hasThing wsX6_hasThing) := goodIn_app (goodIn_of _ (by decide +kernel)) ggX6_minutesOf_X6_hasThing
theorem dX6_minutesOf_0 : decode cX6_minutesOf 0 = .ok (.aload_n 0, 1) := by decide +kernel
theorem dX6_minutesOf_1 : decode cX6_minutesOf 1 = .ok (.iload_n 1, 1) := by decide +kernel
theorem dX6_minutesOf_2 : decode cX6_minutesOf 2 = .ok (.invokevirtual 51, 3) := by decide +kernel
theorem dX6_minutesOf_5 : decode cX6_minutesOf 5 = .ok (.ifCond .eq 12, 3) := by decide +kernel
theorem dX6_minutesOf_8 : decode cX6_minutesOf 8 = .ok (.aload_n 0, 1) := by decide +kernel
theorem dX6_minutesOf_9 : decode cX6_minutesOf 9 = .ok (.getfield 21, 3) := by decide +kernel
theorem dX6_minutesOf_12 : decode cX6_minutesOf 12 = .ok (.iload_n 1, 1) := by decide +kernel
theorem dX6_minutesOf_13 : decode cX6_minutesOf 13 = .ok (.iaload, 1) := by decide +kernel
theorem dX6_minutesOf_14 : decode cX6_minutesOf 14 = .ok (.goto 4, 3) := by decide +kernel
theorem dX6_minutesOf_17 : decode cX6_minutesOf 17 = .ok (.iconst 0, 1) := by decide +kernel
theorem dX6_minutesOf_18 : decode cX6_minutesOf 18 = .ok (.ireturn, 1) := by decide +kernel
set_option maxRecDepth 20000 in
theorem ggX6_barsOf_X6_hasSection : GoodIn wsX6_barsOf wsX6_hasSection := goodIn_r _ [7, 8, 9, 10, 11, 12, 13, 14, 15, 16, 17] (by decide +kernel) (by decide +kernel)
set_option maxRecDepth 20000 in
theorem gX6_barsOf_X6_hasSection : GoodIn wsX6_barsOf (wsV RX6 47 RX6 yX6_hasSection wsX6_hasSection) := goodIn_app (goodIn_of _ (by decide +kernel)) ggX6_barsOf_X6_hasSection
theorem dX6_barsOf_0 : decode cX6_barsOf 0 = .ok (.aload_n 0, 1) := by decide +kernel
theorem dX6_barsOf_1 : decode cX6_barsOf 1 = .ok (.iload_n 1, 1) := by decide +kernel
theorem dX6_barsOf_2 : decode cX6_barsOf 2 = .ok (.invokevirtual 47, 3) := by decide +kernel
theorem dX6_barsOf_5 : decode cX6_barsOf 5 = .ok (.ifCond .eq 19, 3) := by decide +kernel
theorem dX6_barsOf_8 : decode cX6_barsOf 8 = .ok (.aload_n 0, 1) := by decide +kernel
theorem dX6_barsOf_9 : decode cX6_barsOf 9 = .ok (.getfield 9, 3) := by decide +kernel
theorem dX6_barsOf_12 : decode cX6_barsOf 12 = .ok (.iload_n 1, 1) := by decide +kernel
theorem dX6_barsOf_13 : decode cX6_barsOf 13 = .ok (.iaload, 1) := by decide +kernel
theorem dX6_barsOf_14 : decode cX6_barsOf 14 = .ok (.aload_n 0, 1) := by decide +kernel
theorem dX6_barsOf_15 : decode cX6_barsOf 15 = .ok (.getfield 15, 3) := by decide +kernel
theorem dX6_barsOf_18 : decode cX6_barsOf 18 = .ok (.iload_n 1, 1) := by decide +kernel
theorem dX6_barsOf_19 : decode cX6_barsOf 19 = .ok (.iaload, 1) := by decide +kernel
theorem dX6_barsOf_20 : decode cX6_barsOf 20 = .ok (.imul, 1) := by decide +kernel
theorem dX6_barsOf_21 : decode cX6_barsOf 21 = .ok (.goto 4, 3) := by decide +kernel
theorem dX6_barsOf_24 : decode cX6_barsOf 24 = .ok (.iconst 0, 1) := by decide +kernel
theorem dX6_barsOf_25 : decode cX6_barsOf 25 = .ok (.ireturn, 1) := by decide +kernel
theorem dX6_noteSection_0 : decode cX6_noteSection 0 = .ok (.aload_n 0, 1) := by decide +kernel
theorem dX6_noteSection_1 : decode cX6_noteSection 1 = .ok (.getfield 31, 3) := by decide +kernel
theorem dX6_noteSection_4 : decode cX6_noteSection 4 = .ok (.ifCond .eq 10, 3) := by decide +kernel
theorem dX6_noteSection_7 : decode cX6_noteSection 7 = .ok (.aload_n 0, 1) := by decide +kernel
theorem dX6_noteSection_8 : decode cX6_noteSection 8 = .ok (.getfield 35, 3) := by decide +kernel
theorem dX6_noteSection_11 : decode cX6_noteSection 11 = .ok (.goto 9, 3) := by decide +kernel
theorem dX6_noteSection_14 : decode cX6_noteSection 14 = .ok (.aload_n 0, 1) := by decide +kernel
theorem dX6_noteSection_15 : decode cX6_noteSection 15 = .ok (.getfield 24, 3) := by decide +kernel
theorem dX6_noteSection_18 : decode cX6_noteSection 18 = .ok (.iconst 1, 1) := by decide +kernel
theorem dX6_noteSection_19 : decode cX6_noteSection 19 = .ok (.isub, 1) := by decide +kernel
theorem dX6_noteSection_20 : decode cX6_noteSection 20 = .ok (.ireturn, 1) := by decide +kernel
set_option maxRecDepth 20000 in
theorem ggX6_firstOf_X11_isIn : GoodIn wsX6_firstOf wsX11_isIn := goodIn_r _ [3] (by decide +kernel) (by decide +kernel)
set_option maxRecDepth 20000 in
theorem gX6_firstOf_X11_isIn_n54 : GoodIn wsX6_firstOf (wsX11_isIn) := ggX6_firstOf_X11_isIn
set_option maxRecDepth 20000 in
theorem ggX6_firstOf_X6_barsOf : GoodIn wsX6_firstOf wsX6_barsOf := goodIn_r _ [8, 9, 10, 11, 12, 13, 7, 14, 15, 16, 17, 18, 19, 20, 21, 22, 23, 24] (by decide +kernel) (by decide +kernel)
set_option maxRecDepth 20000 in
theorem gX6_firstOf_X6_barsOf : GoodIn wsX6_firstOf (wsV RX6 58 RX6 yX6_barsOf wsX6_barsOf) := goodIn_app (goodIn_of _ (by decide +kernel)) ggX6_firstOf_X6_barsOf
theorem dX6_firstOf_0 : decode cX6_firstOf 0 = .ok (.iconst 0, 1) := by decide +kernel
theorem dX6_firstOf_1 : decode cX6_firstOf 1 = .ok (.istore_n 3, 1) := by decide +kernel
theorem dX6_firstOf_2 : decode cX6_firstOf 2 = .ok (.iconst 0, 1) := by decide +kernel
theorem dX6_firstOf_3 : decode cX6_firstOf 3 = .ok (.istore 4, 2) := by decide +kernel
theorem dX6_firstOf_5 : decode cX6_firstOf 5 = .ok (.iload 4, 2) := by decide +kernel
theorem dX6_firstOf_7 : decode cX6_firstOf 7 = .ok (.iload_n 1, 1) := by decide +kernel
theorem dX6_firstOf_8 : decode cX6_firstOf 8 = .ok (.if_icmp .ge 27, 3) := by decide +kernel
theorem dX6_firstOf_11 : decode cX6_firstOf 11 = .ok (.iload_n 2, 1) := by decide +kernel
theorem dX6_firstOf_12 : decode cX6_firstOf 12 = .ok (.iload 4, 2) := by decide +kernel
theorem dX6_firstOf_14 : decode cX6_firstOf 14 = .ok (.invokestatic 54, 3) := by decide +kernel
theorem dX6_firstOf_17 : decode cX6_firstOf 17 = .ok (.ifCond .ne 12, 3) := by decide +kernel
theorem dX6_firstOf_20 : decode cX6_firstOf 20 = .ok (.iload_n 3, 1) := by decide +kernel
theorem dX6_firstOf_21 : decode cX6_firstOf 21 = .ok (.aload_n 0, 1) := by decide +kernel
theorem dX6_firstOf_22 : decode cX6_firstOf 22 = .ok (.iload 4, 2) := by decide +kernel
theorem dX6_firstOf_24 : decode cX6_firstOf 24 = .ok (.invokevirtual 58, 3) := by decide +kernel
theorem dX6_firstOf_27 : decode cX6_firstOf 27 = .ok (.iadd, 1) := by decide +kernel
theorem dX6_firstOf_28 : decode cX6_firstOf 28 = .ok (.istore_n 3, 1) := by decide +kernel
theorem dX6_firstOf_29 : decode cX6_firstOf 29 = .ok (.iinc 4 1, 3) := by decide +kernel
theorem dX6_firstOf_32 : decode cX6_firstOf 32 = .ok (.goto (-27), 3) := by decide +kernel
theorem dX6_firstOf_35 : decode cX6_firstOf 35 = .ok (.iload_n 3, 1) := by decide +kernel
theorem dX6_firstOf_36 : decode cX6_firstOf 36 = .ok (.ireturn, 1) := by decide +kernel
set_option maxRecDepth 20000 in
theorem ggX6_barsWith_X6_firstOf : GoodIn wsX6_barsWith wsX6_firstOf := goodIn_r _ [6, 7, 8, 9, 10, 11, 12, 5, 13, 14, 15, 16, 17, 18, 19, 1, 20, 21, 22, 23, 24, 25, 26, 27, 28] (by decide +kernel) (by decide +kernel)
set_option maxRecDepth 20000 in
theorem gX6_barsWith_X6_firstOf : GoodIn wsX6_barsWith (wsV RX6 62 RX6 yX6_firstOf wsX6_firstOf) := goodIn_app (goodIn_of _ (by decide +kernel)) ggX6_barsWith_X6_firstOf
theorem dX6_barsWith_0 : decode cX6_barsWith 0 = .ok (.aload_n 0, 1) := by decide +kernel
theorem dX6_barsWith_1 : decode cX6_barsWith 1 = .ok (.aload_n 0, 1) := by decide +kernel
theorem dX6_barsWith_2 : decode cX6_barsWith 2 = .ok (.getfield 24, 3) := by decide +kernel
theorem dX6_barsWith_5 : decode cX6_barsWith 5 = .ok (.iload_n 1, 1) := by decide +kernel
theorem dX6_barsWith_6 : decode cX6_barsWith 6 = .ok (.invokevirtual 62, 3) := by decide +kernel
theorem dX6_barsWith_9 : decode cX6_barsWith 9 = .ok (.ireturn, 1) := by decide +kernel
set_option maxRecDepth 20000 in
theorem ggX6_noteBarWith_X6_noteSection : GoodIn wsX6_noteBarWith wsX6_noteSection := goodIn_r _ [6, 7, 8, 9, 31, 32, 33, 34, 35, 36, 37, 38, 39] (by decide +kernel) (by decide +kernel)
set_option maxRecDepth 20000 in
theorem gX6_noteBarWith_X6_noteSection : GoodIn wsX6_noteBarWith (wsV RX6 66 RX6 yX6_noteSection wsX6_noteSection) := goodIn_app (goodIn_of _ (by decide +kernel)) ggX6_noteBarWith_X6_noteSection
set_option maxRecDepth 20000 in
theorem ggX6_noteBarWith_X6_firstOf : GoodIn wsX6_noteBarWith wsX6_firstOf := goodIn_r _ [13, 14, 15, 16, 17, 18, 19, 5, 20, 21, 22, 23, 24, 25, 26, 9, 31, 32, 33, 34, 35, 36, 37, 38, 39] (by decide +kernel) (by decide +kernel)
set_option maxRecDepth 20000 in
theorem gX6_noteBarWith_X6_firstOf : GoodIn wsX6_noteBarWith (wsV RX6 62 RX6 yX6_firstOf wsX6_firstOf) := goodIn_app (goodIn_of _ (by decide +kernel)) ggX6_noteBarWith_X6_firstOf
set_option maxRecDepth 20000 in
theorem ggX6_noteBarWith_X6_barsOf : GoodIn wsX6_noteBarWith wsX6_barsOf := goodIn_r _ [20, 21, 22, 23, 24, 25, 5, 26, 9, 31, 32, 33, 34, 35, 36, 37, 38, 39] (by decide +kernel) (by decide +kernel)
set_option maxRecDepth 20000 in
theorem gX6_noteBarWith_X6_barsOf : GoodIn wsX6_noteBarWith (wsV RX6 58 RX6 yX6_barsOf wsX6_barsOf) := goodIn_app (goodIn_of _ (by decide +kernel)) ggX6_noteBarWith_X6_barsOf
set_option maxRecDepth 20000 in
theorem ggX6_noteBarWith_X6_lengthOf : GoodIn wsX6_noteBarWith wsX6_lengthOf := goodIn_r _ [30, 21, 23, 24, 25, 5, 26, 9, 31, 32, 33, 34, 35, 36, 37, 38, 39] (by decide +kernel) (by decide +kernel)
set_option maxRecDepth 20000 in
theorem gX6_noteBarWith_X6_lengthOf : GoodIn wsX6_noteBarWith (wsV RX6 70 RX6 yX6_lengthOf wsX6_lengthOf) := goodIn_app (goodIn_of _ (by decide +kernel)) ggX6_noteBarWith_X6_lengthOf
theorem dX6_noteBarWith_0 : decode cX6_noteBarWith 0 = .ok (.aload_n 0, 1) := by decide +kernel
theorem dX6_noteBarWith_1 : decode cX6_noteBarWith 1 = .ok (.invokevirtual 66, 3) := by decide +kernel
theorem dX6_noteBarWith_4 : decode cX6_noteBarWith 4 = .ok (.istore_n 2, 1) := by decide +kernel
theorem dX6_noteBarWith_5 : decode cX6_noteBarWith 5 = .ok (.aload_n 0, 1) := by decide +kernel
theorem dX6_noteBarWith_6 : decode cX6_noteBarWith 6 = .ok (.iload_n 2, 1) := by decide +kernel
theorem dX6_noteBarWith_7 : decode cX6_noteBarWith 7 = .ok (.iload_n 1, 1) := by decide +kernel
theorem dX6_noteBarWith_8 : decode cX6_noteBarWith 8 = .ok (.invokevirtual 62, 3) := by decide +kernel
theorem dX6_noteBarWith_11 : decode cX6_noteBarWith 11 = .ok (.aload_n 0, 1) := by decide +kernel
theorem dX6_noteBarWith_12 : decode cX6_noteBarWith 12 = .ok (.iload_n 2, 1) := by decide +kernel
theorem dX6_noteBarWith_13 : decode cX6_noteBarWith 13 = .ok (.invokevirtual 58, 3) := by decide +kernel
theorem dX6_noteBarWith_16 : decode cX6_noteBarWith 16 = .ok (.iadd, 1) := by decide +kernel
theorem dX6_noteBarWith_17 : decode cX6_noteBarWith 17 = .ok (.aload_n 0, 1) := by decide +kernel
theorem dX6_noteBarWith_18 : decode cX6_noteBarWith 18 = .ok (.iload_n 2, 1) := by decide +kernel
theorem dX6_noteBarWith_19 : decode cX6_noteBarWith 19 = .ok (.invokevirtual 70, 3) := by decide +kernel
theorem dX6_noteBarWith_22 : decode cX6_noteBarWith 22 = .ok (.isub, 1) := by decide +kernel
theorem dX6_noteBarWith_23 : decode cX6_noteBarWith 23 = .ok (.istore_n 3, 1) := by decide +kernel
theorem dX6_noteBarWith_24 : decode cX6_noteBarWith 24 = .ok (.iload_n 3, 1) := by decide +kernel
theorem dX6_noteBarWith_25 : decode cX6_noteBarWith 25 = .ok (.aload_n 0, 1) := by decide +kernel
theorem dX6_noteBarWith_26 : decode cX6_noteBarWith 26 = .ok (.getfield 38, 3) := by decide +kernel
theorem dX6_noteBarWith_29 : decode cX6_noteBarWith 29 = .ok (.iadd, 1) := by decide +kernel
theorem dX6_noteBarWith_30 : decode cX6_noteBarWith 30 = .ok (.ireturn, 1) := by decide +kernel
set_option maxRecDepth 20000 in
theorem ggX6_sectionAt_X11_isIn : GoodIn wsX6_sectionAt wsX11_isIn := goodIn_r _ [4] (by decide +kernel) (by decide +kernel)
set_option maxRecDepth 20000 in
theorem gX6_sectionAt_X11_isIn_n54 : GoodIn wsX6_sectionAt (wsX11_isIn) := ggX6_sectionAt_X11_isIn
set_option maxRecDepth 20000 in
theorem ggX6_sectionAt_X6_barsOf : GoodIn wsX6_sectionAt wsX6_barsOf := goodIn_r _ [9, 10, 11, 12, 13, 14, 8, 15, 1, 16, 17, 18, 19, 20, 21, 22, 23, 24] (by decide +kernel) (by decide +kernel)
set_option maxRecDepth 20000 in
theorem gX6_sectionAt_X6_barsOf : GoodIn wsX6_sectionAt (wsV RX6 58 RX6 yX6_barsOf wsX6_barsOf) := goodIn_app (goodIn_of _ (by decide +kernel)) ggX6_sectionAt_X6_barsOf
theorem dX6_sectionAt_0 : decode cX6_sectionAt 0 = .ok (.iconst 0, 1) := by decide +kernel
theorem dX6_sectionAt_1 : decode cX6_sectionAt 1 = .ok (.istore_n 3, 1) := by decide +kernel
theorem dX6_sectionAt_2 : decode cX6_sectionAt 2 = .ok (.iconst 0, 1) := by decide +kernel
theorem dX6_sectionAt_3 : decode cX6_sectionAt 3 = .ok (.istore 4, 2) := by decide +kernel
theorem dX6_sectionAt_5 : decode cX6_sectionAt 5 = .ok (.iload 4, 2) := by decide +kernel
theorem dX6_sectionAt_7 : decode cX6_sectionAt 7 = .ok (.aload_n 0, 1) := by decide +kernel
theorem dX6_sectionAt_8 : decode cX6_sectionAt 8 = .ok (.getfield 24, 3) := by decide +kernel
theorem dX6_sectionAt_11 : decode cX6_sectionAt 11 = .ok (.if_icmp .ge 35, 3) := by decide +kernel
theorem dX6_sectionAt_14 : decode cX6_sectionAt 14 = .ok (.iload_n 2, 1) := by decide +kernel
theorem dX6_sectionAt_15 : decode cX6_sectionAt 15 = .ok (.iload 4, 2) := by decide +kernel
theorem dX6_sectionAt_17 : decode cX6_sectionAt 17 = .ok (.invokestatic 54, 3) := by decide +kernel
theorem dX6_sectionAt_20 : decode cX6_sectionAt 20 = .ok (.ifCond .ne 20, 3) := by decide +kernel
theorem dX6_sectionAt_23 : decode cX6_sectionAt 23 = .ok (.iload_n 3, 1) := by decide +kernel
theorem dX6_sectionAt_24 : decode cX6_sectionAt 24 = .ok (.aload_n 0, 1) := by decide +kernel
theorem dX6_sectionAt_25 : decode cX6_sectionAt 25 = .ok (.iload 4, 2) := by decide +kernel
theorem dX6_sectionAt_27 : decode cX6_sectionAt 27 = .ok (.invokevirtual 58, 3) := by decide +kernel
theorem dX6_sectionAt_30 : decode cX6_sectionAt 30 = .ok (.iadd, 1) := by decide +kernel
theorem dX6_sectionAt_31 : decode cX6_sectionAt 31 = .ok (.istore_n 3, 1) := by decide +kernel
theorem dX6_sectionAt_32 : decode cX6_sectionAt 32 = .ok (.iload_n 1, 1) := by decide +kernel
theorem dX6_sectionAt_33 : decode cX6_sectionAt 33 = .ok (.iload_n 3, 1) := by decide +kernel
theorem dX6_sectionAt_34 : decode cX6_sectionAt 34 = .ok (.if_icmp .ge 6, 3) := by decide +kernel
theorem dX6_sectionAt_37 : decode cX6_sectionAt 37 = .ok (.iload 4, 2) := by decide +kernel
theorem dX6_sectionAt_39 : decode cX6_sectionAt 39 = .ok (.ireturn, 1) := by decide +kernel
theorem dX6_sectionAt_40 : decode cX6_sectionAt 40 = .ok (.iinc 4 1, 3) := by decide +kernel
theorem dX6_sectionAt_43 : decode cX6_sectionAt 43 = .ok (.goto (-38), 3) := by decide +kernel
theorem dX6_sectionAt_46 : decode cX6_sectionAt 46 = .ok (.bipush (-9), 2) := by decide +kernel
theorem dX6_sectionAt_48 : decode cX6_sectionAt 48 = .ok (.ireturn, 1) := by decide +kernel
set_option maxRecDepth 20000 in
theorem ggX6_sectionBegunBy_X6_sectionAt : GoodIn wsX6_sectionBegunBy wsX6_sectionAt := goodIn_r _ [5, 6, 7, 8, 9, 10, 11, 12, 4, 13, 14, 15, 16, 17, 18, 19, 24, 25, 26, 27, 28, 29, 30, 31, 32] (by decide +kernel) (by decide +kernel)
set_option maxRecDepth 20000 in
theorem gX6_sectionBegunBy_X6_sectionAt : GoodIn wsX6_sectionBegunBy (wsV RX6 73 RX6 yX6_sectionAt wsX6_sectionAt) := goodIn_app (goodIn_of _ (by decide +kernel)) ggX6_sectionBegunBy_X6_sectionAt
set_option maxRecDepth 20000 in
theorem ggX6_sectionBegunBy_X6_hasSection : GoodIn wsX6_sectionBegunBy wsX6_hasSection := goodIn_r _ [19, 6, 24, 25, 26, 27, 28, 29, 30, 31, 32] (by decide +kernel) (by decide +kernel)
set_option maxRecDepth 20000 in
theorem gX6_sectionBegunBy_X6_hasSection : GoodIn wsX6_sectionBegunBy (wsV RX6 47 RX6 yX6_hasSection wsX6_hasSection) := goodIn_app (goodIn_of _ (by decide +kernel)) ggX6_sectionBegunBy_X6_hasSection
set_option maxRecDepth 20000 in
theorem ggX6_sectionBegunBy_X6_firstOf : GoodIn wsX6_sectionBegunBy wsX6_firstOf := goodIn_r _ [23, 7, 8, 9, 10, 11, 12, 4, 13, 14, 15, 16, 17, 18, 19, 6, 24, 25, 26, 27, 28, 29, 30, 31, 32] (by decide +kernel) (by decide +kernel)
set_option maxRecDepth 20000 in
theorem gX6_sectionBegunBy_X6_firstOf : GoodIn wsX6_sectionBegunBy (wsV RX6 62 RX6 yX6_firstOf wsX6_firstOf) := goodIn_app (goodIn_of _ (by decide +kernel)) ggX6_sectionBegunBy_X6_firstOf
theorem dX6_sectionBegunBy_0 : decode cX6_sectionBegunBy 0 = .ok (.aload_n 0, 1) := by decide +kernel
theorem dX6_sectionBegunBy_1 : decode cX6_sectionBegunBy 1 = .ok (.iload_n 1, 1) := by decide +kernel
theorem dX6_sectionBegunBy_2 : decode cX6_sectionBegunBy 2 = .ok (.iload_n 2, 1) := by decide +kernel
theorem dX6_sectionBegunBy_3 : decode cX6_sectionBegunBy 3 = .ok (.invokevirtual 73, 3) := by decide +kernel
theorem dX6_sectionBegunBy_6 : decode cX6_sectionBegunBy 6 = .ok (.istore_n 3, 1) := by decide +kernel
theorem dX6_sectionBegunBy_7 : decode cX6_sectionBegunBy 7 = .ok (.aload_n 0, 1) := by decide +kernel
theorem dX6_sectionBegunBy_8 : decode cX6_sectionBegunBy 8 = .ok (.iload_n 3, 1) := by decide +kernel
theorem dX6_sectionBegunBy_9 : decode cX6_sectionBegunBy 9 = .ok (.invokevirtual 47, 3) := by decide +kernel
theorem dX6_sectionBegunBy_12 : decode cX6_sectionBegunBy 12 = .ok (.ifCond .eq 17, 3) := by decide +kernel
theorem dX6_sectionBegunBy_15 : decode cX6_sectionBegunBy 15 = .ok (.aload_n 0, 1) := by decide +kernel
theorem dX6_sectionBegunBy_16 : decode cX6_sectionBegunBy 16 = .ok (.iload_n 3, 1) := by decide +kernel
theorem dX6_sectionBegunBy_17 : decode cX6_sectionBegunBy 17 = .ok (.iload_n 2, 1) := by decide +kernel
theorem dX6_sectionBegunBy_18 : decode cX6_sectionBegunBy 18 = .ok (.invokevirtual 62, 3) := by decide +kernel
theorem dX6_sectionBegunBy_21 : decode cX6_sectionBegunBy 21 = .ok (.iload_n 1, 1) := by decide +kernel
theorem dX6_sectionBegunBy_22 : decode cX6_sectionBegunBy 22 = .ok (.if_icmp .ne 7, 3) := by decide +kernel
theorem dX6_sectionBegunBy_25 : decode cX6_sectionBegunBy 25 = .ok (.iload_n 3, 1) := by decide +kernel
theorem dX6_sectionBegunBy_26 : decode cX6_sectionBegunBy 26 = .ok (.goto 5, 3) := by decide +kernel
theorem dX6_sectionBegunBy_29 : decode cX6_sectionBegunBy 29 = .ok (.bipush (-9), 2) := by decide +kernel
theorem dX6_sectionBegunBy_31 : decode cX6_sectionBegunBy 31 = .ok (.ireturn, 1) := by decide +kernel
set_option maxRecDepth 20000 in
theorem ggX6_nearestFirst_X11_isIn : GoodIn wsX6_nearestFirst wsX11_isIn := goodIn_r _ [9] (by decide +kernel) (by decide +kernel)
set_option maxRecDepth 20000 in
theorem gX6_nearestFirst_X11_isIn_n54 : GoodIn wsX6_nearestFirst (wsX11_isIn) := ggX6_nearestFirst_X11_isIn
set_option maxRecDepth 20000 in
theorem ggX6_nearestFirst_X6_whoOf : GoodIn wsX6_nearestFirst wsX6_whoOf := goodIn_r _ [14, 15, 16, 17, 18, 13, 19, 2, 30, 31, 32, 33, 34, 35, 36, 37, 38] (by decide +kernel) (by decide +kernel)
set_option maxRecDepth 20000 in
theorem gX6_nearestFirst_X6_whoOf : GoodIn wsX6_nearestFirst (wsV RX6 77 RX6 yX6_whoOf wsX6_whoOf) := goodIn_app (goodIn_of _ (by decide +kernel)) ggX6_nearestFirst_X6_whoOf
set_option maxRecDepth 20000 in
theorem ggX6_nearestFirst_X6_firstOf : GoodIn wsX6_nearestFirst wsX6_firstOf := goodIn_r _ [23, 7, 8, 9, 24, 25, 26, 13, 27, 28, 29, 16, 17, 18, 19, 2, 30, 31, 32, 33, 34, 35, 36, 37, 38] (by decide +kernel) (by decide +kernel)
set_option maxRecDepth 20000 in
theorem gX6_nearestFirst_X6_firstOf : GoodIn wsX6_nearestFirst (wsV RX6 62 RX6 yX6_firstOf wsX6_firstOf) := goodIn_app (goodIn_of _ (by decide +kernel)) ggX6_nearestFirst_X6_firstOf
theorem dX6_nearestFirst_0 : decode cX6_nearestFirst 0 = .ok (.ldc 76, 2) := by decide +kernel
theorem dX6_nearestFirst_2 : decode cX6_nearestFirst 2 = .ok (.istore 4, 2) := by decide +kernel
theorem dX6_nearestFirst_4 : decode cX6_nearestFirst 4 = .ok (.iconst 0, 1) := by decide +kernel
theorem dX6_nearestFirst_5 : decode cX6_nearestFirst 5 = .ok (.istore 5, 2) := by decide +kernel
theorem dX6_nearestFirst_7 : decode cX6_nearestFirst 7 = .ok (.iload 5, 2) := by decide +kernel
theorem dX6_nearestFirst_9 : decode cX6_nearestFirst 9 = .ok (.aload_n 0, 1) := by decide +kernel
theorem dX6_nearestFirst_10 : decode cX6_nearestFirst 10 = .ok (.getfield 24, 3) := by decide +kernel
theorem dX6_nearestFirst_13 : decode cX6_nearestFirst 13 = .ok (.if_icmp .ge 65, 3) := by decide +kernel
theorem dX6_nearestFirst_16 : decode cX6_nearestFirst 16 = .ok (.iload_n 3, 1) := by decide +kernel
theorem dX6_nearestFirst_17 : decode cX6_nearestFirst 17 = .ok (.iload 5, 2) := by decide +kernel
theorem dX6_nearestFirst_19 : decode cX6_nearestFirst 19 = .ok (.invokestatic 54, 3) := by decide +kernel
theorem dX6_nearestFirst_22 : decode cX6_nearestFirst 22 = .ok (.ifCond .ne 50, 3) := by decide +kernel
theorem dX6_nearestFirst_25 : decode cX6_nearestFirst 25 = .ok (.aload_n 0, 1) := by decide +kernel
theorem dX6_nearestFirst_26 : decode cX6_nearestFirst 26 = .ok (.iload 5, 2) := by decide +kernel
theorem dX6_nearestFirst_28 : decode cX6_nearestFirst 28 = .ok (.invokevirtual 77, 3) := by decide +kernel
theorem dX6_nearestFirst_31 : decode cX6_nearestFirst 31 = .ok (.iload_n 1, 1) := by decide +kernel
theorem dX6_nearestFirst_32 : decode cX6_nearestFirst 32 = .ok (.if_icmp .ne 40, 3) := by decide +kernel
theorem dX6_nearestFirst_35 : decode cX6_nearestFirst 35 = .ok (.aload_n 0, 1) := by decide +kernel
theorem dX6_nearestFirst_36 : decode cX6_nearestFirst 36 = .ok (.iload 5, 2) := by decide +kernel
theorem dX6_nearestFirst_38 : decode cX6_nearestFirst 38 = .ok (.iload_n 3, 1) := by decide +kernel
theorem dX6_nearestFirst_39 : decode cX6_nearestFirst 39 = .ok (.invokevirtual 62, 3) := by decide +kernel
theorem dX6_nearestFirst_42 : decode cX6_nearestFirst 42 = .ok (.istore 6, 2) := by decide +kernel
theorem dX6_nearestFirst_44 : decode cX6_nearestFirst 44 = .ok (.iload 4, 2) := by decide +kernel
theorem dX6_nearestFirst_46 : decode cX6_nearestFirst 46 = .ok (.ldc 76, 2) := by decide +kernel
theorem dX6_nearestFirst_48 : decode cX6_nearestFirst 48 = .ok (.if_icmp .eq 20, 3) := by decide +kernel
theorem dX6_nearestFirst_51 : decode cX6_nearestFirst 51 = .ok (.iload 6, 2) := by decide +kernel
theorem dX6_nearestFirst_53 : decode cX6_nearestFirst 53 = .ok (.iload_n 2, 1) := by decide +kernel
theorem dX6_nearestFirst_54 : decode cX6_nearestFirst 54 = .ok (.isub, 1) := by decide +kernel
theorem dX6_nearestFirst_55 : decode cX6_nearestFirst 55 = .ok (.invokestatic 80, 3) := by decide +kernel
theorem dX6_nearestFirst_58 : decode cX6_nearestFirst 58 = .ok (.iload 4, 2) := by decide +kernel
theorem dX6_nearestFirst_60 : decode cX6_nearestFirst 60 = .ok (.iload_n 2, 1) := by decide +kernel
theorem dX6_nearestFirst_61 : decode cX6_nearestFirst 61 = .ok (.isub, 1) := by decide +kernel
theorem dX6_nearestFirst_62 : decode cX6_nearestFirst 62 = .ok (.invokestatic 80, 3) := by decide +kernel
theorem dX6_nearestFirst_65 : decode cX6_nearestFirst 65 = .ok (.if_icmp .ge 7, 3) := by decide +kernel
theorem dX6_nearestFirst_68 : decode cX6_nearestFirst 68 = .ok (.iload 6, 2) := by decide +kernel
theorem dX6_nearestFirst_70 : decode cX6_nearestFirst 70 = .ok (.istore 4, 2) := by decide +kernel
theorem dX6_nearestFirst_72 : decode cX6_nearestFirst 72 = .ok (.iinc 5 1, 3) := by decide +kernel
theorem dX6_nearestFirst_75 : decode cX6_nearestFirst 75 = .ok (.goto (-68), 3) := by decide +kernel
theorem dX6_nearestFirst_78 : decode cX6_nearestFirst 78 = .ok (.iload 4, 2) := by decide +kernel
theorem dX6_nearestFirst_80 : decode cX6_nearestFirst 80 = .ok (.ireturn, 1) := by decide +kernel
set_option maxRecDepth 20000 in
theorem ggX6_canBeCut_X11_isIn : GoodIn wsX6_canBeCut wsX11_isIn := goodIn_r _ [3] (by decide +kernel) (by decide +kernel)
set_option maxRecDepth 20000 in
theorem gX6_canBeCut_X11_isIn_n54 : GoodIn wsX6_canBeCut (wsX11_isIn) := ggX6_canBeCut_X11_isIn
set_option maxRecDepth 20000 in
theorem ggX6_canBeCut_X6_noteSection : GoodIn wsX6_canBeCut wsX6_noteSection := goodIn_r _ [8, 9, 10, 11, 26, 27, 28, 29, 30, 31, 32, 33, 34] (by decide +kernel) (by decide +kernel)
set_option maxRecDepth 20000 in
theorem gX6_canBeCut_X6_noteSection : GoodIn wsX6_canBeCut (wsV RX6 66 RX6 yX6_noteSection wsX6_noteSection) := goodIn_app (goodIn_of _ (by decide +kernel)) ggX6_canBeCut_X6_noteSection
set_option maxRecDepth 20000 in
theorem ggX6_canBeCut_X6_firstOf : GoodIn wsX6_canBeCut wsX6_firstOf := goodIn_r _ [15, 1, 2, 3, 16, 17, 18, 7, 19, 20, 21, 22, 23, 24, 25, 11, 26, 27, 28, 29, 30, 31, 32, 33, 34] (by decide +kernel) (by decide +kernel)
set_option maxRecDepth 20000 in
theorem gX6_canBeCut_X6_firstOf : GoodIn wsX6_canBeCut (wsV RX6 62 RX6 yX6_firstOf wsX6_firstOf) := goodIn_app (goodIn_of _ (by decide +kernel)) ggX6_canBeCut_X6_firstOf
theorem dX6_canBeCut_0 : decode cX6_canBeCut 0 = .ok (.iload_n 2, 1) := by decide +kernel
theorem dX6_canBeCut_1 : decode cX6_canBeCut 1 = .ok (.iload_n 1, 1) := by decide +kernel
theorem dX6_canBeCut_2 : decode cX6_canBeCut 2 = .ok (.invokestatic 54, 3) := by decide +kernel
theorem dX6_canBeCut_5 : decode cX6_canBeCut 5 = .ok (.ifCond .ne 25, 3) := by decide +kernel
theorem dX6_canBeCut_8 : decode cX6_canBeCut 8 = .ok (.iload_n 1, 1) := by decide +kernel
theorem dX6_canBeCut_9 : decode cX6_canBeCut 9 = .ok (.aload_n 0, 1) := by decide +kernel
theorem dX6_canBeCut_10 : decode cX6_canBeCut 10 = .ok (.invokevirtual 66, 3) := by decide +kernel
theorem dX6_canBeCut_13 : decode cX6_canBeCut 13 = .ok (.if_icmp .eq 17, 3) := by decide +kernel
theorem dX6_canBeCut_16 : decode cX6_canBeCut 16 = .ok (.aload_n 0, 1) := by decide +kernel
theorem dX6_canBeCut_17 : decode cX6_canBeCut 17 = .ok (.iload_n 1, 1) := by decide +kernel
theorem dX6_canBeCut_18 : decode cX6_canBeCut 18 = .ok (.iload_n 2, 1) := by decide +kernel
theorem dX6_canBeCut_19 : decode cX6_canBeCut 19 = .ok (.invokevirtual 62, 3) := by decide +kernel
theorem dX6_canBeCut_22 : decode cX6_canBeCut 22 = .ok (.iload_n 3, 1) := by decide +kernel
theorem dX6_canBeCut_23 : decode cX6_canBeCut 23 = .ok (.if_icmp .lt 7, 3) := by decide +kernel
theorem dX6_canBeCut_26 : decode cX6_canBeCut 26 = .ok (.iconst 1, 1) := by decide +kernel
theorem dX6_canBeCut_27 : decode cX6_canBeCut 27 = .ok (.goto 4, 3) := by decide +kernel
theorem dX6_canBeCut_30 : decode cX6_canBeCut 30 = .ok (.iconst 0, 1) := by decide +kernel
theorem dX6_canBeCut_31 : decode cX6_canBeCut 31 = .ok (.ireturn, 1) := by decide +kernel
set_option maxRecDepth 20000 in
theorem ggX6_allCuttable_X6_canBeCut : GoodIn wsX6_allCuttable wsX6_canBeCut := goodIn_r _ [6, 7, 8, 9, 10, 11, 12, 5, 13, 14, 15, 1, 16, 17, 18, 19, 20, 21, 22, 23, 24, 25, 26, 27, 28, 29, 30, 31, 32, 33, 34, 35, 36, 37, 38] (by decide +kernel) (by decide +kernel)
set_option maxRecDepth 20000 in
theorem gX6_allCuttable_X6_canBeCut : GoodIn wsX6_allCuttable (wsV RX6 85 RX6 yX6_canBeCut wsX6_canBeCut) := goodIn_app (goodIn_of _ (by decide +kernel)) ggX6_allCuttable_X6_canBeCut
theorem dX6_allCuttable_0 : decode cX6_allCuttable 0 = .ok (.iconst 0, 1) := by decide +kernel
theorem dX6_allCuttable_1 : decode cX6_allCuttable 1 = .ok (.istore_n 3, 1) := by decide +kernel
theorem dX6_allCuttable_2 : decode cX6_allCuttable 2 = .ok (.iconst 0, 1) := by decide +kernel
theorem dX6_allCuttable_3 : decode cX6_allCuttable 3 = .ok (.istore 4, 2) := by decide +kernel
theorem dX6_allCuttable_5 : decode cX6_allCuttable 5 = .ok (.iload 4, 2) := by decide +kernel
theorem dX6_allCuttable_7 : decode cX6_allCuttable 7 = .ok (.aload_n 0, 1) := by decide +kernel
theorem dX6_allCuttable_8 : decode cX6_allCuttable 8 = .ok (.getfield 24, 3) := by decide +kernel
theorem dX6_allCuttable_11 : decode cX6_allCuttable 11 = .ok (.if_icmp .ge 27, 3) := by decide +kernel
theorem dX6_allCuttable_14 : decode cX6_allCuttable 14 = .ok (.aload_n 0, 1) := by decide +kernel
theorem dX6_allCuttable_15 : decode cX6_allCuttable 15 = .ok (.iload 4, 2) := by decide +kernel
theorem dX6_allCuttable_17 : decode cX6_allCuttable 17 = .ok (.iload_n 1, 1) := by decide +kernel
theorem dX6_allCuttable_18 : decode cX6_allCuttable 18 = .ok (.iload_n 2, 1) := by decide +kernel
theorem dX6_allCuttable_19 : decode cX6_allCuttable 19 = .ok (.invokevirtual 85, 3) := by decide +kernel
theorem dX6_allCuttable_22 : decode cX6_allCuttable 22 = .ok (.ifCond .eq 10, 3) := by decide +kernel
theorem dX6_allCuttable_25 : decode cX6_allCuttable 25 = .ok (.iload_n 3, 1) := by decide +kernel
theorem dX6_allCuttable_26 : decode cX6_allCuttable 26 = .ok (.iconst 1, 1) := by decide +kernel
theorem dX6_allCuttable_27 : decode cX6_allCuttable 27 = .ok (.iload 4, 2) := by decide +kernel
theorem dX6_allCuttable_29 : decode cX6_allCuttable 29 = .ok (.ishl, 1) := by decide +kernel
theorem dX6_allCuttable_30 : decode cX6_allCuttable 30 = .ok (.ior, 1) := by decide +kernel
theorem dX6_allCuttable_31 : decode cX6_allCuttable 31 = .ok (.istore_n 3, 1) := by decide +kernel
theorem dX6_allCuttable_32 : decode cX6_allCuttable 32 = .ok (.iinc 4 1, 3) := by decide +kernel
theorem dX6_allCuttable_35 : decode cX6_allCuttable 35 = .ok (.goto (-30), 3) := by decide +kernel
theorem dX6_allCuttable_38 : decode cX6_allCuttable 38 = .ok (.iload_n 3, 1) := by decide +kernel
theorem dX6_allCuttable_39 : decode cX6_allCuttable 39 = .ok (.ireturn, 1) := by decide +kernel
set_option maxRecDepth 20000 in
theorem ggX6_fewestCuts_J6_bitCount_0f7a4 : GoodIn wsX6_fewestCuts wsJ6_bitCount_0f7a4 := goodIn_r _ [4, 5, 6, 7] (by decide +kernel) (by decide +kernel)
set_option maxRecDepth 20000 in
theorem gX6_fewestCuts_J6_bitCount_0f7a4 : GoodIn wsX6_fewestCuts (va_wsS RX6 89 yJ6_bitCount_0f7a4 wsJ6_bitCount_0f7a4) := goodIn_app (goodIn_of _ (by decide +kernel)) ggX6_fewestCuts_J6_bitCount_0f7a4
set_option maxRecDepth 20000 in
theorem ggX6_fewestCuts_X6_noteBarWith : GoodIn wsX6_fewestCuts wsX6_noteBarWith := goodIn_r _ [12, 13, 14, 15, 16, 11, 17, 18, 19, 20, 21, 22, 23, 24, 25, 26, 27, 28, 29, 30, 31, 32, 33, 34, 35, 36, 37, 38, 39, 40, 41, 42, 43, 44, 45, 46, 47, 48, 49, 50] (by decide +kernel) (by decide +kernel)
set_option maxRecDepth 20000 in
theorem gX6_fewestCuts_X6_noteBarWith : GoodIn wsX6_fewestCuts (wsV RX6 94 RX6 yX6_noteBarWith wsX6_noteBarWith) := goodIn_app (goodIn_of _ (by decide +kernel)) ggX6_fewestCuts_X6_noteBarWith
theorem dX6_fewestCuts_0 : decode cX6_fewestCuts 0 = .ok (.bipush (-9), 2) := by decide +kernel
theorem dX6_fewestCuts_2 : decode cX6_fewestCuts 2 = .ok (.istore 4, 2) := by decide +kernel
theorem dX6_fewestCuts_4 : decode cX6_fewestCuts 4 = .ok (.iconst 0, 1) := by decide +kernel
theorem dX6_fewestCuts_5 : decode cX6_fewestCuts 5 = .ok (.istore 5, 2) := by decide +kernel
theorem dX6_fewestCuts_7 : decode cX6_fewestCuts 7 = .ok (.iload 5, 2) := by decide +kernel
theorem dX6_fewestCuts_9 : decode cX6_fewestCuts 9 = .ok (.iload_n 3, 1) := by decide +kernel
theorem dX6_fewestCuts_10 : decode cX6_fewestCuts 10 = .ok (.if_icmp .gt 66, 3) := by decide +kernel
theorem dX6_fewestCuts_13 : decode cX6_fewestCuts 13 = .ok (.iload 4, 2) := by decide +kernel
theorem dX6_fewestCuts_15 : decode cX6_fewestCuts 15 = .ok (.bipush (-9), 2) := by decide +kernel
theorem dX6_fewestCuts_17 : decode cX6_fewestCuts 17 = .ok (.if_icmp .eq 16, 3) := by decide +kernel
theorem dX6_fewestCuts_20 : decode cX6_fewestCuts 20 = .ok (.iload 5, 2) := by decide +kernel
theorem dX6_fewestCuts_22 : decode cX6_fewestCuts 22 = .ok (.invokestatic 89, 3) := by decide +kernel
theorem dX6_fewestCuts_25 : decode cX6_fewestCuts 25 = .ok (.iload 4, 2) := by decide +kernel
theorem dX6_fewestCuts_27 : decode cX6_fewestCuts 27 = .ok (.invokestatic 89, 3) := by decide +kernel
theorem dX6_fewestCuts_30 : decode cX6_fewestCuts 30 = .ok (.if_icmp .ge 7, 3) := by decide +kernel
theorem dX6_fewestCuts_33 : decode cX6_fewestCuts 33 = .ok (.iconst 1, 1) := by decide +kernel
theorem dX6_fewestCuts_34 : decode cX6_fewestCuts 34 = .ok (.goto 4, 3) := by decide +kernel
theorem dX6_fewestCuts_37 : decode cX6_fewestCuts 37 = .ok (.iconst 0, 1) := by decide +kernel
theorem dX6_fewestCuts_38 : decode cX6_fewestCuts 38 = .ok (.istore 6, 2) := by decide +kernel
theorem dX6_fewestCuts_40 : decode cX6_fewestCuts 40 = .ok (.iload 6, 2) := by decide +kernel
theorem dX6_fewestCuts_42 : decode cX6_fewestCuts 42 = .ok (.ifCond .eq 28, 3) := by decide +kernel
theorem dX6_fewestCuts_45 : decode cX6_fewestCuts 45 = .ok (.iload 5, 2) := by decide +kernel
theorem dX6_fewestCuts_47 : decode cX6_fewestCuts 47 = .ok (.iload_n 3, 1) := by decide +kernel
theorem dX6_fewestCuts_48 : decode cX6_fewestCuts 48 = .ok (.iconst (-1), 1) := by decide +kernel
theorem dX6_fewestCuts_49 : decode cX6_fewestCuts 49 = .ok (.ixor, 1) := by decide +kernel
theorem dX6_fewestCuts_50 : decode cX6_fewestCuts 50 = .ok (.iand, 1) := by decide +kernel
theorem dX6_fewestCuts_51 : decode cX6_fewestCuts 51 = .ok (.ifCond .ne 19, 3) := by decide +kernel
theorem dX6_fewestCuts_54 : decode cX6_fewestCuts 54 = .ok (.aload_n 0, 1) := by decide +kernel
theorem dX6_fewestCuts_55 : decode cX6_fewestCuts 55 = .ok (.iload_n 2, 1) := by decide +kernel
theorem dX6_fewestCuts_56 : decode cX6_fewestCuts 56 = .ok (.iload 5, 2) := by decide +kernel
theorem dX6_fewestCuts_58 : decode cX6_fewestCuts 58 = .ok (.ior, 1) := by decide +kernel
theorem dX6_fewestCuts_59 : decode cX6_fewestCuts 59 = .ok (.invokevirtual 94, 3) := by decide +kernel
theorem dX6_fewestCuts_62 : decode cX6_fewestCuts 62 = .ok (.iload_n 1, 1) := by decide +kernel
theorem dX6_fewestCuts_63 : decode cX6_fewestCuts 63 = .ok (.if_icmp .ne 7, 3) := by decide +kernel
theorem dX6_fewestCuts_66 : decode cX6_fewestCuts 66 = .ok (.iload 5, 2) := by decide +kernel
theorem dX6_fewestCuts_68 : decode cX6_fewestCuts 68 = .ok (.istore 4, 2) := by decide +kernel
theorem dX6_fewestCuts_70 : decode cX6_fewestCuts 70 = .ok (.iinc 5 1, 3) := by decide +kernel
theorem dX6_fewestCuts_73 : decode cX6_fewestCuts 73 = .ok (.goto (-66), 3) := by decide +kernel
theorem dX6_fewestCuts_76 : decode cX6_fewestCuts 76 = .ok (.iload 4, 2) := by decide +kernel
theorem dX6_fewestCuts_78 : decode cX6_fewestCuts 78 = .ok (.ireturn, 1) := by decide +kernel
set_option maxRecDepth 20000 in
theorem ggX6_chancesBy_X6_noteBarWith : GoodIn wsX6_chancesBy wsX6_noteBarWith := goodIn_r _ [5, 6, 7, 8, 9, 4, 10, 11, 12, 13, 14, 15, 16, 17, 18, 19, 20, 21, 22, 23, 24, 25, 26, 27, 28, 29, 30, 31, 32, 33, 34, 39, 40, 41, 42, 43, 44, 45, 46, 47] (by decide +kernel) (by decide +kernel)
set_option maxRecDepth 20000 in
theorem gX6_chancesBy_X6_noteBarWith : GoodIn wsX6_chancesBy (wsV RX6 94 RX6 yX6_noteBarWith wsX6_noteBarWith) := goodIn_app (goodIn_of _ (by decide +kernel)) ggX6_chancesBy_X6_noteBarWith
set_option maxRecDepth 20000 in
theorem ggX6_chancesBy_X6_weightOf : GoodIn wsX6_chancesBy wsX6_weightOf := goodIn_r _ [38, 13, 18, 19, 20, 39, 40, 41, 42, 43, 44, 45, 46, 47] (by decide +kernel) (by decide +kernel)
set_option maxRecDepth 20000 in
theorem gX6_chancesBy_X6_weightOf : GoodIn wsX6_chancesBy (wsV RX6 97 RX6 yX6_weightOf wsX6_weightOf) := goodIn_app (goodIn_of _ (by decide +kernel)) ggX6_chancesBy_X6_weightOf
theorem dX6_chancesBy_0 : decode cX6_chancesBy 0 = .ok (.iconst 0, 1) := by decide +kernel
theorem dX6_chancesBy_1 : decode cX6_chancesBy 1 = .ok (.istore 5, 2) := by decide +kernel
theorem dX6_chancesBy_3 : decode cX6_chancesBy 3 = .ok (.iconst 0, 1) := by decide +kernel
theorem dX6_chancesBy_4 : decode cX6_chancesBy 4 = .ok (.istore 6, 2) := by decide +kernel
theorem dX6_chancesBy_6 : decode cX6_chancesBy 6 = .ok (.iload 6, 2) := by decide +kernel
theorem dX6_chancesBy_8 : decode cX6_chancesBy 8 = .ok (.iload 4, 2) := by decide +kernel
theorem dX6_chancesBy_10 : decode cX6_chancesBy 10 = .ok (.if_icmp .gt 45, 3) := by decide +kernel
theorem dX6_chancesBy_13 : decode cX6_chancesBy 13 = .ok (.iload 6, 2) := by decide +kernel
theorem dX6_chancesBy_15 : decode cX6_chancesBy 15 = .ok (.iload 4, 2) := by decide +kernel
theorem dX6_chancesBy_17 : decode cX6_chancesBy 17 = .ok (.iconst (-1), 1) := by decide +kernel
theorem dX6_chancesBy_18 : decode cX6_chancesBy 18 = .ok (.ixor, 1) := by decide +kernel
theorem dX6_chancesBy_19 : decode cX6_chancesBy 19 = .ok (.iand, 1) := by decide +kernel
theorem dX6_chancesBy_20 : decode cX6_chancesBy 20 = .ok (.ifCond .ne 29, 3) := by decide +kernel
theorem dX6_chancesBy_23 : decode cX6_chancesBy 23 = .ok (.aload_n 0, 1) := by decide +kernel
theorem dX6_chancesBy_24 : decode cX6_chancesBy 24 = .ok (.iload_n 3, 1) := by decide +kernel
theorem dX6_chancesBy_25 : decode cX6_chancesBy 25 = .ok (.iload 6, 2) := by decide +kernel
theorem dX6_chancesBy_27 : decode cX6_chancesBy 27 = .ok (.ior, 1) := by decide +kernel
theorem dX6_chancesBy_28 : decode cX6_chancesBy 28 = .ok (.invokevirtual 94, 3) := by decide +kernel
theorem dX6_chancesBy_31 : decode cX6_chancesBy 31 = .ok (.iload_n 1, 1) := by decide +kernel
theorem dX6_chancesBy_32 : decode cX6_chancesBy 32 = .ok (.if_icmp .gt 17, 3) := by decide +kernel
theorem dX6_chancesBy_35 : decode cX6_chancesBy 35 = .ok (.iload 5, 2) := by decide +kernel
theorem dX6_chancesBy_37 : decode cX6_chancesBy 37 = .ok (.aload_n 0, 1) := by decide +kernel
theorem dX6_chancesBy_38 : decode cX6_chancesBy 38 = .ok (.iload 6, 2) := by decide +kernel
theorem dX6_chancesBy_40 : decode cX6_chancesBy 40 = .ok (.iload 4, 2) := by decide +kernel
theorem dX6_chancesBy_42 : decode cX6_chancesBy 42 = .ok (.iload_n 2, 1) := by decide +kernel
theorem dX6_chancesBy_43 : decode cX6_chancesBy 43 = .ok (.invokevirtual 97, 3) := by decide +kernel
theorem dX6_chancesBy_46 : decode cX6_chancesBy 46 = .ok (.iadd, 1) := by decide +kernel
theorem dX6_chancesBy_47 : decode cX6_chancesBy 47 = .ok (.istore 5, 2) := by decide +kernel
theorem dX6_chancesBy_49 : decode cX6_chancesBy 49 = .ok (.iinc 6 1, 3) := by decide +kernel
theorem dX6_chancesBy_52 : decode cX6_chancesBy 52 = .ok (.goto (-46), 3) := by decide +kernel
theorem dX6_chancesBy_55 : decode cX6_chancesBy 55 = .ok (.iload 5, 2) := by decide +kernel
theorem dX6_chancesBy_57 : decode cX6_chancesBy 57 = .ok (.ireturn, 1) := by decide +kernel
set_option maxRecDepth 20000 in
theorem ggX6_weightOf_X11_isIn : GoodIn wsX6_weightOf wsX11_isIn := goodIn_r _ [4] (by decide +kernel) (by decide +kernel)
set_option maxRecDepth 20000 in
theorem gX6_weightOf_X11_isIn_n54 : GoodIn wsX6_weightOf (wsX11_isIn) := ggX6_weightOf_X11_isIn
theorem dX6_weightOf_0 : decode cX6_weightOf 0 = .ok (.iconst 1, 1) := by decide +kernel
theorem dX6_weightOf_1 : decode cX6_weightOf 1 = .ok (.istore 4, 2) := by decide +kernel
theorem dX6_weightOf_3 : decode cX6_weightOf 3 = .ok (.iconst 0, 1) := by decide +kernel
theorem dX6_weightOf_4 : decode cX6_weightOf 4 = .ok (.istore 5, 2) := by decide +kernel
theorem dX6_weightOf_6 : decode cX6_weightOf 6 = .ok (.iload 5, 2) := by decide +kernel
theorem dX6_weightOf_8 : decode cX6_weightOf 8 = .ok (.aload_n 0, 1) := by decide +kernel
theorem dX6_weightOf_9 : decode cX6_weightOf 9 = .ok (.getfield 24, 3) := by decide +kernel
theorem dX6_weightOf_12 : decode cX6_weightOf 12 = .ok (.if_icmp .ge 40, 3) := by decide +kernel
theorem dX6_weightOf_15 : decode cX6_weightOf 15 = .ok (.iload_n 2, 1) := by decide +kernel
theorem dX6_weightOf_16 : decode cX6_weightOf 16 = .ok (.iload 5, 2) := by decide +kernel
theorem dX6_weightOf_18 : decode cX6_weightOf 18 = .ok (.invokestatic 54, 3) := by decide +kernel
theorem dX6_weightOf_21 : decode cX6_weightOf 21 = .ok (.ifCond .eq 25, 3) := by decide +kernel
theorem dX6_weightOf_24 : decode cX6_weightOf 24 = .ok (.iload 4, 2) := by decide +kernel
theorem dX6_weightOf_26 : decode cX6_weightOf 26 = .ok (.iload_n 1, 1) := by decide +kernel
theorem dX6_weightOf_27 : decode cX6_weightOf 27 = .ok (.iload 5, 2) := by decide +kernel
theorem dX6_weightOf_29 : decode cX6_weightOf 29 = .ok (.invokestatic 54, 3) := by decide +kernel
theorem dX6_weightOf_32 : decode cX6_weightOf 32 = .ok (.ifCond .eq 7, 3) := by decide +kernel
theorem dX6_weightOf_35 : decode cX6_weightOf 35 = .ok (.iload_n 3, 1) := by decide +kernel
theorem dX6_weightOf_36 : decode cX6_weightOf 36 = .ok (.goto 7, 3) := by decide +kernel
theorem dX6_weightOf_39 : decode cX6_weightOf 39 = .ok (.bipush 10, 2) := by decide +kernel
theorem dX6_weightOf_41 : decode cX6_weightOf 41 = .ok (.iload_n 3, 1) := by decide +kernel
theorem dX6_weightOf_42 : decode cX6_weightOf 42 = .ok (.isub, 1) := by decide +kernel
theorem dX6_weightOf_43 : decode cX6_weightOf 43 = .ok (.imul, 1) := by decide +kernel
theorem dX6_weightOf_44 : decode cX6_weightOf 44 = .ok (.istore 4, 2) := by decide +kernel
theorem dX6_weightOf_46 : decode cX6_weightOf 46 = .ok (.iinc 5 1, 3) := by decide +kernel
theorem dX6_weightOf_49 : decode cX6_weightOf 49 = .ok (.goto (-43), 3) := by decide +kernel
theorem dX6_weightOf_52 : decode cX6_weightOf 52 = .ok (.iload 4, 2) := by decide +kernel
theorem dX6_weightOf_54 : decode cX6_weightOf 54 = .ok (.ireturn, 1) := by decide +kernel
set_option maxRecDepth 20000 in
theorem ggX7_init_X9_init : GoodIn wsX7_init wsX9_init := goodIn_r _ [3, 4, 5, 6, 7, 8, 9] (by decide +kernel) (by decide +kernel)
set_option maxRecDepth 20000 in
theorem gX7_init_X9_init_n1 : GoodIn wsX7_init (wsX9_init) := ggX7_init_X9_init
theorem dX7_init_0 : decode cX7_init 0 = .ok (.aload_n 0, 1) := by decide +kernel
theorem dX7_init_1 : decode cX7_init 1 = .ok (.invokespecial 1, 3) := by decide +kernel
theorem dX7_init_4 : decode cX7_init 4 = .ok (.return_, 1) := by decide +kernel
set_option maxRecDepth 20000 in
theorem ggX7_valueOf_X9_valueOf : GoodIn wsX7_valueOf wsX9_valueOf := goodIn_r _ [7, 8, 9, 10, 11, 12, 13, 14, 15, 16, 17, 18, 19, 20, 21, 22, 23, 24, 25, 26, 27, 28, 29, 30, 31, 32, 33, 34, 35, 36, 37, 38, 39, 40, 41, 42, 43, 44, 45, 46, 47, 48, 49, 50] (by decide +kernel) (by decide +kernel)
set_option maxRecDepth 20000 in
theorem gX7_valueOf_X9_valueOf_s15 : GoodIn wsX7_valueOf (va_wsSU RX7 15 yX9_valueOf wsX9_valueOf) := goodIn_app (goodIn_of _ (by decide +kernel)) ggX7_valueOf_X9_valueOf
theorem dX7_valueOf_0 : decode cX7_valueOf 0 = .ok (.aload_n 1, 1) := by decide +kernel
theorem dX7_valueOf_1 : decode cX7_valueOf 1 = .ok (.dup, 1) := by decide +kernel
theorem dX7_valueOf_2 : decode cX7_valueOf 2 = .ok (.getfield 7, 3) := by decide +kernel
theorem dX7_valueOf_5 : decode cX7_valueOf 5 = .ok (.ldc2_w 13, 3) := by decide +kernel
theorem dX7_valueOf_8 : decode cX7_valueOf 8 = .ok (.ladd, 1) := by decide +kernel
theorem dX7_valueOf_9 : decode cX7_valueOf 9 = .ok (.putfield 7, 3) := by decide +kernel
theorem dX7_valueOf_12 : decode cX7_valueOf 12 = .ok (.aload_n 0, 1) := by decide +kernel
theorem dX7_valueOf_13 : decode cX7_valueOf 13 = .ok (.aload_n 1, 1) := by decide +kernel
theorem dX7_valueOf_14 : decode cX7_valueOf 14 = .ok (.iload_n 2, 1) := by decide +kernel
theorem dX7_valueOf_15 : decode cX7_valueOf 15 = .ok (.invokespecial 15, 3) := by decide +kernel
theorem dX7_valueOf_18 : decode cX7_valueOf 18 = .ok (.iconst 2, 1) := by decide +kernel
theorem dX7_valueOf_19 : decode cX7_valueOf 19 = .ok (.imul, 1) := by decide +kernel
theorem dX7_valueOf_20 : decode cX7_valueOf 20 = .ok (.ireturn, 1) := by decide +kernel
theorem dX8_init_0 : decode cX8_init 0 = .ok (.aload_n 0, 1) := by decide +kernel
theorem dX8_init_1 : decode cX8_init 1 = .ok (.invokespecial 3, 3) := by decide +kernel
theorem dX8_init_4 : decode cX8_init 4 = .ok (.aload_n 0, 1) := by decide +kernel
theorem dX8_init_5 : decode cX8_init 5 = .ok (.bipush 120, 2) := by decide +kernel
theorem dX8_init_7 : decode cX8_init 7 = .ok (.newarray .int, 2) := by decide +kernel
theorem dX8_init_9 : decode cX8_init 9 = .ok (.putfield 11, 3) := by decide +kernel
theorem dX8_init_12 : decode cX8_init 12 = .ok (.aload_n 0, 1) := by decide +kernel
theorem dX8_init_13 : decode cX8_init 13 = .ok (.iconst (-1), 1) := by decide +kernel
theorem dX8_init_14 : decode cX8_init 14 = .ok (.putfield 15, 3) := by decide +kernel
theorem dX8_init_17 : decode cX8_init 17 = .ok (.return_, 1) := by decide +kernel
theorem dX8_takes_0 : decode cX8_takes 0 = .ok (.aload_n 0, 1) := by decide +kernel
theorem dX8_takes_1 : decode cX8_takes 1 = .ok (.getfield 19, 3) := by decide +kernel
theorem dX8_takes_4 : decode cX8_takes 4 = .ok (.bipush 120, 2) := by decide +kernel
theorem dX8_takes_6 : decode cX8_takes 6 = .ok (.if_icmp .lt 5, 3) := by decide +kernel
theorem dX8_takes_9 : decode cX8_takes 9 = .ok (.iconst 0, 1) := by decide +kernel
theorem dX8_takes_10 : decode cX8_takes 10 = .ok (.ireturn, 1) := by decide +kernel
theorem dX8_takes_11 : decode cX8_takes 11 = .ok (.aload_n 0, 1) := by decide +kernel
theorem dX8_takes_12 : decode cX8_takes 12 = .ok (.getfield 11, 3) := by decide +kernel
theorem dX8_takes_15 : decode cX8_takes 15 = .ok (.aload_n 0, 1) := by decide +kernel
theorem dX8_takes_16 : decode cX8_takes 16 = .ok (.getfield 19, 3) := by decide +kernel
theorem dX8_takes_19 : decode cX8_takes 19 = .ok (.iload_n 1, 1) := by decide +kernel
theorem dX8_takes_20 : decode cX8_takes 20 = .ok (.iastore, 1) := by decide +kernel
theorem dX8_takes_21 : decode cX8_takes 21 = .ok (.aload_n 0, 1) := by decide +kernel
theorem dX8_takes_22 : decode cX8_takes 22 = .ok (.dup, 1) := by decide +kernel
theorem dX8_takes_23 : decode cX8_takes 23 = .ok (.getfield 19, 3) := by decide +kernel
theorem dX8_takes_26 : decode cX8_takes 26 = .ok (.iconst 1, 1) := by decide +kernel
theorem dX8_takes_27 : decode cX8_takes 27 = .ok (.iadd, 1) := by decide +kernel
theorem dX8_takes_28 : decode cX8_takes 28 = .ok (.putfield 19, 3) := by decide +kernel
theorem dX8_takes_31 : decode cX8_takes 31 = .ok (.iconst 1, 1) := by decide +kernel
theorem dX8_takes_32 : decode cX8_takes 32 = .ok (.ireturn, 1) := by decide +kernel
set_option maxRecDepth 20000 in
theorem ggX8_tellTo_X6_begin : GoodIn wsX8_tellTo wsX6_begin := goodIn_r _ [8, 9, 10, 11, 12, 13, 92, 93, 94, 95, 96, 97, 98, 99, 100] (by decide +kernel) (by decide +kernel)
set_option maxRecDepth 20000 in
theorem gX8_tellTo_X6_begin : GoodIn wsX8_tellTo (wsV RX8 22 RX6 yX6_begin wsX6_begin) := goodIn_app (goodIn_of _ (by decide +kernel)) ggX8_tellTo_X6_begin
set_option maxRecDepth 20000 in
theorem ggX8_tellTo_X8_readToken : GoodIn wsX8_tellTo wsX8_readToken := goodIn_r _ [18, 2, 19, 20, 3, 21, 22, 23, 17, 24, 25, 26, 27, 28, 29, 30, 31, 32, 33, 34, 35, 36, 37, 38, 39, 40, 41, 85, 86, 87, 88, 89, 90, 91] (by decide +kernel) (by decide +kernel)
set_option maxRecDepth 20000 in
theorem gX8_tellTo_X8_readToken : GoodIn wsX8_tellTo (wsV RX8 30 RX8 yX8_readToken wsX8_readToken) := goodIn_app (goodIn_of _ (by decide +kernel)) ggX8_tellTo_X8_readToken
set_option maxRecDepth 20000 in
theorem ggX8_tellTo_X8_readItem : GoodIn wsX8_tellTo wsX8_readItem := goodIn_r _ [45, 3, 33, 46, 47, 48, 49, 50, 51, 17, 52, 1, 14, 15, 16, 18, 2, 19, 20, 21, 22, 23, 24, 25, 26, 27, 28, 29, 30, 31, 32, 34, 35, 36, 37, 38, 39, 40, 41, 53, 54, 55, 56, 57, 58, 59, 7, 60, 9, 61, 62, 63, 64, 65, 66, 67, 68, 69, 70, 71, 72, 73, 74, 75, 11, 12, 13, 76, 77, 78, 79, 10, 80, 81, 82, 83, 84, 85, 86, 87, 88, 89, 90, 91, 92, 93, 94, 95, 96, 97, 98, 99, 100] (by decide +kernel) (by decide +kernel)
set_option maxRecDepth 20000 in
theorem gX8_tellTo_X8_readItem : GoodIn wsX8_tellTo (wsV RX8 36 RX8 yX8_readItem wsX8_readItem) := goodIn_app (goodIn_of _ (by decide +kernel)) ggX8_tellTo_X8_readItem
theorem dX8_tellTo_0 : decode cX8_tellTo 0 = .ok (.aload_n 1, 1) := by decide +kernel
theorem dX8_tellTo_1 : decode cX8_tellTo 1 = .ok (.invokevirtual 22, 3) := by decide +kernel
theorem dX8_tellTo_4 : decode cX8_tellTo 4 = .ok (.aload_n 0, 1) := by decide +kernel
theorem dX8_tellTo_5 : decode cX8_tellTo 5 = .ok (.iconst (-1), 1) := by decide +kernel
theorem dX8_tellTo_6 : decode cX8_tellTo 6 = .ok (.putfield 15, 3) := by decide +kernel
theorem dX8_tellTo_9 : decode cX8_tellTo 9 = .ok (.aload_n 0, 1) := by decide +kernel
theorem dX8_tellTo_10 : decode cX8_tellTo 10 = .ok (.iconst 0, 1) := by decide +kernel
theorem dX8_tellTo_11 : decode cX8_tellTo 11 = .ok (.putfield 27, 3) := by decide +kernel
theorem dX8_tellTo_14 : decode cX8_tellTo 14 = .ok (.iconst 0, 1) := by decide +kernel
theorem dX8_tellTo_15 : decode cX8_tellTo 15 = .ok (.istore_n 2, 1) := by decide +kernel
theorem dX8_tellTo_16 : decode cX8_tellTo 16 = .ok (.aload_n 0, 1) := by decide +kernel
theorem dX8_tellTo_17 : decode cX8_tellTo 17 = .ok (.invokevirtual 30, 3) := by decide +kernel
theorem dX8_tellTo_20 : decode cX8_tellTo 20 = .ok (.aload_n 0, 1) := by decide +kernel
theorem dX8_tellTo_21 : decode cX8_tellTo 21 = .ok (.getfield 33, 3) := by decide +kernel
theorem dX8_tellTo_24 : decode cX8_tellTo 24 = .ok (.ifCond .eq 32, 3) := by decide +kernel
theorem dX8_tellTo_27 : decode cX8_tellTo 27 = .ok (.aload_n 0, 1) := by decide +kernel
theorem dX8_tellTo_28 : decode cX8_tellTo 28 = .ok (.getfield 15, 3) := by decide +kernel
theorem dX8_tellTo_31 : decode cX8_tellTo 31 = .ok (.iconst (-1), 1) := by decide +kernel
theorem dX8_tellTo_32 : decode cX8_tellTo 32 = .ok (.if_icmp .ne 24, 3) := by decide +kernel
theorem dX8_tellTo_35 : decode cX8_tellTo 35 = .ok (.iload_n 2, 1) := by decide +kernel
theorem dX8_tellTo_36 : decode cX8_tellTo 36 = .ok (.bipush 120, 2) := by decide +kernel
theorem dX8_tellTo_38 : decode cX8_tellTo 38 = .ok (.if_icmp .ge 18, 3) := by decide +kernel
theorem dX8_tellTo_41 : decode cX8_tellTo 41 = .ok (.aload_n 0, 1) := by decide +kernel
theorem dX8_tellTo_42 : decode cX8_tellTo 42 = .ok (.aload_n 1, 1) := by decide +kernel
theorem dX8_tellTo_43 : decode cX8_tellTo 43 = .ok (.invokevirtual 36, 3) := by decide +kernel
theorem dX8_tellTo_46 : decode cX8_tellTo 46 = .ok (.iinc 2 1, 3) := by decide +kernel
theorem dX8_tellTo_49 : decode cX8_tellTo 49 = .ok (.aload_n 0, 1) := by decide +kernel
theorem dX8_tellTo_50 : decode cX8_tellTo 50 = .ok (.invokevirtual 30, 3) := by decide +kernel
theorem dX8_tellTo_53 : decode cX8_tellTo 53 = .ok (.goto (-33), 3) := by decide +kernel
theorem dX8_tellTo_56 : decode cX8_tellTo 56 = .ok (.iload_n 2, 1) := by decide +kernel
theorem dX8_tellTo_57 : decode cX8_tellTo 57 = .ok (.ireturn, 1) := by decide +kernel
set_option maxRecDepth 20000 in
theorem ggX8_readItem_X8_readNumber : GoodIn wsX8_readItem wsX8_readNumber := goodIn_r _ [10, 11, 1, 2, 12, 13, 14, 9, 15, 16, 17, 18, 19, 20, 21, 22, 23, 24, 25, 26, 27, 28, 29, 30, 31, 32, 33, 34, 35, 36, 37, 38, 39, 40, 41, 42, 77, 78, 79, 80, 81, 82, 83] (by decide +kernel) (by decide +kernel)
set_option maxRecDepth 20000 in
theorem gX8_readItem_X8_readNumber : GoodIn wsX8_readItem (wsV RX8 46 RX8 yX8_readNumber wsX8_readNumber) := goodIn_app (goodIn_of _ (by decide +kernel)) ggX8_readItem_X8_readNumber
set_option maxRecDepth 20000 in
theorem ggX8_readItem_X6_addSection : GoodIn wsX8_readItem wsX6_addSection := goodIn_r _ [47, 48, 49, 50, 51, 84, 85, 86, 87, 88, 89, 90, 91, 92] (by decide +kernel) (by decide +kernel)
set_option maxRecDepth 20000 in
theorem gX8_readItem_X6_addSection : GoodIn wsX8_readItem (wsV RX8 50 RX6 yX6_addSection wsX6_addSection) := goodIn_app (goodIn_of _ (by decide +kernel)) ggX8_readItem_X6_addSection
set_option maxRecDepth 20000 in
theorem ggX8_readItem_X6_lengthOf : GoodIn wsX8_readItem wsX6_lengthOf := goodIn_r _ [55, 49, 56, 57, 58, 46, 59, 48, 84, 85, 86, 87, 88, 89, 90, 91, 92] (by decide +kernel) (by decide +kernel)
set_option maxRecDepth 20000 in
theorem gX8_readItem_X6_lengthOf : GoodIn wsX8_readItem (wsV RX8 58 RX6 yX6_lengthOf wsX6_lengthOf) := goodIn_app (goodIn_of _ (by decide +kernel)) ggX8_readItem_X6_lengthOf
set_option maxRecDepth 20000 in
theorem ggX8_readItem_X6_tellNote : GoodIn wsX8_readItem wsX6_tellNote := goodIn_r _ [63, 64, 65, 66, 84, 85, 86, 87, 88, 89, 90, 91, 92] (by decide +kernel) (by decide +kernel)
set_option maxRecDepth 20000 in
theorem gX8_readItem_X6_tellNote : GoodIn wsX8_readItem (wsV RX8 62 RX6 yX6_tellNote wsX6_tellNote) := goodIn_app (goodIn_of _ (by decide +kernel)) ggX8_readItem_X6_tellNote
set_option maxRecDepth 20000 in
theorem ggX8_readItem_X6_addThing : GoodIn wsX8_readItem wsX6_addThing := goodIn_r _ [70, 71, 72, 84, 85, 86, 87, 88, 89, 90, 91, 92] (by decide +kernel) (by decide +kernel)
set_option maxRecDepth 20000 in
theorem gX8_readItem_X6_addThing : GoodIn wsX8_readItem (wsV RX8 69 RX6 yX6_addThing wsX6_addThing) := goodIn_app (goodIn_of _ (by decide +kernel)) ggX8_readItem_X6_addThing
set_option maxRecDepth 20000 in
theorem ggX8_readItem_X8_failHere : GoodIn wsX8_readItem wsX8_failHere := goodIn_r _ [42, 18, 11, 77, 78, 79, 80, 81, 82, 83] (by decide +kernel) (by decide +kernel)
set_option maxRecDepth 20000 in
theorem gX8_readItem_X8_failHere : GoodIn wsX8_readItem (wsV RX8 73 RX8 yX8_failHere wsX8_failHere) := goodIn_app (goodIn_of _ (by decide +kernel)) ggX8_readItem_X8_failHere
set_option maxRecDepth 20000 in
theorem ggX8_readItem_X8_readSemicolon : GoodIn wsX8_readItem wsX8_readSemicolon := goodIn_r _ [76, 11, 1, 12, 13, 14, 9, 15, 16, 17, 18, 19, 20, 21, 22, 23, 24, 25, 26, 27, 28, 29, 30, 2, 31, 32, 33, 34, 35, 36, 37, 38, 39, 40, 41, 42, 77, 78, 79, 80, 81, 82, 83] (by decide +kernel) (by decide +kernel)
set_option maxRecDepth 20000 in
theorem gX8_readItem_X8_readSemicolon : GoodIn wsX8_readItem (wsV RX8 76 RX8 yX8_readSemicolon wsX8_readSemicolon) := goodIn_app (goodIn_of _ (by decide +kernel)) ggX8_readItem_X8_readSemicolon
theorem dX8_readItem_0 : decode cX8_readItem 0 = .ok (.aload_n 0, 1) := by decide +kernel
theorem dX8_readItem_1 : decode cX8_readItem 1 = .ok (.getfield 33, 3) := by decide +kernel
theorem dX8_readItem_4 : decode cX8_readItem 4 = .ok (.iconst 1, 1) := by decide +kernel
theorem dX8_readItem_5 : decode cX8_readItem 5 = .ok (.if_icmp .ne 10, 3) := by decide +kernel
theorem dX8_readItem_8 : decode cX8_readItem 8 = .ok (.aload_n 0, 1) := by decide +kernel
theorem dX8_readItem_9 : decode cX8_readItem 9 = .ok (.getfield 40, 3) := by decide +kernel
theorem dX8_readItem_12 : decode cX8_readItem 12 = .ok (.goto 4, 3) := by decide +kernel
theorem dX8_readItem_15 : decode cX8_readItem 15 = .ok (.iconst 0, 1) := by decide +kernel
theorem dX8_readItem_16 : decode cX8_readItem 16 = .ok (.istore_n 2, 1) := by decide +kernel
theorem dX8_readItem_17 : decode cX8_readItem 17 = .ok (.iload_n 2, 1) := by decide +kernel
theorem dX8_readItem_18 : decode cX8_readItem 18 = .ok (.bipush 115, 2) := by decide +kernel
theorem dX8_readItem_20 : decode cX8_readItem 20 = .ok (.if_icmp .ne 48, 3) := by decide +kernel
theorem dX8_readItem_23 : decode cX8_readItem 23 = .ok (.aload_n 1, 1) := by decide +kernel
theorem dX8_readItem_24 : decode cX8_readItem 24 = .ok (.getfield 43, 3) := by decide +kernel
theorem dX8_readItem_27 : decode cX8_readItem 27 = .ok (.bipush 8, 2) := by decide +kernel
theorem dX8_readItem_29 : decode cX8_readItem 29 = .ok (.if_icmp .ge 39, 3) := by decide +kernel
theorem dX8_readItem_32 : decode cX8_readItem 32 = .ok (.aload_n 0, 1) := by decide +kernel
theorem dX8_readItem_33 : decode cX8_readItem 33 = .ok (.iconst 1, 1) := by decide +kernel
theorem dX8_readItem_34 : decode cX8_readItem 34 = .ok (.bipush 30, 2) := by decide +kernel
theorem dX8_readItem_36 : decode cX8_readItem 36 = .ok (.invokevirtual 46, 3) := by decide +kernel
theorem dX8_readItem_39 : decode cX8_readItem 39 = .ok (.istore_n 3, 1) := by decide +kernel
theorem dX8_readItem_40 : decode cX8_readItem 40 = .ok (.aload_n 0, 1) := by decide +kernel
theorem dX8_readItem_41 : decode cX8_readItem 41 = .ok (.iconst 1, 1) := by decide +kernel
theorem dX8_readItem_42 : decode cX8_readItem 42 = .ok (.iconst 4, 1) := by decide +kernel
theorem dX8_readItem_43 : decode cX8_readItem 43 = .ok (.invokevirtual 46, 3) := by decide +kernel
theorem dX8_readItem_46 : decode cX8_readItem 46 = .ok (.istore 4, 2) := by decide +kernel
theorem dX8_readItem_48 : decode cX8_readItem 48 = .ok (.aload_n 0, 1) := by decide +kernel
theorem dX8_readItem_49 : decode cX8_readItem 49 = .ok (.iconst 0, 1) := by decide +kernel
theorem dX8_readItem_50 : decode cX8_readItem 50 = .ok (.iconst 3, 1) := by decide +kernel
theorem dX8_readItem_51 : decode cX8_readItem 51 = .ok (.invokevirtual 46, 3) := by decide +kernel
theorem dX8_readItem_54 : decode cX8_readItem 54 = .ok (.istore 5, 2) := by decide +kernel
theorem dX8_readItem_56 : decode cX8_readItem 56 = .ok (.aload_n 1, 1) := by decide +kernel
theorem dX8_readItem_57 : decode cX8_readItem 57 = .ok (.iload_n 3, 1) := by decide +kernel
theorem dX8_readItem_58 : decode cX8_readItem 58 = .ok (.iload 4, 2) := by decide +kernel
theorem dX8_readItem_60 : decode cX8_readItem 60 = .ok (.iload 5, 2) := by decide +kernel
theorem dX8_readItem_62 : decode cX8_readItem 62 = .ok (.invokevirtual 50, 3) := by decide +kernel
theorem dX8_readItem_65 : decode cX8_readItem 65 = .ok (.goto 85, 3) := by decide +kernel
theorem dX8_readItem_68 : decode cX8_readItem 68 = .ok (.iload_n 2, 1) := by decide +kernel
theorem dX8_readItem_69 : decode cX8_readItem 69 = .ok (.bipush 110, 2) := by decide +kernel
theorem dX8_readItem_71 : decode cX8_readItem 71 = .ok (.if_icmp .ne 46, 3) := by decide +kernel
theorem dX8_readItem_74 : decode cX8_readItem 74 = .ok (.aload_n 1, 1) := by decide +kernel
theorem dX8_readItem_75 : decode cX8_readItem 75 = .ok (.getfield 54, 3) := by decide +kernel
theorem dX8_readItem_78 : decode cX8_readItem 78 = .ok (.ifCond .ne 39, 3) := by decide +kernel
theorem dX8_readItem_81 : decode cX8_readItem 81 = .ok (.aload_n 0, 1) := by decide +kernel
theorem dX8_readItem_82 : decode cX8_readItem 82 = .ok (.iconst 0, 1) := by decide +kernel
theorem dX8_readItem_83 : decode cX8_readItem 83 = .ok (.aload_n 1, 1) := by decide +kernel
theorem dX8_readItem_84 : decode cX8_readItem 84 = .ok (.getfield 43, 3) := by decide +kernel
theorem dX8_readItem_87 : decode cX8_readItem 87 = .ok (.iconst 1, 1) := by decide +kernel
theorem dX8_readItem_88 : decode cX8_readItem 88 = .ok (.isub, 1) := by decide +kernel
theorem dX8_readItem_89 : decode cX8_readItem 89 = .ok (.invokevirtual 46, 3) := by decide +kernel
theorem dX8_readItem_92 : decode cX8_readItem 92 = .ok (.istore_n 3, 1) := by decide +kernel
theorem dX8_readItem_93 : decode cX8_readItem 93 = .ok (.aload_n 0, 1) := by decide +kernel
theorem dX8_readItem_94 : decode cX8_readItem 94 = .ok (.iconst 0, 1) := by decide +kernel
theorem dX8_readItem_95 : decode cX8_readItem 95 = .ok (.aload_n 1, 1) := by decide +kernel
theorem dX8_readItem_96 : decode cX8_readItem 96 = .ok (.iload_n 3, 1) := by decide +kernel
theorem dX8_readItem_97 : decode cX8_readItem 97 = .ok (.invokevirtual 58, 3) := by decide +kernel
theorem dX8_readItem_100 : decode cX8_readItem 100 = .ok (.iconst 1, 1) := by decide +kernel
theorem dX8_readItem_101 : decode cX8_readItem 101 = .ok (.isub, 1) := by decide +kernel
theorem dX8_readItem_102 : decode cX8_readItem 102 = .ok (.invokevirtual 46, 3) := by decide +kernel
theorem dX8_readItem_105 : decode cX8_readItem 105 = .ok (.istore 4, 2) := by decide +kernel
theorem dX8_readItem_107 : decode cX8_readItem 107 = .ok (.aload_n 1, 1) := by decide +kernel
theorem dX8_readItem_108 : decode cX8_readItem 108 = .ok (.iload_n 3, 1) := by decide +kernel
theorem dX8_readItem_109 : decode cX8_readItem 109 = .ok (.iload 4, 2) := by decide +kernel
theorem dX8_readItem_111 : decode cX8_readItem 111 = .ok (.invokevirtual 62, 3) := by decide +kernel
theorem dX8_readItem_114 : decode cX8_readItem 114 = .ok (.goto 36, 3) := by decide +kernel
theorem dX8_readItem_117 : decode cX8_readItem 117 = .ok (.iload_n 2, 1) := by decide +kernel
theorem dX8_readItem_118 : decode cX8_readItem 118 = .ok (.bipush 116, 2) := by decide +kernel
theorem dX8_readItem_120 : decode cX8_readItem 120 = .ok (.if_icmp .ne 26, 3) := by decide +kernel
theorem dX8_readItem_123 : decode cX8_readItem 123 = .ok (.aload_n 1, 1) := by decide +kernel
theorem dX8_readItem_124 : decode cX8_readItem 124 = .ok (.getfield 66, 3) := by decide +kernel
theorem dX8_readItem_127 : decode cX8_readItem 127 = .ok (.bipush 6, 2) := by decide +kernel
theorem dX8_readItem_129 : decode cX8_readItem 129 = .ok (.if_icmp .ge 17, 3) := by decide +kernel
theorem dX8_readItem_132 : decode cX8_readItem 132 = .ok (.aload_n 1, 1) := by decide +kernel
theorem dX8_readItem_133 : decode cX8_readItem 133 = .ok (.aload_n 0, 1) := by decide +kernel
theorem dX8_readItem_134 : decode cX8_readItem 134 = .ok (.iconst 1, 1) := by decide +kernel
theorem dX8_readItem_135 : decode cX8_readItem 135 = .ok (.bipush 60, 2) := by decide +kernel
theorem dX8_readItem_137 : decode cX8_readItem 137 = .ok (.invokevirtual 46, 3) := by decide +kernel
theorem dX8_readItem_140 : decode cX8_readItem 140 = .ok (.invokevirtual 69, 3) := by decide +kernel
theorem dX8_readItem_143 : decode cX8_readItem 143 = .ok (.goto 7, 3) := by decide +kernel
theorem dX8_readItem_146 : decode cX8_readItem 146 = .ok (.aload_n 0, 1) := by decide +kernel
theorem dX8_readItem_147 : decode cX8_readItem 147 = .ok (.invokevirtual 73, 3) := by decide +kernel
theorem dX8_readItem_150 : decode cX8_readItem 150 = .ok (.aload_n 0, 1) := by decide +kernel
theorem dX8_readItem_151 : decode cX8_readItem 151 = .ok (.invokevirtual 76, 3) := by decide +kernel
theorem dX8_readItem_154 : decode cX8_readItem 154 = .ok (.return_, 1) := by decide +kernel
set_option maxRecDepth 20000 in
theorem ggX8_readNumber_X8_readToken : GoodIn wsX8_readNumber wsX8_readToken := goodIn_r _ [8, 9, 10, 11, 2, 12, 13, 14, 7, 15, 16, 17, 18, 19, 20, 21, 22, 23, 3, 24, 25, 26, 27, 28, 29, 30, 31, 36, 37, 38, 39, 40, 41, 42] (by decide +kernel) (by decide +kernel)
set_option maxRecDepth 20000 in
theorem gX8_readNumber_X8_readToken : GoodIn wsX8_readNumber (wsV RX8 30 RX8 yX8_readToken wsX8_readToken) := goodIn_app (goodIn_of _ (by decide +kernel)) ggX8_readNumber_X8_readToken
set_option maxRecDepth 20000 in
theorem ggX8_readNumber_X11_isWithin : GoodIn wsX8_readNumber wsX11_isWithin := goodIn_r _ [19] (by decide +kernel) (by decide +kernel)
set_option maxRecDepth 20000 in
theorem gX8_readNumber_X11_isWithin_n79 : GoodIn wsX8_readNumber (wsX11_isWithin) := ggX8_readNumber_X11_isWithin
set_option maxRecDepth 20000 in
theorem ggX8_readNumber_X8_failHere : GoodIn wsX8_readNumber wsX8_failHere := goodIn_r _ [35, 11, 1, 36, 37, 38, 39, 40, 41, 42] (by decide +kernel) (by decide +kernel)
set_option maxRecDepth 20000 in
theorem gX8_readNumber_X8_failHere : GoodIn wsX8_readNumber (wsV RX8 73 RX8 yX8_failHere wsX8_failHere) := goodIn_app (goodIn_of _ (by decide +kernel)) ggX8_readNumber_X8_failHere
theorem dX8_readNumber_0 : decode cX8_readNumber 0 = .ok (.aload_n 0, 1) := by decide +kernel
theorem dX8_readNumber_1 : decode cX8_readNumber 1 = .ok (.getfield 15, 3) := by decide +kernel
theorem dX8_readNumber_4 : decode cX8_readNumber 4 = .ok (.iconst (-1), 1) := by decide +kernel
theorem dX8_readNumber_5 : decode cX8_readNumber 5 = .ok (.if_icmp .eq 6, 3) := by decide +kernel
theorem dX8_readNumber_8 : decode cX8_readNumber 8 = .ok (.bipush (-9), 2) := by decide +kernel
theorem dX8_readNumber_10 : decode cX8_readNumber 10 = .ok (.ireturn, 1) := by decide +kernel
theorem dX8_readNumber_11 : decode cX8_readNumber 11 = .ok (.aload_n 0, 1) := by decide +kernel
theorem dX8_readNumber_12 : decode cX8_readNumber 12 = .ok (.invokevirtual 30, 3) := by decide +kernel
theorem dX8_readNumber_15 : decode cX8_readNumber 15 = .ok (.aload_n 0, 1) := by decide +kernel
theorem dX8_readNumber_16 : decode cX8_readNumber 16 = .ok (.getfield 33, 3) := by decide +kernel
theorem dX8_readNumber_19 : decode cX8_readNumber 19 = .ok (.iconst 2, 1) := by decide +kernel
theorem dX8_readNumber_20 : decode cX8_readNumber 20 = .ok (.if_icmp .ne 20, 3) := by decide +kernel
theorem dX8_readNumber_23 : decode cX8_readNumber 23 = .ok (.aload_n 0, 1) := by decide +kernel
theorem dX8_readNumber_24 : decode cX8_readNumber 24 = .ok (.getfield 40, 3) := by decide +kernel
theorem dX8_readNumber_27 : decode cX8_readNumber 27 = .ok (.iload_n 1, 1) := by decide +kernel
theorem dX8_readNumber_28 : decode cX8_readNumber 28 = .ok (.iload_n 2, 1) := by decide +kernel
theorem dX8_readNumber_29 : decode cX8_readNumber 29 = .ok (.invokestatic 79, 3) := by decide +kernel
theorem dX8_readNumber_32 : decode cX8_readNumber 32 = .ok (.ifCond .eq 8, 3) := by decide +kernel
theorem dX8_readNumber_35 : decode cX8_readNumber 35 = .ok (.aload_n 0, 1) := by decide +kernel
theorem dX8_readNumber_36 : decode cX8_readNumber 36 = .ok (.getfield 40, 3) := by decide +kernel
theorem dX8_readNumber_39 : decode cX8_readNumber 39 = .ok (.ireturn, 1) := by decide +kernel
theorem dX8_readNumber_40 : decode cX8_readNumber 40 = .ok (.aload_n 0, 1) := by decide +kernel
theorem dX8_readNumber_41 : decode cX8_readNumber 41 = .ok (.invokevirtual 73, 3) := by decide +kernel
theorem dX8_readNumber_44 : decode cX8_readNumber 44 = .ok (.bipush (-9), 2) := by decide +kernel
theorem dX8_readNumber_46 : decode cX8_readNumber 46 = .ok (.ireturn, 1) := by decide +kernel
set_option maxRecDepth 20000 in
theorem ggX8_readSemicolon_X8_readToken : GoodIn wsX8_readSemicolon wsX8_readToken := goodIn_r _ [7, 8, 9, 10, 2, 11, 12, 13, 6, 14, 15, 16, 17, 18, 19, 20, 21, 22, 23, 24, 25, 26, 27, 28, 29, 30, 31, 36, 37, 38, 39, 40, 41, 42] (by decide +kernel) (by decide +kernel)
set_option maxRecDepth 20000 in
theorem gX8_readSemicolon_X8_readToken : GoodIn wsX8_readSemicolon (wsV RX8 30 RX8 yX8_readToken wsX8_readToken) := goodIn_app (goodIn_of _ (by decide +kernel)) ggX8_readSemicolon_X8_readToken
set_option maxRecDepth 20000 in
theorem ggX8_readSemicolon_X8_failHere : GoodIn wsX8_readSemicolon wsX8_failHere := goodIn_r _ [35, 10, 1, 36, 37, 38, 39, 40, 41, 42] (by decide +kernel) (by decide +kernel)
set_option maxRecDepth 20000 in
theorem gX8_readSemicolon_X8_failHere : GoodIn wsX8_readSemicolon (wsV RX8 73 RX8 yX8_failHere wsX8_failHere) := goodIn_app (goodIn_of _ (by decide +kernel)) ggX8_readSemicolon_X8_failHere
theorem dX8_readSemicolon_0 : decode cX8_readSemicolon 0 = .ok (.aload_n 0, 1) := by decide +kernel
theorem dX8_readSemicolon_1 : decode cX8_readSemicolon 1 = .ok (.getfield 15, 3) := by decide +kernel
theorem dX8_readSemicolon_4 : decode cX8_readSemicolon 4 = .ok (.iconst (-1), 1) := by decide +kernel
theorem dX8_readSemicolon_5 : decode cX8_readSemicolon 5 = .ok (.if_icmp .ne 19, 3) := by decide +kernel
theorem dX8_readSemicolon_8 : decode cX8_readSemicolon 8 = .ok (.aload_n 0, 1) := by decide +kernel
theorem dX8_readSemicolon_9 : decode cX8_readSemicolon 9 = .ok (.invokevirtual 30, 3) := by decide +kernel
theorem dX8_readSemicolon_12 : decode cX8_readSemicolon 12 = .ok (.aload_n 0, 1) := by decide +kernel
theorem dX8_readSemicolon_13 : decode cX8_readSemicolon 13 = .ok (.getfield 33, 3) := by decide +kernel
theorem dX8_readSemicolon_16 : decode cX8_readSemicolon 16 = .ok (.iconst 3, 1) := by decide +kernel
theorem dX8_readSemicolon_17 : decode cX8_readSemicolon 17 = .ok (.if_icmp .eq 7, 3) := by decide +kernel
theorem dX8_readSemicolon_20 : decode cX8_readSemicolon 20 = .ok (.aload_n 0, 1) := by decide +kernel
theorem dX8_readSemicolon_21 : decode cX8_readSemicolon 21 = .ok (.invokevirtual 73, 3) := by decide +kernel
theorem dX8_readSemicolon_24 : decode cX8_readSemicolon 24 = .ok (.return_, 1) := by decide +kernel
theorem dX8_failHere_0 : decode cX8_failHere 0 = .ok (.aload_n 0, 1) := by decide +kernel
theorem dX8_failHere_1 : decode cX8_failHere 1 = .ok (.aload_n 0, 1) := by decide +kernel
theorem dX8_failHere_2 : decode cX8_failHere 2 = .ok (.getfield 83, 3) := by decide +kernel
theorem dX8_failHere_5 : decode cX8_failHere 5 = .ok (.putfield 15, 3) := by decide +kernel
theorem dX8_failHere_8 : decode cX8_failHere 8 = .ok (.return_, 1) := by decide +kernel
set_option maxRecDepth 20000 in
theorem ggX8_readToken_X8_byteAt : GoodIn wsX8_readToken wsX8_byteAt := goodIn_r _ [9, 10, 27, 28, 29, 30, 31, 32, 33] (by decide +kernel) (by decide +kernel)
set_option maxRecDepth 20000 in
theorem gX8_readToken_X8_byteAt : GoodIn wsX8_readToken (wsV RX8 86 RX8 yX8_byteAt wsX8_byteAt) := goodIn_app (goodIn_of _ (by decide +kernel)) ggX8_readToken_X8_byteAt
set_option maxRecDepth 20000 in
theorem ggX8_readToken_X11_isWithin : GoodIn wsX8_readToken wsX11_isWithin := goodIn_r _ [13] (by decide +kernel) (by decide +kernel)
set_option maxRecDepth 20000 in
theorem gX8_readToken_X11_isWithin_n79 : GoodIn wsX8_readToken (wsX11_isWithin) := ggX8_readToken_X11_isWithin
set_option maxRecDepth 20000 in
theorem ggX8_readToken_X8_takeLetters : GoodIn wsX8_readToken wsX8_takeLetters := goodIn_r _ [17, 4, 1, 2, 3, 18, 5, 6, 7, 8, 9, 10, 11, 12, 13, 27, 28, 29, 30, 31, 32, 33] (by decide +kernel) (by decide +kernel)
set_option maxRecDepth 20000 in
theorem gX8_readToken_X8_takeLetters : GoodIn wsX8_readToken (wsV RX8 89 RX8 yX8_takeLetters wsX8_takeLetters) := goodIn_app (goodIn_of _ (by decide +kernel)) ggX8_readToken_X8_takeLetters
set_option maxRecDepth 20000 in
theorem ggX8_readToken_X8_takeDigits : GoodIn wsX8_readToken wsX8_takeDigits := goodIn_r _ [22, 1, 2, 23, 24, 25, 26, 3, 4, 18, 5, 6, 7, 8, 9, 10, 11, 12, 13, 27, 28, 29, 30, 31, 32, 33] (by decide +kernel) (by decide +kernel)
set_option maxRecDepth 20000 in
theorem gX8_readToken_X8_takeDigits : GoodIn wsX8_readToken (wsV RX8 92 RX8 yX8_takeDigits wsX8_takeDigits) := goodIn_app (goodIn_of _ (by decide +kernel)) ggX8_readToken_X8_takeDigits
theorem dX8_readToken_0 : decode cX8_readToken 0 = .ok (.aload_n 0, 1) := by decide +kernel
theorem dX8_readToken_1 : decode cX8_readToken 1 = .ok (.getfield 27, 3) := by decide +kernel
theorem dX8_readToken_4 : decode cX8_readToken 4 = .ok (.istore_n 1, 1) := by decide +kernel
theorem dX8_readToken_5 : decode cX8_readToken 5 = .ok (.iload_n 1, 1) := by decide +kernel
theorem dX8_readToken_6 : decode cX8_readToken 6 = .ok (.aload_n 0, 1) := by decide +kernel
theorem dX8_readToken_7 : decode cX8_readToken 7 = .ok (.getfield 19, 3) := by decide +kernel
theorem dX8_readToken_10 : decode cX8_readToken 10 = .ok (.if_icmp .ge 26, 3) := by decide +kernel
theorem dX8_readToken_13 : decode cX8_readToken 13 = .ok (.aload_n 0, 1) := by decide +kernel
theorem dX8_readToken_14 : decode cX8_readToken 14 = .ok (.iload_n 1, 1) := by decide +kernel
theorem dX8_readToken_15 : decode cX8_readToken 15 = .ok (.invokevirtual 86, 3) := by decide +kernel
theorem dX8_readToken_18 : decode cX8_readToken 18 = .ok (.bipush 32, 2) := by decide +kernel
theorem dX8_readToken_20 : decode cX8_readToken 20 = .ok (.if_icmp .ne 16, 3) := by decide +kernel
theorem dX8_readToken_23 : decode cX8_readToken 23 = .ok (.aload_n 0, 1) := by decide +kernel
theorem dX8_readToken_24 : decode cX8_readToken 24 = .ok (.iload_n 1, 1) := by decide +kernel
theorem dX8_readToken_25 : decode cX8_readToken 25 = .ok (.iconst 1, 1) := by decide +kernel
theorem dX8_readToken_26 : decode cX8_readToken 26 = .ok (.iadd, 1) := by decide +kernel
theorem dX8_readToken_27 : decode cX8_readToken 27 = .ok (.putfield 27, 3) := by decide +kernel
theorem dX8_readToken_30 : decode cX8_readToken 30 = .ok (.iinc 1 1, 3) := by decide +kernel
theorem dX8_readToken_33 : decode cX8_readToken 33 = .ok (.goto (-28), 3) := by decide +kernel
theorem dX8_readToken_36 : decode cX8_readToken 36 = .ok (.aload_n 0, 1) := by decide +kernel
theorem dX8_readToken_37 : decode cX8_readToken 37 = .ok (.aload_n 0, 1) := by decide +kernel
theorem dX8_readToken_38 : decode cX8_readToken 38 = .ok (.getfield 27, 3) := by decide +kernel
theorem dX8_readToken_41 : decode cX8_readToken 41 = .ok (.putfield 83, 3) := by decide +kernel
theorem dX8_readToken_44 : decode cX8_readToken 44 = .ok (.aload_n 0, 1) := by decide +kernel
theorem dX8_readToken_45 : decode cX8_readToken 45 = .ok (.aload_n 0, 1) := by decide +kernel
theorem dX8_readToken_46 : decode cX8_readToken 46 = .ok (.getfield 27, 3) := by decide +kernel
theorem dX8_readToken_49 : decode cX8_readToken 49 = .ok (.invokevirtual 86, 3) := by decide +kernel
theorem dX8_readToken_52 : decode cX8_readToken 52 = .ok (.istore_n 1, 1) := by decide +kernel
theorem dX8_readToken_53 : decode cX8_readToken 53 = .ok (.aload_n 0, 1) := by decide +kernel
theorem dX8_readToken_54 : decode cX8_readToken 54 = .ok (.getfield 27, 3) := by decide +kernel
theorem dX8_readToken_57 : decode cX8_readToken 57 = .ok (.aload_n 0, 1) := by decide +kernel
theorem dX8_readToken_58 : decode cX8_readToken 58 = .ok (.getfield 19, 3) := by decide +kernel
theorem dX8_readToken_61 : decode cX8_readToken 61 = .ok (.if_icmp .lt 11, 3) := by decide +kernel
theorem dX8_readToken_64 : decode cX8_readToken 64 = .ok (.aload_n 0, 1) := by decide +kernel
theorem dX8_readToken_65 : decode cX8_readToken 65 = .ok (.iconst 0, 1) := by decide +kernel
theorem dX8_readToken_66 : decode cX8_readToken 66 = .ok (.putfield 33, 3) := by decide +kernel
theorem dX8_readToken_69 : decode cX8_readToken 69 = .ok (.goto 64, 3) := by decide +kernel
theorem dX8_readToken_72 : decode cX8_readToken 72 = .ok (.iload_n 1, 1) := by decide +kernel
theorem dX8_readToken_73 : decode cX8_readToken 73 = .ok (.bipush 97, 2) := by decide +kernel
theorem dX8_readToken_75 : decode cX8_readToken 75 = .ok (.bipush 122, 2) := by decide +kernel
theorem dX8_readToken_77 : decode cX8_readToken 77 = .ok (.invokestatic 79, 3) := by decide +kernel
theorem dX8_readToken_80 : decode cX8_readToken 80 = .ok (.ifCond .eq 10, 3) := by decide +kernel
theorem dX8_readToken_83 : decode cX8_readToken 83 = .ok (.aload_n 0, 1) := by decide +kernel
theorem dX8_readToken_84 : decode cX8_readToken 84 = .ok (.invokevirtual 89, 3) := by decide +kernel
theorem dX8_readToken_87 : decode cX8_readToken 87 = .ok (.goto 46, 3) := by decide +kernel
theorem dX8_readToken_90 : decode cX8_readToken 90 = .ok (.iload_n 1, 1) := by decide +kernel
theorem dX8_readToken_91 : decode cX8_readToken 91 = .ok (.bipush 48, 2) := by decide +kernel
theorem dX8_readToken_93 : decode cX8_readToken 93 = .ok (.bipush 57, 2) := by decide +kernel
theorem dX8_readToken_95 : decode cX8_readToken 95 = .ok (.invokestatic 79, 3) := by decide +kernel
theorem dX8_readToken_98 : decode cX8_readToken 98 = .ok (.ifCond .eq 10, 3) := by decide +kernel
theorem dX8_readToken_101 : decode cX8_readToken 101 = .ok (.aload_n 0, 1) := by decide +kernel
theorem dX8_readToken_102 : decode cX8_readToken 102 = .ok (.invokevirtual 92, 3) := by decide +kernel
theorem dX8_readToken_105 : decode cX8_readToken 105 = .ok (.goto 28, 3) := by decide +kernel
theorem dX8_readToken_108 : decode cX8_readToken 108 = .ok (.aload_n 0, 1) := by decide +kernel
theorem dX8_readToken_109 : decode cX8_readToken 109 = .ok (.iload_n 1, 1) := by decide +kernel
theorem dX8_readToken_110 : decode cX8_readToken 110 = .ok (.bipush 59, 2) := by decide +kernel
theorem dX8_readToken_112 : decode cX8_readToken 112 = .ok (.if_icmp .ne 7, 3) := by decide +kernel
theorem dX8_readToken_115 : decode cX8_readToken 115 = .ok (.iconst 3, 1) := by decide +kernel
theorem dX8_readToken_116 : decode cX8_readToken 116 = .ok (.goto 4, 3) := by decide +kernel
theorem dX8_readToken_119 : decode cX8_readToken 119 = .ok (.iconst 4, 1) := by decide +kernel
theorem dX8_readToken_120 : decode cX8_readToken 120 = .ok (.putfield 33, 3) := by decide +kernel
theorem dX8_readToken_123 : decode cX8_readToken 123 = .ok (.aload_n 0, 1) := by decide +kernel
theorem dX8_readToken_124 : decode cX8_readToken 124 = .ok (.dup, 1) := by decide +kernel
theorem dX8_readToken_125 : decode cX8_readToken 125 = .ok (.getfield 27, 3) := by decide +kernel
theorem dX8_readToken_128 : decode cX8_readToken 128 = .ok (.iconst 1, 1) := by decide +kernel
theorem dX8_readToken_129 : decode cX8_readToken 129 = .ok (.iadd, 1) := by decide +kernel
theorem dX8_readToken_130 : decode cX8_readToken 130 = .ok (.putfield 27, 3) := by decide +kernel
theorem dX8_readToken_133 : decode cX8_readToken 133 = .ok (.return_, 1) := by decide +kernel
set_option maxRecDepth 20000 in
theorem ggX8_takeLetters_X8_byteAt : GoodIn wsX8_takeLetters wsX8_byteAt := goodIn_r _ [10, 11, 15, 16, 17, 18, 19, 20, 21] (by decide +kernel) (by decide +kernel)
set_option maxRecDepth 20000 in
theorem gX8_takeLetters_X8_byteAt : GoodIn wsX8_takeLetters (wsV RX8 86 RX8 yX8_byteAt wsX8_byteAt) := goodIn_app (goodIn_of _ (by decide +kernel)) ggX8_takeLetters_X8_byteAt
set_option maxRecDepth 20000 in
theorem ggX8_takeLetters_X11_isWithin : GoodIn wsX8_takeLetters wsX11_isWithin := goodIn_r _ [14] (by decide +kernel) (by decide +kernel)
set_option maxRecDepth 20000 in
theorem gX8_takeLetters_X11_isWithin_n79 : GoodIn wsX8_takeLetters (wsX11_isWithin) := ggX8_takeLetters_X11_isWithin
theorem dX8_takeLetters_0 : decode cX8_takeLetters 0 = .ok (.aload_n 0, 1) := by decide +kernel
theorem dX8_takeLetters_1 : decode cX8_takeLetters 1 = .ok (.iconst 1, 1) := by decide +kernel
theorem dX8_takeLetters_2 : decode cX8_takeLetters 2 = .ok (.putfield 33, 3) := by decide +kernel
theorem dX8_takeLetters_5 : decode cX8_takeLetters 5 = .ok (.aload_n 0, 1) := by decide +kernel
theorem dX8_takeLetters_6 : decode cX8_takeLetters 6 = .ok (.getfield 27, 3) := by decide +kernel
theorem dX8_takeLetters_9 : decode cX8_takeLetters 9 = .ok (.istore_n 1, 1) := by decide +kernel
theorem dX8_takeLetters_10 : decode cX8_takeLetters 10 = .ok (.iload_n 1, 1) := by decide +kernel
theorem dX8_takeLetters_11 : decode cX8_takeLetters 11 = .ok (.aload_n 0, 1) := by decide +kernel
theorem dX8_takeLetters_12 : decode cX8_takeLetters 12 = .ok (.getfield 19, 3) := by decide +kernel
theorem dX8_takeLetters_15 : decode cX8_takeLetters 15 = .ok (.if_icmp .ge 31, 3) := by decide +kernel
theorem dX8_takeLetters_18 : decode cX8_takeLetters 18 = .ok (.aload_n 0, 1) := by decide +kernel
theorem dX8_takeLetters_19 : decode cX8_takeLetters 19 = .ok (.iload_n 1, 1) := by decide +kernel
theorem dX8_takeLetters_20 : decode cX8_takeLetters 20 = .ok (.invokevirtual 86, 3) := by decide +kernel
theorem dX8_takeLetters_23 : decode cX8_takeLetters 23 = .ok (.bipush 97, 2) := by decide +kernel
theorem dX8_takeLetters_25 : decode cX8_takeLetters 25 = .ok (.bipush 122, 2) := by decide +kernel
theorem dX8_takeLetters_27 : decode cX8_takeLetters 27 = .ok (.invokestatic 79, 3) := by decide +kernel
theorem dX8_takeLetters_30 : decode cX8_takeLetters 30 = .ok (.ifCond .eq 16, 3) := by decide +kernel
theorem dX8_takeLetters_33 : decode cX8_takeLetters 33 = .ok (.aload_n 0, 1) := by decide +kernel
theorem dX8_takeLetters_34 : decode cX8_takeLetters 34 = .ok (.iload_n 1, 1) := by decide +kernel
theorem dX8_takeLetters_35 : decode cX8_takeLetters 35 = .ok (.iconst 1, 1) := by decide +kernel
theorem dX8_takeLetters_36 : decode cX8_takeLetters 36 = .ok (.iadd, 1) := by decide +kernel
theorem dX8_takeLetters_37 : decode cX8_takeLetters 37 = .ok (.putfield 27, 3) := by decide +kernel
theorem dX8_takeLetters_40 : decode cX8_takeLetters 40 = .ok (.iinc 1 1, 3) := by decide +kernel
theorem dX8_takeLetters_43 : decode cX8_takeLetters 43 = .ok (.goto (-33), 3) := by decide +kernel
theorem dX8_takeLetters_46 : decode cX8_takeLetters 46 = .ok (.aload_n 0, 1) := by decide +kernel
theorem dX8_takeLetters_47 : decode cX8_takeLetters 47 = .ok (.aload_n 0, 1) := by decide +kernel
theorem dX8_takeLetters_48 : decode cX8_takeLetters 48 = .ok (.getfield 27, 3) := by decide +kernel
theorem dX8_takeLetters_51 : decode cX8_takeLetters 51 = .ok (.aload_n 0, 1) := by decide +kernel
theorem dX8_takeLetters_52 : decode cX8_takeLetters 52 = .ok (.getfield 83, 3) := by decide +kernel
theorem dX8_takeLetters_55 : decode cX8_takeLetters 55 = .ok (.isub, 1) := by decide +kernel
theorem dX8_takeLetters_56 : decode cX8_takeLetters 56 = .ok (.iconst 1, 1) := by decide +kernel
theorem dX8_takeLetters_57 : decode cX8_takeLetters 57 = .ok (.if_icmp .ne 14, 3) := by decide +kernel
theorem dX8_takeLetters_60 : decode cX8_takeLetters 60 = .ok (.aload_n 0, 1) := by decide +kernel
theorem dX8_takeLetters_61 : decode cX8_takeLetters 61 = .ok (.aload_n 0, 1) := by decide +kernel
theorem dX8_takeLetters_62 : decode cX8_takeLetters 62 = .ok (.getfield 83, 3) := by decide +kernel
theorem dX8_takeLetters_65 : decode cX8_takeLetters 65 = .ok (.invokevirtual 86, 3) := by decide +kernel
theorem dX8_takeLetters_68 : decode cX8_takeLetters 68 = .ok (.goto 4, 3) := by decide +kernel
theorem dX8_takeLetters_71 : decode cX8_takeLetters 71 = .ok (.iconst 0, 1) := by decide +kernel
theorem dX8_takeLetters_72 : decode cX8_takeLetters 72 = .ok (.putfield 40, 3) := by decide +kernel
theorem dX8_takeLetters_75 : decode cX8_takeLetters 75 = .ok (.return_, 1) := by decide +kernel
set_option maxRecDepth 20000 in
theorem ggX8_takeDigits_X8_byteAt : GoodIn wsX8_takeDigits wsX8_byteAt := goodIn_r _ [14, 15, 19, 20, 21, 22, 23, 24, 25] (by decide +kernel) (by decide +kernel)
set_option maxRecDepth 20000 in
theorem gX8_takeDigits_X8_byteAt : GoodIn wsX8_takeDigits (wsV RX8 86 RX8 yX8_byteAt wsX8_byteAt) := goodIn_app (goodIn_of _ (by decide +kernel)) ggX8_takeDigits_X8_byteAt
set_option maxRecDepth 20000 in
theorem ggX8_takeDigits_X11_isWithin : GoodIn wsX8_takeDigits wsX11_isWithin := goodIn_r _ [18] (by decide +kernel) (by decide +kernel)
set_option maxRecDepth 20000 in
theorem gX8_takeDigits_X11_isWithin_n79 : GoodIn wsX8_takeDigits (wsX11_isWithin) := ggX8_takeDigits_X11_isWithin
theorem dX8_takeDigits_0 : decode cX8_takeDigits 0 = .ok (.iconst 0, 1) := by decide +kernel
theorem dX8_takeDigits_1 : decode cX8_takeDigits 1 = .ok (.istore_n 1, 1) := by decide +kernel
theorem dX8_takeDigits_2 : decode cX8_takeDigits 2 = .ok (.aload_n 0, 1) := by decide +kernel
theorem dX8_takeDigits_3 : decode cX8_takeDigits 3 = .ok (.getfield 27, 3) := by decide +kernel
theorem dX8_takeDigits_6 : decode cX8_takeDigits 6 = .ok (.istore_n 2, 1) := by decide +kernel
theorem dX8_takeDigits_7 : decode cX8_takeDigits 7 = .ok (.iload_n 2, 1) := by decide +kernel
theorem dX8_takeDigits_8 : decode cX8_takeDigits 8 = .ok (.aload_n 0, 1) := by decide +kernel
theorem dX8_takeDigits_9 : decode cX8_takeDigits 9 = .ok (.getfield 19, 3) := by decide +kernel
theorem dX8_takeDigits_12 : decode cX8_takeDigits 12 = .ok (.if_icmp .ge 50, 3) := by decide +kernel
theorem dX8_takeDigits_15 : decode cX8_takeDigits 15 = .ok (.aload_n 0, 1) := by decide +kernel
theorem dX8_takeDigits_16 : decode cX8_takeDigits 16 = .ok (.iload_n 2, 1) := by decide +kernel
theorem dX8_takeDigits_17 : decode cX8_takeDigits 17 = .ok (.invokevirtual 86, 3) := by decide +kernel
theorem dX8_takeDigits_20 : decode cX8_takeDigits 20 = .ok (.bipush 48, 2) := by decide +kernel
theorem dX8_takeDigits_22 : decode cX8_takeDigits 22 = .ok (.bipush 57, 2) := by decide +kernel
theorem dX8_takeDigits_24 : decode cX8_takeDigits 24 = .ok (.invokestatic 79, 3) := by decide +kernel
theorem dX8_takeDigits_27 : decode cX8_takeDigits 27 = .ok (.ifCond .eq 35, 3) := by decide +kernel
theorem dX8_takeDigits_30 : decode cX8_takeDigits 30 = .ok (.iload_n 1, 1) := by decide +kernel
theorem dX8_takeDigits_31 : decode cX8_takeDigits 31 = .ok (.bipush 10, 2) := by decide +kernel
theorem dX8_takeDigits_33 : decode cX8_takeDigits 33 = .ok (.imul, 1) := by decide +kernel
theorem dX8_takeDigits_34 : decode cX8_takeDigits 34 = .ok (.aload_n 0, 1) := by decide +kernel
theorem dX8_takeDigits_35 : decode cX8_takeDigits 35 = .ok (.iload_n 2, 1) := by decide +kernel
theorem dX8_takeDigits_36 : decode cX8_takeDigits 36 = .ok (.invokevirtual 86, 3) := by decide +kernel
theorem dX8_takeDigits_39 : decode cX8_takeDigits 39 = .ok (.iadd, 1) := by decide +kernel
theorem dX8_takeDigits_40 : decode cX8_takeDigits 40 = .ok (.bipush 48, 2) := by decide +kernel
theorem dX8_takeDigits_42 : decode cX8_takeDigits 42 = .ok (.isub, 1) := by decide +kernel
theorem dX8_takeDigits_43 : decode cX8_takeDigits 43 = .ok (.bipush 100, 2) := by decide +kernel
theorem dX8_takeDigits_45 : decode cX8_takeDigits 45 = .ok (.invokestatic 95, 3) := by decide +kernel
theorem dX8_takeDigits_48 : decode cX8_takeDigits 48 = .ok (.istore_n 1, 1) := by decide +kernel
theorem dX8_takeDigits_49 : decode cX8_takeDigits 49 = .ok (.aload_n 0, 1) := by decide +kernel
theorem dX8_takeDigits_50 : decode cX8_takeDigits 50 = .ok (.iload_n 2, 1) := by decide +kernel
theorem dX8_takeDigits_51 : decode cX8_takeDigits 51 = .ok (.iconst 1, 1) := by decide +kernel
theorem dX8_takeDigits_52 : decode cX8_takeDigits 52 = .ok (.iadd, 1) := by decide +kernel
theorem dX8_takeDigits_53 : decode cX8_takeDigits 53 = .ok (.putfield 27, 3) := by decide +kernel
theorem dX8_takeDigits_56 : decode cX8_takeDigits 56 = .ok (.iinc 2 1, 3) := by decide +kernel
theorem dX8_takeDigits_59 : decode cX8_takeDigits 59 = .ok (.goto (-52), 3) := by decide +kernel
theorem dX8_takeDigits_62 : decode cX8_takeDigits 62 = .ok (.aload_n 0, 1) := by decide +kernel
theorem dX8_takeDigits_63 : decode cX8_takeDigits 63 = .ok (.aload_n 0, 1) := by decide +kernel
theorem dX8_takeDigits_64 : decode cX8_takeDigits 64 = .ok (.getfield 83, 3) := by decide +kernel
theorem dX8_takeDigits_67 : decode cX8_takeDigits 67 = .ok (.invokevirtual 86, 3) := by decide +kernel
theorem dX8_takeDigits_70 : decode cX8_takeDigits 70 = .ok (.bipush 48, 2) := by decide +kernel
theorem dX8_takeDigits_72 : decode cX8_takeDigits 72 = .ok (.if_icmp .ne 20, 3) := by decide +kernel
theorem dX8_takeDigits_75 : decode cX8_takeDigits 75 = .ok (.aload_n 0, 1) := by decide +kernel
theorem dX8_takeDigits_76 : decode cX8_takeDigits 76 = .ok (.getfield 27, 3) := by decide +kernel
theorem dX8_takeDigits_79 : decode cX8_takeDigits 79 = .ok (.aload_n 0, 1) := by decide +kernel
theorem dX8_takeDigits_80 : decode cX8_takeDigits 80 = .ok (.getfield 83, 3) := by decide +kernel
theorem dX8_takeDigits_83 : decode cX8_takeDigits 83 = .ok (.isub, 1) := by decide +kernel
theorem dX8_takeDigits_84 : decode cX8_takeDigits 84 = .ok (.iconst 1, 1) := by decide +kernel
theorem dX8_takeDigits_85 : decode cX8_takeDigits 85 = .ok (.if_icmp .le 7, 3) := by decide +kernel
theorem dX8_takeDigits_88 : decode cX8_takeDigits 88 = .ok (.iconst 1, 1) := by decide +kernel
theorem dX8_takeDigits_89 : decode cX8_takeDigits 89 = .ok (.goto 4, 3) := by decide +kernel
theorem dX8_takeDigits_92 : decode cX8_takeDigits 92 = .ok (.iconst 0, 1) := by decide +kernel
theorem dX8_takeDigits_93 : decode cX8_takeDigits 93 = .ok (.istore_n 2, 1) := by decide +kernel
theorem dX8_takeDigits_94 : decode cX8_takeDigits 94 = .ok (.aload_n 0, 1) := by decide +kernel
theorem dX8_takeDigits_95 : decode cX8_takeDigits 95 = .ok (.iload_n 2, 1) := by decide +kernel
theorem dX8_takeDigits_96 : decode cX8_takeDigits 96 = .ok (.ifCond .ne 9, 3) := by decide +kernel
theorem dX8_takeDigits_99 : decode cX8_takeDigits 99 = .ok (.iload_n 1, 1) := by decide +kernel
theorem dX8_takeDigits_100 : decode cX8_takeDigits 100 = .ok (.bipush 99, 2) := by decide +kernel
theorem dX8_takeDigits_102 : decode cX8_takeDigits 102 = .ok (.if_icmp .le 7, 3) := by decide +kernel
theorem dX8_takeDigits_105 : decode cX8_takeDigits 105 = .ok (.iconst 4, 1) := by decide +kernel
theorem dX8_takeDigits_106 : decode cX8_takeDigits 106 = .ok (.goto 4, 3) := by decide +kernel
theorem dX8_takeDigits_109 : decode cX8_takeDigits 109 = .ok (.iconst 2, 1) := by decide +kernel
theorem dX8_takeDigits_110 : decode cX8_takeDigits 110 = .ok (.putfield 33, 3) := by decide +kernel
theorem dX8_takeDigits_113 : decode cX8_takeDigits 113 = .ok (.aload_n 0, 1) := by decide +kernel
theorem dX8_takeDigits_114 : decode cX8_takeDigits 114 = .ok (.iload_n 1, 1) := by decide +kernel
theorem dX8_takeDigits_115 : decode cX8_takeDigits 115 = .ok (.putfield 40, 3) := by decide +kernel
theorem dX8_takeDigits_118 : decode cX8_takeDigits 118 = .ok (.return_, 1) := by decide +kernel
theorem dX8_byteAt_0 : decode cX8_byteAt 0 = .ok (.iload_n 1, 1) := by decide +kernel
theorem dX8_byteAt_1 : decode cX8_byteAt 1 = .ok (.ifCond .lt 18, 3) := by decide +kernel
theorem dX8_byteAt_4 : decode cX8_byteAt 4 = .ok (.iload_n 1, 1) := by decide +kernel
theorem dX8_byteAt_5 : decode cX8_byteAt 5 = .ok (.bipush 120, 2) := by decide +kernel
theorem dX8_byteAt_7 : decode cX8_byteAt 7 = .ok (.if_icmp .ge 12, 3) := by decide +kernel
theorem dX8_byteAt_10 : decode cX8_byteAt 10 = .ok (.aload_n 0, 1) := by decide +kernel
theorem dX8_byteAt_11 : decode cX8_byteAt 11 = .ok (.getfield 11, 3) := by decide +kernel
theorem dX8_byteAt_14 : decode cX8_byteAt 14 = .ok (.iload_n 1, 1) := by decide +kernel
theorem dX8_byteAt_15 : decode cX8_byteAt 15 = .ok (.iaload, 1) := by decide +kernel
theorem dX8_byteAt_16 : decode cX8_byteAt 16 = .ok (.goto 4, 3) := by decide +kernel
theorem dX8_byteAt_19 : decode cX8_byteAt 19 = .ok (.iconst 0, 1) := by decide +kernel
theorem dX8_byteAt_20 : decode cX8_byteAt 20 = .ok (.ireturn, 1) := by decide +kernel
set_option maxRecDepth 20000 in
theorem ggX9_init_X5_init : GoodIn wsX9_init wsX5_init := goodIn_r _ [3, 4, 5, 6] (by decide +kernel) (by decide +kernel)
set_option maxRecDepth 20000 in
theorem gX9_init_X5_init_n1 : GoodIn wsX9_init (wsX5_init) := ggX9_init_X5_init
theorem dX9_init_0 : decode cX9_init 0 = .ok (.aload_n 0, 1) := by decide +kernel
theorem dX9_init_1 : decode cX9_init 1 = .ok (.invokespecial 1, 3) := by decide +kernel
theorem dX9_init_4 : decode cX9_init 4 = .ok (.return_, 1) := by decide +kernel
set_option maxRecDepth 20000 in
theorem ggX9_valueOf_X5_valueOf : GoodIn wsX9_valueOf wsX5_valueOf := goodIn_r _ [7, 8, 9, 10, 11, 12, 13, 14, 15, 16, 17, 18, 24, 25, 26, 27, 28, 29, 30, 31, 32, 33, 34, 35, 36, 37, 38, 39, 40, 41, 42, 43] (by decide +kernel) (by decide +kernel)
set_option maxRecDepth 20000 in
theorem gX9_valueOf_X5_valueOf_s15 : GoodIn wsX9_valueOf (va_wsSU RX9 15 yX5_valueOf wsX5_valueOf) := goodIn_app (goodIn_of _ (by decide +kernel)) ggX9_valueOf_X5_valueOf
set_option maxRecDepth 20000 in
theorem ggX9_valueOf_X6_timesOf : GoodIn wsX9_valueOf wsX6_timesOf := goodIn_r _ [22, 23, 14, 15, 16, 11, 17, 18, 35, 36, 37, 38, 39, 40, 41, 42, 43] (by decide +kernel) (by decide +kernel)
set_option maxRecDepth 20000 in
theorem gX9_valueOf_X6_timesOf : GoodIn wsX9_valueOf (wsV RX9 23 RX6 yX6_timesOf wsX6_timesOf) := goodIn_app (goodIn_of _ (by decide +kernel)) ggX9_valueOf_X6_timesOf
theorem dX9_valueOf_0 : decode cX9_valueOf 0 = .ok (.aload_n 1, 1) := by decide +kernel
theorem dX9_valueOf_1 : decode cX9_valueOf 1 = .ok (.dup, 1) := by decide +kernel
theorem dX9_valueOf_2 : decode cX9_valueOf 2 = .ok (.getfield 7, 3) := by decide +kernel
theorem dX9_valueOf_5 : decode cX9_valueOf 5 = .ok (.ldc2_w 13, 3) := by decide +kernel
theorem dX9_valueOf_8 : decode cX9_valueOf 8 = .ok (.ladd, 1) := by decide +kernel
theorem dX9_valueOf_9 : decode cX9_valueOf 9 = .ok (.putfield 7, 3) := by decide +kernel
theorem dX9_valueOf_12 : decode cX9_valueOf 12 = .ok (.aload_n 0, 1) := by decide +kernel
theorem dX9_valueOf_13 : decode cX9_valueOf 13 = .ok (.aload_n 1, 1) := by decide +kernel
theorem dX9_valueOf_14 : decode cX9_valueOf 14 = .ok (.iload_n 2, 1) := by decide +kernel
theorem dX9_valueOf_15 : decode cX9_valueOf 15 = .ok (.invokespecial 15, 3) := by decide +kernel
theorem dX9_valueOf_18 : decode cX9_valueOf 18 = .ok (.aload_n 1, 1) := by decide +kernel
theorem dX9_valueOf_19 : decode cX9_valueOf 19 = .ok (.getfield 19, 3) := by decide +kernel
theorem dX9_valueOf_22 : decode cX9_valueOf 22 = .ok (.iload_n 2, 1) := by decide +kernel
theorem dX9_valueOf_23 : decode cX9_valueOf 23 = .ok (.invokevirtual 23, 3) := by decide +kernel
theorem dX9_valueOf_26 : decode cX9_valueOf 26 = .ok (.iadd, 1) := by decide +kernel
theorem dX9_valueOf_27 : decode cX9_valueOf 27 = .ok (.ireturn, 1) := by decide +kernel
set_option maxRecDepth 20000 in
theorem ggX10_init_X0_init : GoodIn wsX10_init wsX0_init := goodIn_r _ [3, 4, 5, 6, 7, 8, 9] (by decide +kernel) (by decide +kernel)
set_option maxRecDepth 20000 in
theorem gX10_init_X0_init_n1 : GoodIn wsX10_init (wsX0_init) := ggX10_init_X0_init
theorem dX10_init_0 : decode cX10_init 0 = .ok (.aload_n 0, 1) := by decide +kernel
theorem dX10_init_1 : decode cX10_init 1 = .ok (.invokespecial 1, 3) := by decide +kernel
theorem dX10_init_4 : decode cX10_init 4 = .ok (.return_, 1) := by decide +kernel
set_option maxRecDepth 20000 in
theorem ggX10_valueOf_X0_valueOf : GoodIn wsX10_valueOf wsX0_valueOf := goodIn_r _ [7, 8, 9, 10, 11, 12, 13, 14, 15, 16, 17, 18, 19, 20, 21, 22, 23, 24, 25, 26, 27, 28, 29, 30, 31, 32, 33, 34, 35, 36, 37, 38, 39, 40, 41, 42, 43, 44, 45, 46, 47, 48, 49, 50] (by decide +kernel) (by decide +kernel)
set_option maxRecDepth 20000 in
theorem gX10_valueOf_X0_valueOf_s15 : GoodIn wsX10_valueOf (va_wsSU RX10 15 yX0_valueOf wsX0_valueOf) := goodIn_app (goodIn_of _ (by decide +kernel)) ggX10_valueOf_X0_valueOf
theorem dX10_valueOf_0 : decode cX10_valueOf 0 = .ok (.aload_n 1, 1) := by decide +kernel
theorem dX10_valueOf_1 : decode cX10_valueOf 1 = .ok (.dup, 1) := by decide +kernel
theorem dX10_valueOf_2 : decode cX10_valueOf 2 = .ok (.getfield 7, 3) := by decide +kernel
theorem dX10_valueOf_5 : decode cX10_valueOf 5 = .ok (.ldc2_w 13, 3) := by decide +kernel
theorem dX10_valueOf_8 : decode cX10_valueOf 8 = .ok (.ladd, 1) := by decide +kernel
theorem dX10_valueOf_9 : decode cX10_valueOf 9 = .ok (.putfield 7, 3) := by decide +kernel
theorem dX10_valueOf_12 : decode cX10_valueOf 12 = .ok (.aload_n 0, 1) := by decide +kernel
theorem dX10_valueOf_13 : decode cX10_valueOf 13 = .ok (.aload_n 1, 1) := by decide +kernel
theorem dX10_valueOf_14 : decode cX10_valueOf 14 = .ok (.iload_n 2, 1) := by decide +kernel
theorem dX10_valueOf_15 : decode cX10_valueOf 15 = .ok (.invokespecial 15, 3) := by decide +kernel
theorem dX10_valueOf_18 : decode cX10_valueOf 18 = .ok (.iload_n 2, 1) := by decide +kernel
theorem dX10_valueOf_19 : decode cX10_valueOf 19 = .ok (.iadd, 1) := by decide +kernel
theorem dX10_valueOf_20 : decode cX10_valueOf 20 = .ok (.ireturn, 1) := by decide +kernel
set_option maxRecDepth 20000 in
theorem ggX11_init_X8_init : GoodIn wsX11_init wsX8_init := goodIn_r _ [47, 48, 2, 3, 49, 50, 51, 91, 92, 93, 94, 95, 96, 97] (by decide +kernel) (by decide +kernel)
set_option maxRecDepth 20000 in
theorem gX11_init_X8_init_n11 : GoodIn wsX11_init (wsX8_init) := ggX11_init_X8_init
set_option maxRecDepth 20000 in
theorem ggX11_init_X6_init : GoodIn wsX11_init wsX6_init := goodIn_r _ [53, 54, 2, 3, 49, 55, 56, 57, 58, 109, 110, 111, 112, 113, 114, 115, 116, 117] (by decide +kernel) (by decide +kernel)
set_option maxRecDepth 20000 in
theorem gX11_init_X6_init_n18 : GoodIn wsX11_init (wsX6_init) := ggX11_init_X6_init
set_option maxRecDepth 20000 in
theorem ggX11_init_X2_init : GoodIn wsX11_init wsX2_init := goodIn_r _ [60, 61, 2, 3, 49, 62, 118, 119, 120, 121, 122, 123, 124] (by decide +kernel) (by decide +kernel)
set_option maxRecDepth 20000 in
theorem gX11_init_X2_init_n28 : GoodIn wsX11_init (wsX2_init) := ggX11_init_X2_init
set_option maxRecDepth 20000 in
theorem ggX11_init_X3_init : GoodIn wsX11_init wsX3_init := goodIn_r _ [64, 65, 2, 3, 49, 66, 67, 68, 69, 70, 125, 126, 127, 128, 129, 130, 131] (by decide +kernel) (by decide +kernel)
set_option maxRecDepth 20000 in
theorem gX11_init_X3_init_n41 : GoodIn wsX11_init (wsX3_init) := ggX11_init_X3_init
set_option maxRecDepth 20000 in
theorem ggX11_init_X4_init : GoodIn wsX11_init wsX4_init := goodIn_r _ [72, 73, 2, 3, 49, 74, 75, 76, 77, 132, 133, 134] (by decide +kernel) (by decide +kernel)
set_option maxRecDepth 20000 in
theorem gX11_init_X4_init_n48 : GoodIn wsX11_init (wsX4_init) := ggX11_init_X4_init
set_option maxRecDepth 20000 in
theorem ggX11_init_X5_init : GoodIn wsX11_init wsX5_init := goodIn_r _ [79, 80, 2, 3] (by decide +kernel) (by decide +kernel)
set_option maxRecDepth 20000 in
theorem gX11_init_X5_init_n59 : GoodIn wsX11_init (wsX5_init) := ggX11_init_X5_init
set_option maxRecDepth 20000 in
theorem ggX11_init_X9_init : GoodIn wsX11_init wsX9_init := goodIn_r _ [82, 78, 30, 79, 80, 2, 3] (by decide +kernel) (by decide +kernel)
set_option maxRecDepth 20000 in
theorem gX11_init_X9_init_n62 : GoodIn wsX11_init (wsX9_init) := ggX11_init_X9_init
set_option maxRecDepth 20000 in
theorem ggX11_init_X0_init : GoodIn wsX11_init wsX0_init := goodIn_r _ [84, 78, 30, 79, 80, 2, 3] (by decide +kernel) (by decide +kernel)
set_option maxRecDepth 20000 in
theorem gX11_init_X0_init_n65 : GoodIn wsX11_init (wsX0_init) := ggX11_init_X0_init
set_option maxRecDepth 20000 in
theorem ggX11_init_X7_init : GoodIn wsX11_init wsX7_init := goodIn_r _ [86, 81, 33, 82, 78, 30, 79, 80, 2, 3] (by decide +kernel) (by decide +kernel)
set_option maxRecDepth 20000 in
theorem gX11_init_X7_init_n68 : GoodIn wsX11_init (wsX7_init) := ggX11_init_X7_init
set_option maxRecDepth 20000 in
theorem ggX11_init_X10_init : GoodIn wsX11_init wsX10_init := goodIn_r _ [88, 83, 36, 84, 78, 30, 79, 80, 2, 3] (by decide +kernel) (by decide +kernel)
set_option maxRecDepth 20000 in
theorem gX11_init_X10_init_n71 : GoodIn wsX11_init (wsX10_init) := ggX11_init_X10_init
set_option maxRecDepth 20000 in
theorem ggX11_init_X1_init : GoodIn wsX11_init wsX1_init := goodIn_r _ [90, 78, 30, 79, 80, 2, 3] (by decide +kernel) (by decide +kernel)
set_option maxRecDepth 20000 in
theorem gX11_init_X1_init_n74 : GoodIn wsX11_init (wsX1_init) := ggX11_init_X1_init
theorem dX11_init_0 : decode cX11_init 0 = .ok (.aload_n 0, 1) := by decide +kernel
theorem dX11_init_1 : decode cX11_init 1 = .ok (.invokespecial 3, 3) := by decide +kernel
theorem dX11_init_4 : decode cX11_init 4 = .ok (.aload_n 0, 1) := by decide +kernel
theorem dX11_init_5 : decode cX11_init 5 = .ok (.new 9, 3) := by decide +kernel
theorem dX11_init_8 : decode cX11_init 8 = .ok (.dup, 1) := by decide +kernel
theorem dX11_init_9 : decode cX11_init 9 = .ok (.invokespecial 11, 3) := by decide +kernel
theorem dX11_init_12 : decode cX11_init 12 = .ok (.putfield 12, 3) := by decide +kernel
theorem dX11_init_15 : decode cX11_init 15 = .ok (.aload_n 0, 1) := by decide +kernel
theorem dX11_init_16 : decode cX11_init 16 = .ok (.new 16, 3) := by decide +kernel
theorem dX11_init_19 : decode cX11_init 19 = .ok (.dup, 1) := by decide +kernel
theorem dX11_init_20 : decode cX11_init 20 = .ok (.invokespecial 18, 3) := by decide +kernel
theorem dX11_init_23 : decode cX11_init 23 = .ok (.putfield 19, 3) := by decide +kernel
theorem dX11_init_26 : decode cX11_init 26 = .ok (.aload_n 0, 1) := by decide +kernel
theorem dX11_init_27 : decode cX11_init 27 = .ok (.new 16, 3) := by decide +kernel
theorem dX11_init_30 : decode cX11_init 30 = .ok (.dup, 1) := by decide +kernel
theorem dX11_init_31 : decode cX11_init 31 = .ok (.invokespecial 18, 3) := by decide +kernel
theorem dX11_init_34 : decode cX11_init 34 = .ok (.putfield 23, 3) := by decide +kernel
theorem dX11_init_37 : decode cX11_init 37 = .ok (.aload_n 0, 1) := by decide +kernel
theorem dX11_init_38 : decode cX11_init 38 = .ok (.new 26, 3) := by decide +kernel
theorem dX11_init_41 : decode cX11_init 41 = .ok (.dup, 1) := by decide +kernel
theorem dX11_init_42 : decode cX11_init 42 = .ok (.invokespecial 28, 3) := by decide +kernel
theorem dX11_init_45 : decode cX11_init 45 = .ok (.putfield 29, 3) := by decide +kernel
theorem dX11_init_48 : decode cX11_init 48 = .ok (.aload_n 0, 1) := by decide +kernel
theorem dX11_init_49 : decode cX11_init 49 = .ok (.new 26, 3) := by decide +kernel
theorem dX11_init_52 : decode cX11_init 52 = .ok (.dup, 1) := by decide +kernel
theorem dX11_init_53 : decode cX11_init 53 = .ok (.invokespecial 28, 3) := by decide +kernel
theorem dX11_init_56 : decode cX11_init 56 = .ok (.putfield 33, 3) := by decide +kernel
theorem dX11_init_59 : decode cX11_init 59 = .ok (.aload_n 0, 1) := by decide +kernel
theorem dX11_init_60 : decode cX11_init 60 = .ok (.new 26, 3) := by decide +kernel
theorem dX11_init_63 : decode cX11_init 63 = .ok (.dup, 1) := by decide +kernel
theorem dX11_init_64 : decode cX11_init 64 = .ok (.invokespecial 28, 3) := by decide +kernel
theorem dX11_init_67 : decode cX11_init 67 = .ok (.putfield 36, 3) := by decide +kernel
theorem dX11_init_70 : decode cX11_init 70 = .ok (.aload_n 0, 1) := by decide +kernel
theorem dX11_init_71 : decode cX11_init 71 = .ok (.new 39, 3) := by decide +kernel
theorem dX11_init_74 : decode cX11_init 74 = .ok (.dup, 1) := by decide +kernel
theorem dX11_init_75 : decode cX11_init 75 = .ok (.invokespecial 41, 3) := by decide +kernel
theorem dX11_init_78 : decode cX11_init 78 = .ok (.putfield 42, 3) := by decide +kernel
theorem dX11_init_81 : decode cX11_init 81 = .ok (.aload_n 0, 1) := by decide +kernel
theorem dX11_init_82 : decode cX11_init 82 = .ok (.new 46, 3) := by decide +kernel
theorem dX11_init_85 : decode cX11_init 85 = .ok (.dup, 1) := by decide +kernel
theorem dX11_init_86 : decode cX11_init 86 = .ok (.invokespecial 48, 3) := by decide +kernel
theorem dX11_init_89 : decode cX11_init 89 = .ok (.putfield 49, 3) := by decide +kernel
theorem dX11_init_92 : decode cX11_init 92 = .ok (.aload_n 0, 1) := by decide +kernel
theorem dX11_init_93 : decode cX11_init 93 = .ok (.bipush 6, 2) := by decide +kernel
theorem dX11_init_95 : decode cX11_init 95 = .ok (.anewarray 53, 3) := by decide +kernel
theorem dX11_init_98 : decode cX11_init 98 = .ok (.putfield 55, 3) := by decide +kernel
theorem dX11_init_101 : decode cX11_init 101 = .ok (.aload_n 0, 1) := by decide +kernel
theorem dX11_init_102 : decode cX11_init 102 = .ok (.getfield 55, 3) := by decide +kernel
theorem dX11_init_105 : decode cX11_init 105 = .ok (.iconst 0, 1) := by decide +kernel
theorem dX11_init_106 : decode cX11_init 106 = .ok (.new 53, 3) := by decide +kernel
theorem dX11_init_109 : decode cX11_init 109 = .ok (.dup, 1) := by decide +kernel
theorem dX11_init_110 : decode cX11_init 110 = .ok (.invokespecial 59, 3) := by decide +kernel
theorem dX11_init_113 : decode cX11_init 113 = .ok (.aastore, 1) := by decide +kernel
theorem dX11_init_114 : decode cX11_init 114 = .ok (.aload_n 0, 1) := by decide +kernel
theorem dX11_init_115 : decode cX11_init 115 = .ok (.getfield 55, 3) := by decide +kernel
theorem dX11_init_118 : decode cX11_init 118 = .ok (.iconst 1, 1) := by decide +kernel
theorem dX11_init_119 : decode cX11_init 119 = .ok (.new 60, 3) := by decide +kernel
theorem dX11_init_122 : decode cX11_init 122 = .ok (.dup, 1) := by decide +kernel
theorem dX11_init_123 : decode cX11_init 123 = .ok (.invokespecial 62, 3) := by decide +kernel
theorem dX11_init_126 : decode cX11_init 126 = .ok (.aastore, 1) := by decide +kernel
theorem dX11_init_127 : decode cX11_init 127 = .ok (.aload_n 0, 1) := by decide +kernel
theorem dX11_init_128 : decode cX11_init 128 = .ok (.getfield 55, 3) := by decide +kernel
theorem dX11_init_131 : decode cX11_init 131 = .ok (.iconst 2, 1) := by decide +kernel
theorem dX11_init_132 : decode cX11_init 132 = .ok (.new 63, 3) := by decide +kernel
theorem dX11_init_135 : decode cX11_init 135 = .ok (.dup, 1) := by decide +kernel
theorem dX11_init_136 : decode cX11_init 136 = .ok (.invokespecial 65, 3) := by decide +kernel
theorem dX11_init_139 : decode cX11_init 139 = .ok (.aastore, 1) := by decide +kernel
theorem dX11_init_140 : decode cX11_init 140 = .ok (.aload_n 0, 1) := by decide +kernel
theorem dX11_init_141 : decode cX11_init 141 = .ok (.getfield 55, 3) := by decide +kernel
theorem dX11_init_144 : decode cX11_init 144 = .ok (.iconst 3, 1) := by decide +kernel
theorem dX11_init_145 : decode cX11_init 145 = .ok (.new 66, 3) := by decide +kernel
theorem dX11_init_148 : decode cX11_init 148 = .ok (.dup, 1) := by decide +kernel
theorem dX11_init_149 : decode cX11_init 149 = .ok (.invokespecial 68, 3) := by decide +kernel
theorem dX11_init_152 : decode cX11_init 152 = .ok (.aastore, 1) := by decide +kernel
theorem dX11_init_153 : decode cX11_init 153 = .ok (.aload_n 0, 1) := by decide +kernel
theorem dX11_init_154 : decode cX11_init 154 = .ok (.getfield 55, 3) := by decide +kernel
theorem dX11_init_157 : decode cX11_init 157 = .ok (.iconst 4, 1) := by decide +kernel
theorem dX11_init_158 : decode cX11_init 158 = .ok (.new 69, 3) := by decide +kernel
theorem dX11_init_161 : decode cX11_init 161 = .ok (.dup, 1) := by decide +kernel
theorem dX11_init_162 : decode cX11_init 162 = .ok (.invokespecial 71, 3) := by decide +kernel
theorem dX11_init_165 : decode cX11_init 165 = .ok (.aastore, 1) := by decide +kernel
theorem dX11_init_166 : decode cX11_init 166 = .ok (.aload_n 0, 1) := by decide +kernel
theorem dX11_init_167 : decode cX11_init 167 = .ok (.getfield 55, 3) := by decide +kernel
theorem dX11_init_170 : decode cX11_init 170 = .ok (.iconst 5, 1) := by decide +kernel
theorem dX11_init_171 : decode cX11_init 171 = .ok (.new 72, 3) := by decide +kernel
theorem dX11_init_174 : decode cX11_init 174 = .ok (.dup, 1) := by decide +kernel
theorem dX11_init_175 : decode cX11_init 175 = .ok (.invokespecial 74, 3) := by decide +kernel
theorem dX11_init_178 : decode cX11_init 178 = .ok (.aastore, 1) := by decide +kernel
theorem dX11_init_179 : decode cX11_init 179 = .ok (.return_, 1) := by decide +kernel
set_option maxRecDepth 20000 in
theorem ggX11_type_X11_isWithin : GoodIn wsX11_type wsX11_isWithin := goodIn_r _ [6] (by decide +kernel) (by decide +kernel)
set_option maxRecDepth 20000 in
theorem gX11_type_X11_isWithin : GoodIn wsX11_type (va_wsS RX11 75 yX11_isWithin wsX11_isWithin) := goodIn_app (goodIn_of _ (by decide +kernel)) ggX11_type_X11_isWithin
set_option maxRecDepth 20000 in
theorem ggX11_type_X8_takes : GoodIn wsX11_type wsX8_takes := goodIn_r _ [11, 12, 13, 25, 26, 27, 28, 29, 30, 31] (by decide +kernel) (by decide +kernel)
set_option maxRecDepth 20000 in
theorem gX11_type_X8_takes : GoodIn wsX11_type (wsV RX11 79 RX8 yX8_takes wsX8_takes) := goodIn_app (goodIn_of _ (by decide +kernel)) ggX11_type_X8_takes
theorem dX11_type_0 : decode cX11_type 0 = .ok (.iload_n 1, 1) := by decide +kernel
theorem dX11_type_1 : decode cX11_type 1 = .ok (.iconst 0, 1) := by decide +kernel
theorem dX11_type_2 : decode cX11_type 2 = .ok (.sipush 255, 3) := by decide +kernel
theorem dX11_type_5 : decode cX11_type 5 = .ok (.invokestatic 75, 3) := by decide +kernel
theorem dX11_type_8 : decode cX11_type 8 = .ok (.ifCond .ne 5, 3) := by decide +kernel
theorem dX11_type_11 : decode cX11_type 11 = .ok (.iconst (-1), 1) := by decide +kernel
theorem dX11_type_12 : decode cX11_type 12 = .ok (.ireturn, 1) := by decide +kernel
theorem dX11_type_13 : decode cX11_type 13 = .ok (.aload_n 0, 1) := by decide +kernel
theorem dX11_type_14 : decode cX11_type 14 = .ok (.getfield 12, 3) := by decide +kernel
theorem dX11_type_17 : decode cX11_type 17 = .ok (.iload_n 1, 1) := by decide +kernel
theorem dX11_type_18 : decode cX11_type 18 = .ok (.invokevirtual 79, 3) := by decide +kernel
theorem dX11_type_21 : decode cX11_type 21 = .ok (.ifCond .eq 13, 3) := by decide +kernel
theorem dX11_type_24 : decode cX11_type 24 = .ok (.aload_n 0, 1) := by decide +kernel
theorem dX11_type_25 : decode cX11_type 25 = .ok (.getfield 12, 3) := by decide +kernel
theorem dX11_type_28 : decode cX11_type 28 = .ok (.getfield 83, 3) := by decide +kernel
theorem dX11_type_31 : decode cX11_type 31 = .ok (.goto 5, 3) := by decide +kernel
theorem dX11_type_34 : decode cX11_type 34 = .ok (.bipush (-3), 2) := by decide +kernel
theorem dX11_type_36 : decode cX11_type 36 = .ok (.ireturn, 1) := by decide +kernel
theorem dX11_clear_0 : decode cX11_clear 0 = .ok (.aload_n 0, 1) := by decide +kernel
theorem dX11_clear_1 : decode cX11_clear 1 = .ok (.getfield 12, 3) := by decide +kernel
theorem dX11_clear_4 : decode cX11_clear 4 = .ok (.getfield 83, 3) := by decide +kernel
theorem dX11_clear_7 : decode cX11_clear 7 = .ok (.istore_n 1, 1) := by decide +kernel
theorem dX11_clear_8 : decode cX11_clear 8 = .ok (.aload_n 0, 1) := by decide +kernel
theorem dX11_clear_9 : decode cX11_clear 9 = .ok (.getfield 12, 3) := by decide +kernel
theorem dX11_clear_12 : decode cX11_clear 12 = .ok (.iconst 0, 1) := by decide +kernel
theorem dX11_clear_13 : decode cX11_clear 13 = .ok (.putfield 83, 3) := by decide +kernel
theorem dX11_clear_16 : decode cX11_clear 16 = .ok (.iload_n 1, 1) := by decide +kernel
theorem dX11_clear_17 : decode cX11_clear 17 = .ok (.ireturn, 1) := by decide +kernel
set_option maxRecDepth 20000 in
theorem ggX11_piece_X8_tellTo : GoodIn wsX11_piece wsX8_tellTo := goodIn_r _ [14, 15, 16, 17, 18, 19, 20, 21, 22, 23, 24, 25, 26, 27, 28, 29, 30, 13, 31, 32, 33, 34, 35, 36, 37, 38, 39, 40, 41, 42, 43, 44, 45, 46, 47, 48, 49, 50, 51, 52, 53, 54, 55, 56, 57, 58, 59, 60, 61, 62, 63, 64, 65, 66, 67, 68, 69, 70, 71, 72, 73, 74, 75, 76, 77, 78, 79, 80, 81, 82, 83, 84, 85, 86, 87, 88, 89, 90, 91, 92, 93, 94, 95, 96, 97, 128, 129, 130, 131, 132, 133, 134, 142, 143, 144, 145, 146, 147, 148, 149, 150] (by decide +kernel) (by decide +kernel)
set_option maxRecDepth 20000 in
theorem gX11_piece_X8_tellTo : GoodIn wsX11_piece (wsV RX11 87 RX8 yX8_tellTo wsX8_tellTo) := goodIn_app (goodIn_of _ (by decide +kernel)) ggX11_piece_X8_tellTo
set_option maxRecDepth 20000 in
theorem ggX11_piece_X6_becomeLike : GoodIn wsX11_piece wsX6_becomeLike := goodIn_r _ [101, 74, 102, 103, 104, 105, 75, 76, 93, 23, 24, 25, 26, 27, 142, 143, 144, 145, 146, 147, 148, 149, 150] (by decide +kernel) (by decide +kernel)
set_option maxRecDepth 20000 in
theorem gX11_piece_X6_becomeLike : GoodIn wsX11_piece (wsV RX11 94 RX6 yX6_becomeLike wsX6_becomeLike) := goodIn_app (goodIn_of _ (by decide +kernel)) ggX11_piece_X6_becomeLike
set_option maxRecDepth 20000 in
theorem ggX11_piece_X2_begin : GoodIn wsX11_piece wsX2_begin := goodIn_r _ [110, 111, 112, 113, 114, 115, 116, 151, 152, 153, 154, 155, 156, 157] (by decide +kernel) (by decide +kernel)
set_option maxRecDepth 20000 in
theorem gX11_piece_X2_begin : GoodIn wsX11_piece (wsV RX11 98 RX2 yX2_begin wsX2_begin) := goodIn_app (goodIn_of _ (by decide +kernel)) ggX11_piece_X2_begin
theorem dX11_piece_0 : decode cX11_piece 0 = .ok (.aload_n 0, 1) := by decide +kernel
