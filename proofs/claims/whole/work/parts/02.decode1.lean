theorem dX0_init_0 : decode cX0_init 0 = .ok (.aload_n 0, 1) := by decide +kernel
theorem dX0_init_1 : decode cX0_init 1 = .ok (.invokespecial 1, 3) := by decide +kernel
theorem dX0_init_4 : decode cX0_init 4 = .ok (.return_, 1) := by decide +kernel
set_option maxRecDepth 20000 in
theorem ggX0_deedsOn_X1_deedsOn : GoodIn wsX0_deedsOn wsX1_deedsOn := goodIn_r _ [6, 7, 8, 9] (by decide +kernel) (by decide +kernel)
set_option maxRecDepth 20000 in
theorem gX0_deedsOn_X1_deedsOn_s7 : GoodIn wsX0_deedsOn (va_wsSU RX0 7 yX1_deedsOn wsX1_deedsOn) := goodIn_app (goodIn_of _ (by decide +kernel)) ggX0_deedsOn_X1_deedsOn
theorem dX0_deedsOn_0 : decode cX0_deedsOn 0 = .ok (.iload_n 1, 1) := by decide +kernel
theorem dX0_deedsOn_1 : decode cX0_deedsOn 1 = .ok (.iconst 2, 1) := by decide +kernel
theorem dX0_deedsOn_2 : decode cX0_deedsOn 2 = .ok (.irem, 1) := by decide +kernel
theorem dX0_deedsOn_3 : decode cX0_deedsOn 3 = .ok (.ifCond .ne 13, 3) := by decide +kernel
theorem dX0_deedsOn_6 : decode cX0_deedsOn 6 = .ok (.aload_n 0, 1) := by decide +kernel
theorem dX0_deedsOn_7 : decode cX0_deedsOn 7 = .ok (.iload_n 1, 1) := by decide +kernel
theorem dX0_deedsOn_8 : decode cX0_deedsOn 8 = .ok (.iload_n 2, 1) := by decide +kernel
theorem dX0_deedsOn_9 : decode cX0_deedsOn 9 = .ok (.iload_n 3, 1) := by decide +kernel
theorem dX0_deedsOn_10 : decode cX0_deedsOn 10 = .ok (.invokespecial 7, 3) := by decide +kernel
theorem dX0_deedsOn_13 : decode cX0_deedsOn 13 = .ok (.goto 4, 3) := by decide +kernel
theorem dX0_deedsOn_16 : decode cX0_deedsOn 16 = .ok (.iconst 0, 1) := by decide +kernel
theorem dX0_deedsOn_17 : decode cX0_deedsOn 17 = .ok (.ireturn, 1) := by decide +kernel
set_option maxRecDepth 20000 in
theorem ggX0_size_X9_leave : GoodIn wsX0_size wsX9_leave := goodIn_r _ [5, 6, 7, 30, 31] (by decide +kernel) (by decide +kernel)
set_option maxRecDepth 20000 in
theorem gX0_size_X9_leave : GoodIn wsX0_size (wsV RX0 11 RX9 yX9_leave wsX9_leave) := goodIn_app (goodIn_of _ (by decide +kernel)) ggX0_size_X9_leave
set_option maxRecDepth 20000 in
theorem ggX0_size_X1_size : GoodIn wsX0_size wsX1_size := goodIn_r _ [13, 14, 2, 3, 4, 5, 6, 7, 15, 16, 17, 18, 19, 20, 21, 22, 23, 24, 25, 26, 27, 28, 29, 30, 31, 32, 33, 34, 35, 36, 37, 38, 39] (by decide +kernel) (by decide +kernel)
set_option maxRecDepth 20000 in
theorem gX0_size_X1_size_s17 : GoodIn wsX0_size (va_wsSU RX0 17 yX1_size wsX1_size) := goodIn_app (goodIn_of _ (by decide +kernel)) ggX0_size_X1_size
theorem dX0_size_0 : decode cX0_size 0 = .ok (.aload_n 3, 1) := by decide +kernel
theorem dX0_size_1 : decode cX0_size 1 = .ok (.bipush 14, 2) := by decide +kernel
theorem dX0_size_3 : decode cX0_size 3 = .ok (.invokevirtual 11, 3) := by decide +kernel
theorem dX0_size_6 : decode cX0_size 6 = .ok (.iconst 2, 1) := by decide +kernel
theorem dX0_size_7 : decode cX0_size 7 = .ok (.aload_n 0, 1) := by decide +kernel
theorem dX0_size_8 : decode cX0_size 8 = .ok (.aload_n 1, 1) := by decide +kernel
theorem dX0_size_9 : decode cX0_size 9 = .ok (.iload_n 2, 1) := by decide +kernel
theorem dX0_size_10 : decode cX0_size 10 = .ok (.aload_n 3, 1) := by decide +kernel
theorem dX0_size_11 : decode cX0_size 11 = .ok (.invokespecial 17, 3) := by decide +kernel
theorem dX0_size_14 : decode cX0_size 14 = .ok (.imul, 1) := by decide +kernel
theorem dX0_size_15 : decode cX0_size 15 = .ok (.ireturn, 1) := by decide +kernel
set_option maxRecDepth 20000 in
theorem ggX1_init_X7_init : GoodIn wsX1_init wsX7_init := goodIn_r _ [3, 4, 5, 6] (by decide +kernel) (by decide +kernel)
set_option maxRecDepth 20000 in
theorem gX1_init_X7_init_n3 : GoodIn wsX1_init (wsX7_init) := ggX1_init_X7_init
theorem dX1_init_0 : decode cX1_init 0 = .ok (.aload_n 0, 1) := by decide +kernel
theorem dX1_init_1 : decode cX1_init 1 = .ok (.invokespecial 3, 3) := by decide +kernel
theorem dX1_init_4 : decode cX1_init 4 = .ok (.return_, 1) := by decide +kernel
set_option maxRecDepth 20000 in
theorem ggX1_deedsOn_X11_least : GoodIn wsX1_deedsOn wsX11_least := goodIn_r _ [3] (by decide +kernel) (by decide +kernel)
set_option maxRecDepth 20000 in
theorem gX1_deedsOn_X11_least_n9 : GoodIn wsX1_deedsOn (wsX11_least) := ggX1_deedsOn_X11_least
theorem dX1_deedsOn_0 : decode cX1_deedsOn 0 = .ok (.bipush 63, 2) := by decide +kernel
theorem dX1_deedsOn_2 : decode cX1_deedsOn 2 = .ok (.iload_n 3, 1) := by decide +kernel
theorem dX1_deedsOn_3 : decode cX1_deedsOn 3 = .ok (.iconst (-1), 1) := by decide +kernel
theorem dX1_deedsOn_4 : decode cX1_deedsOn 4 = .ok (.ixor, 1) := by decide +kernel
theorem dX1_deedsOn_5 : decode cX1_deedsOn 5 = .ok (.iand, 1) := by decide +kernel
theorem dX1_deedsOn_6 : decode cX1_deedsOn 6 = .ok (.iload_n 2, 1) := by decide +kernel
theorem dX1_deedsOn_7 : decode cX1_deedsOn 7 = .ok (.iconst (-1), 1) := by decide +kernel
theorem dX1_deedsOn_8 : decode cX1_deedsOn 8 = .ok (.ixor, 1) := by decide +kernel
theorem dX1_deedsOn_9 : decode cX1_deedsOn 9 = .ok (.iand, 1) := by decide +kernel
theorem dX1_deedsOn_10 : decode cX1_deedsOn 10 = .ok (.invokestatic 9, 3) := by decide +kernel
theorem dX1_deedsOn_13 : decode cX1_deedsOn 13 = .ok (.ireturn, 1) := by decide +kernel
set_option maxRecDepth 20000 in
theorem ggX1_size_X9_leave : GoodIn wsX1_size wsX9_leave := goodIn_r _ [5, 6, 7, 23, 24] (by decide +kernel) (by decide +kernel)
set_option maxRecDepth 20000 in
theorem gX1_size_X9_leave : GoodIn wsX1_size (wsV RX1 13 RX9 yX9_leave wsX9_leave) := goodIn_app (goodIn_of _ (by decide +kernel)) ggX1_size_X9_leave
set_option maxRecDepth 20000 in
theorem ggX1_size_X7_size : GoodIn wsX1_size wsX7_size := goodIn_r _ [13, 14, 15, 2, 3, 4, 5, 6, 7, 16, 17, 18, 19, 20, 21, 22, 25, 26, 27, 28, 29, 30, 31, 32, 23, 24] (by decide +kernel) (by decide +kernel)
set_option maxRecDepth 20000 in
theorem gX1_size_X7_size_s19 : GoodIn wsX1_size (va_wsSU RX1 19 yX7_size wsX7_size) := goodIn_app (goodIn_of _ (by decide +kernel)) ggX1_size_X7_size
theorem dX1_size_0 : decode cX1_size 0 = .ok (.aload_n 3, 1) := by decide +kernel
theorem dX1_size_1 : decode cX1_size 1 = .ok (.bipush 13, 2) := by decide +kernel
theorem dX1_size_3 : decode cX1_size 3 = .ok (.invokevirtual 13, 3) := by decide +kernel
theorem dX1_size_6 : decode cX1_size 6 = .ok (.aload_n 0, 1) := by decide +kernel
theorem dX1_size_7 : decode cX1_size 7 = .ok (.aload_n 1, 1) := by decide +kernel
theorem dX1_size_8 : decode cX1_size 8 = .ok (.iload_n 2, 1) := by decide +kernel
theorem dX1_size_9 : decode cX1_size 9 = .ok (.aload_n 3, 1) := by decide +kernel
theorem dX1_size_10 : decode cX1_size 10 = .ok (.invokespecial 19, 3) := by decide +kernel
theorem dX1_size_13 : decode cX1_size 13 = .ok (.bipush 100, 2) := by decide +kernel
theorem dX1_size_15 : decode cX1_size 15 = .ok (.isub, 1) := by decide +kernel
theorem dX1_size_16 : decode cX1_size 16 = .ok (.ireturn, 1) := by decide +kernel
set_option maxRecDepth 20000 in
theorem ggX1_mark_X9_leave : GoodIn wsX1_mark wsX9_leave := goodIn_r _ [5, 6, 7, 42, 43] (by decide +kernel) (by decide +kernel)
set_option maxRecDepth 20000 in
theorem gX1_mark_X9_leave : GoodIn wsX1_mark (wsV RX1 13 RX9 yX9_leave wsX9_leave) := goodIn_app (goodIn_of _ (by decide +kernel)) ggX1_mark_X9_leave
set_option maxRecDepth 20000 in
theorem ggX1_mark_X7_mark : GoodIn wsX1_mark wsX7_mark := goodIn_r _ [13, 14, 2, 3, 4, 5, 6, 7, 42, 43] (by decide +kernel) (by decide +kernel)
set_option maxRecDepth 20000 in
theorem gX1_mark_X7_mark_s23 : GoodIn wsX1_mark (va_wsSU RX1 23 yX7_mark wsX7_mark) := goodIn_app (goodIn_of _ (by decide +kernel)) ggX1_mark_X7_mark
set_option maxRecDepth 20000 in
theorem ggX1_mark_X0_size : GoodIn wsX1_mark wsX0_size := goodIn_r _ [21, 22, 2, 3, 4, 5, 6, 7, 23, 16, 24, 25, 26, 27, 1, 28, 29, 10, 30, 12, 31, 32, 14, 33, 34, 35, 36, 37, 38, 39, 42, 43, 44, 45, 46, 47, 48, 49, 50, 51] (by decide +kernel) (by decide +kernel)
set_option maxRecDepth 20000 in
theorem gX1_mark_X0_size_u26X0 : GoodIn wsX1_mark (va_wsO RX1 26 RX0 "NoticeWeek$Cross" ⟨"NoticeWeek$Cross", "size", "(LNoticeWeek$Town;ILNoticeWeek$Trace;)I"⟩ yX0_size wsX0_size) := goodIn_app (goodIn_of _ (by decide +kernel)) ggX1_mark_X0_size
set_option maxRecDepth 20000 in
theorem ggX1_mark_X1_size : GoodIn wsX1_mark wsX1_size := goodIn_r _ [27, 1, 2, 3, 4, 5, 6, 7, 28, 29, 10, 30, 12, 31, 32, 14, 33, 34, 35, 36, 37, 38, 39, 42, 43, 44, 45, 46, 47, 48, 49, 50, 51] (by decide +kernel) (by decide +kernel)
set_option maxRecDepth 20000 in
theorem gX1_mark_X1_size : GoodIn wsX1_mark (wsV RX1 26 RX1 yX1_size wsX1_size) := goodIn_app (goodIn_of _ (by decide +kernel)) ggX1_mark_X1_size
theorem dX1_mark_0 : decode cX1_mark 0 = .ok (.aload_n 3, 1) := by decide +kernel
theorem dX1_mark_1 : decode cX1_mark 1 = .ok (.bipush 23, 2) := by decide +kernel
theorem dX1_mark_3 : decode cX1_mark 3 = .ok (.invokevirtual 13, 3) := by decide +kernel
theorem dX1_mark_6 : decode cX1_mark 6 = .ok (.aload_n 0, 1) := by decide +kernel
theorem dX1_mark_7 : decode cX1_mark 7 = .ok (.aload_n 1, 1) := by decide +kernel
theorem dX1_mark_8 : decode cX1_mark 8 = .ok (.iload_n 2, 1) := by decide +kernel
theorem dX1_mark_9 : decode cX1_mark 9 = .ok (.aload_n 3, 1) := by decide +kernel
theorem dX1_mark_10 : decode cX1_mark 10 = .ok (.invokespecial 23, 3) := by decide +kernel
theorem dX1_mark_13 : decode cX1_mark 13 = .ok (.aload_n 0, 1) := by decide +kernel
theorem dX1_mark_14 : decode cX1_mark 14 = .ok (.aload_n 1, 1) := by decide +kernel
theorem dX1_mark_15 : decode cX1_mark 15 = .ok (.iload_n 2, 1) := by decide +kernel
theorem dX1_mark_16 : decode cX1_mark 16 = .ok (.aload_n 3, 1) := by decide +kernel
theorem dX1_mark_17 : decode cX1_mark 17 = .ok (.invokevirtual 26, 3) := by decide +kernel
theorem dX1_mark_20 : decode cX1_mark 20 = .ok (.isub, 1) := by decide +kernel
theorem dX1_mark_21 : decode cX1_mark 21 = .ok (.ireturn, 1) := by decide +kernel
set_option maxRecDepth 20000 in
theorem ggX2_init_X3_init : GoodIn wsX2_init wsX3_init := goodIn_r _ [28, 29, 30, 31, 32, 2, 3] (by decide +kernel) (by decide +kernel)
set_option maxRecDepth 20000 in
theorem gX2_init_X3_init_n11 : GoodIn wsX2_init (wsX3_init) := ggX2_init_X3_init
set_option maxRecDepth 20000 in
theorem ggX2_init_X10_init : GoodIn wsX2_init wsX10_init := goodIn_r _ [34, 27, 6, 28, 29, 30, 31, 32, 2, 3] (by decide +kernel) (by decide +kernel)
set_option maxRecDepth 20000 in
theorem gX2_init_X10_init_n20 : GoodIn wsX2_init (wsX10_init) := ggX2_init_X10_init
set_option maxRecDepth 20000 in
theorem ggX2_init_X5_init : GoodIn wsX2_init wsX5_init := goodIn_r _ [36, 27, 6, 28, 29, 30, 31, 32, 2, 3] (by decide +kernel) (by decide +kernel)
set_option maxRecDepth 20000 in
theorem gX2_init_X5_init_n26 : GoodIn wsX2_init (wsX5_init) := ggX2_init_X5_init
set_option maxRecDepth 20000 in
theorem ggX2_init_X1_init : GoodIn wsX2_init wsX1_init := goodIn_r _ [38, 29, 30, 31, 32, 2, 3] (by decide +kernel) (by decide +kernel)
set_option maxRecDepth 20000 in
theorem gX2_init_X1_init_n32 : GoodIn wsX2_init (wsX1_init) := ggX2_init_X1_init
set_option maxRecDepth 20000 in
theorem ggX2_init_X0_init : GoodIn wsX2_init wsX0_init := goodIn_r _ [40, 37, 18, 38, 29, 30, 31, 32, 2, 3] (by decide +kernel) (by decide +kernel)
set_option maxRecDepth 20000 in
theorem gX2_init_X0_init_n38 : GoodIn wsX2_init (wsX0_init) := ggX2_init_X0_init
theorem dX2_init_0 : decode cX2_init 0 = .ok (.aload_n 0, 1) := by decide +kernel
theorem dX2_init_1 : decode cX2_init 1 = .ok (.invokespecial 3, 3) := by decide +kernel
theorem dX2_init_4 : decode cX2_init 4 = .ok (.aload_n 0, 1) := by decide +kernel
theorem dX2_init_5 : decode cX2_init 5 = .ok (.new 9, 3) := by decide +kernel
theorem dX2_init_8 : decode cX2_init 8 = .ok (.dup, 1) := by decide +kernel
theorem dX2_init_9 : decode cX2_init 9 = .ok (.invokespecial 11, 3) := by decide +kernel
theorem dX2_init_12 : decode cX2_init 12 = .ok (.putfield 12, 3) := by decide +kernel
theorem dX2_init_15 : decode cX2_init 15 = .ok (.aload_n 0, 1) := by decide +kernel
theorem dX2_init_16 : decode cX2_init 16 = .ok (.new 18, 3) := by decide +kernel
theorem dX2_init_19 : decode cX2_init 19 = .ok (.dup, 1) := by decide +kernel
theorem dX2_init_20 : decode cX2_init 20 = .ok (.invokespecial 20, 3) := by decide +kernel
theorem dX2_init_23 : decode cX2_init 23 = .ok (.putfield 21, 3) := by decide +kernel
theorem dX2_init_26 : decode cX2_init 26 = .ok (.aload_n 0, 1) := by decide +kernel
theorem dX2_init_27 : decode cX2_init 27 = .ok (.new 24, 3) := by decide +kernel
theorem dX2_init_30 : decode cX2_init 30 = .ok (.dup, 1) := by decide +kernel
theorem dX2_init_31 : decode cX2_init 31 = .ok (.invokespecial 26, 3) := by decide +kernel
theorem dX2_init_34 : decode cX2_init 34 = .ok (.putfield 27, 3) := by decide +kernel
theorem dX2_init_37 : decode cX2_init 37 = .ok (.aload_n 0, 1) := by decide +kernel
theorem dX2_init_38 : decode cX2_init 38 = .ok (.new 30, 3) := by decide +kernel
theorem dX2_init_41 : decode cX2_init 41 = .ok (.dup, 1) := by decide +kernel
theorem dX2_init_42 : decode cX2_init 42 = .ok (.invokespecial 32, 3) := by decide +kernel
theorem dX2_init_45 : decode cX2_init 45 = .ok (.putfield 33, 3) := by decide +kernel
theorem dX2_init_48 : decode cX2_init 48 = .ok (.aload_n 0, 1) := by decide +kernel
theorem dX2_init_49 : decode cX2_init 49 = .ok (.new 36, 3) := by decide +kernel
theorem dX2_init_52 : decode cX2_init 52 = .ok (.dup, 1) := by decide +kernel
theorem dX2_init_53 : decode cX2_init 53 = .ok (.invokespecial 38, 3) := by decide +kernel
theorem dX2_init_56 : decode cX2_init 56 = .ok (.putfield 39, 3) := by decide +kernel
theorem dX2_init_59 : decode cX2_init 59 = .ok (.aload_n 0, 1) := by decide +kernel
theorem dX2_init_60 : decode cX2_init 60 = .ok (.bipush 16, 2) := by decide +kernel
theorem dX2_init_62 : decode cX2_init 62 = .ok (.newarray .int, 2) := by decide +kernel
theorem dX2_init_64 : decode cX2_init 64 = .ok (.putfield 42, 3) := by decide +kernel
theorem dX2_init_67 : decode cX2_init 67 = .ok (.aload_n 0, 1) := by decide +kernel
theorem dX2_init_68 : decode cX2_init 68 = .ok (.bipush 7, 2) := by decide +kernel
theorem dX2_init_70 : decode cX2_init 70 = .ok (.newarray .int, 2) := by decide +kernel
theorem dX2_init_72 : decode cX2_init 72 = .ok (.putfield 46, 3) := by decide +kernel
theorem dX2_init_75 : decode cX2_init 75 = .ok (.return_, 1) := by decide +kernel
theorem dX2_temperOf_0 : decode cX2_temperOf 0 = .ok (.iload_n 1, 1) := by decide +kernel
theorem dX2_temperOf_1 : decode cX2_temperOf 1 = .ok (.tableswitch 51 1 4 #[31, 36, 41, 46], 31) := by decide +kernel
theorem dX2_temperOf_32 : decode cX2_temperOf 32 = .ok (.aload_n 0, 1) := by decide +kernel
theorem dX2_temperOf_33 : decode cX2_temperOf 33 = .ok (.getfield 12, 3) := by decide +kernel
theorem dX2_temperOf_36 : decode cX2_temperOf 36 = .ok (.areturn, 1) := by decide +kernel
theorem dX2_temperOf_37 : decode cX2_temperOf 37 = .ok (.aload_n 0, 1) := by decide +kernel
theorem dX2_temperOf_38 : decode cX2_temperOf 38 = .ok (.getfield 21, 3) := by decide +kernel
theorem dX2_temperOf_41 : decode cX2_temperOf 41 = .ok (.areturn, 1) := by decide +kernel
theorem dX2_temperOf_42 : decode cX2_temperOf 42 = .ok (.aload_n 0, 1) := by decide +kernel
theorem dX2_temperOf_43 : decode cX2_temperOf 43 = .ok (.getfield 27, 3) := by decide +kernel
theorem dX2_temperOf_46 : decode cX2_temperOf 46 = .ok (.areturn, 1) := by decide +kernel
theorem dX2_temperOf_47 : decode cX2_temperOf 47 = .ok (.aload_n 0, 1) := by decide +kernel
theorem dX2_temperOf_48 : decode cX2_temperOf 48 = .ok (.getfield 33, 3) := by decide +kernel
theorem dX2_temperOf_51 : decode cX2_temperOf 51 = .ok (.areturn, 1) := by decide +kernel
theorem dX2_temperOf_52 : decode cX2_temperOf 52 = .ok (.aload_n 0, 1) := by decide +kernel
theorem dX2_temperOf_53 : decode cX2_temperOf 53 = .ok (.getfield 39, 3) := by decide +kernel
theorem dX2_temperOf_56 : decode cX2_temperOf 56 = .ok (.areturn, 1) := by decide +kernel
set_option maxRecDepth 20000 in
theorem ggX2_doesToday_X8_lives : GoodIn wsX2_doesToday wsX8_lives := goodIn_r _ [9, 10, 61, 62, 63, 64, 65, 66, 67, 68] (by decide +kernel) (by decide +kernel)
set_option maxRecDepth 20000 in
theorem gX2_doesToday_X8_lives : GoodIn wsX2_doesToday (wsV RX2 49 RX8 yX8_lives wsX8_lives) := goodIn_app (goodIn_of _ (by decide +kernel)) ggX2_doesToday_X8_lives
set_option maxRecDepth 20000 in
theorem ggX2_doesToday_X2_temperOf : GoodIn wsX2_doesToday wsX2_temperOf := goodIn_r _ [15, 16, 17, 18, 19, 20, 69, 70, 71, 72, 73, 74, 75] (by decide +kernel) (by decide +kernel)
set_option maxRecDepth 20000 in
theorem gX2_doesToday_X2_temperOf : GoodIn wsX2_doesToday (wsV RX2 58 RX2 yX2_temperOf wsX2_temperOf) := goodIn_app (goodIn_of _ (by decide +kernel)) ggX2_doesToday_X2_temperOf
set_option maxRecDepth 20000 in
theorem ggX2_doesToday_X0_deedsOn : GoodIn wsX2_doesToday wsX0_deedsOn := goodIn_r _ [26, 27, 28, 29, 30, 31, 32, 33, 34, 35] (by decide +kernel) (by decide +kernel)
set_option maxRecDepth 20000 in
theorem gX2_doesToday_X0_deedsOn_u72X0 : GoodIn wsX2_doesToday (va_wsU RX2 72 RX0 "NoticeWeek$Temper" ⟨"NoticeWeek$Temper", "deedsOn", "(III)I"⟩ yX0_deedsOn wsX0_deedsOn) := goodIn_app (goodIn_of _ (by decide +kernel)) ggX2_doesToday_X0_deedsOn
set_option maxRecDepth 20000 in
theorem ggX2_doesToday_X1_deedsOn : GoodIn wsX2_doesToday wsX1_deedsOn := goodIn_r _ [32, 33, 34, 35] (by decide +kernel) (by decide +kernel)
set_option maxRecDepth 20000 in
theorem gX2_doesToday_X1_deedsOn_u72X1 : GoodIn wsX2_doesToday (va_wsU RX2 72 RX1 "NoticeWeek$Temper" ⟨"NoticeWeek$Temper", "deedsOn", "(III)I"⟩ yX1_deedsOn wsX1_deedsOn) := goodIn_app (goodIn_of _ (by decide +kernel)) ggX2_doesToday_X1_deedsOn
set_option maxRecDepth 20000 in
theorem ggX2_doesToday_X3_deedsOn : GoodIn wsX2_doesToday wsX3_deedsOn := goodIn_r _ [40, 33, 34, 35] (by decide +kernel) (by decide +kernel)
set_option maxRecDepth 20000 in
theorem gX2_doesToday_X3_deedsOn_u72X3 : GoodIn wsX2_doesToday (va_wsU RX2 72 RX3 "NoticeWeek$Temper" ⟨"NoticeWeek$Temper", "deedsOn", "(III)I"⟩ yX3_deedsOn wsX3_deedsOn) := goodIn_app (goodIn_of _ (by decide +kernel)) ggX2_doesToday_X3_deedsOn
set_option maxRecDepth 20000 in
theorem ggX2_doesToday_X5_deedsOn : GoodIn wsX2_doesToday wsX5_deedsOn := goodIn_r _ [44, 45, 46, 47, 48, 49, 50, 51, 52, 53, 54, 38, 39, 40, 33, 34, 35] (by decide +kernel) (by decide +kernel)
set_option maxRecDepth 20000 in
theorem gX2_doesToday_X5_deedsOn_u72X5 : GoodIn wsX2_doesToday (va_wsU RX2 72 RX5 "NoticeWeek$Temper" ⟨"NoticeWeek$Temper", "deedsOn", "(III)I"⟩ yX5_deedsOn wsX5_deedsOn) := goodIn_app (goodIn_of _ (by decide +kernel)) ggX2_doesToday_X5_deedsOn
set_option maxRecDepth 20000 in
theorem ggX2_doesToday_X10_deedsOn : GoodIn wsX2_doesToday wsX10_deedsOn := goodIn_r _ [58, 59, 53, 60, 38, 39, 40, 33, 34, 35] (by decide +kernel) (by decide +kernel)
set_option maxRecDepth 20000 in
theorem gX2_doesToday_X10_deedsOn_u72X10 : GoodIn wsX2_doesToday (va_wsU RX2 72 RX10 "NoticeWeek$Temper" ⟨"NoticeWeek$Temper", "deedsOn", "(III)I"⟩ yX10_deedsOn wsX10_deedsOn) := goodIn_app (goodIn_of _ (by decide +kernel)) ggX2_doesToday_X10_deedsOn
theorem dX2_doesToday_0 : decode cX2_doesToday 0 = .ok (.aload_n 1, 1) := by decide +kernel
theorem dX2_doesToday_1 : decode cX2_doesToday 1 = .ok (.iload_n 2, 1) := by decide +kernel
theorem dX2_doesToday_2 : decode cX2_doesToday 2 = .ok (.invokevirtual 49, 3) := by decide +kernel
theorem dX2_doesToday_5 : decode cX2_doesToday 5 = .ok (.ifCond .ne 5, 3) := by decide +kernel
theorem dX2_doesToday_8 : decode cX2_doesToday 8 = .ok (.iconst 0, 1) := by decide +kernel
theorem dX2_doesToday_9 : decode cX2_doesToday 9 = .ok (.ireturn, 1) := by decide +kernel
theorem dX2_doesToday_10 : decode cX2_doesToday 10 = .ok (.aload_n 0, 1) := by decide +kernel
theorem dX2_doesToday_11 : decode cX2_doesToday 11 = .ok (.aload_n 1, 1) := by decide +kernel
theorem dX2_doesToday_12 : decode cX2_doesToday 12 = .ok (.getfield 55, 3) := by decide +kernel
theorem dX2_doesToday_15 : decode cX2_doesToday 15 = .ok (.iload_n 2, 1) := by decide +kernel
theorem dX2_doesToday_16 : decode cX2_doesToday 16 = .ok (.iaload, 1) := by decide +kernel
theorem dX2_doesToday_17 : decode cX2_doesToday 17 = .ok (.invokevirtual 58, 3) := by decide +kernel
theorem dX2_doesToday_20 : decode cX2_doesToday 20 = .ok (.astore_n 3, 1) := by decide +kernel
theorem dX2_doesToday_21 : decode cX2_doesToday 21 = .ok (.aload_n 3, 1) := by decide +kernel
theorem dX2_doesToday_22 : decode cX2_doesToday 22 = .ok (.aload_n 1, 1) := by decide +kernel
theorem dX2_doesToday_23 : decode cX2_doesToday 23 = .ok (.getfield 62, 3) := by decide +kernel
theorem dX2_doesToday_26 : decode cX2_doesToday 26 = .ok (.aload_n 1, 1) := by decide +kernel
theorem dX2_doesToday_27 : decode cX2_doesToday 27 = .ok (.getfield 66, 3) := by decide +kernel
theorem dX2_doesToday_30 : decode cX2_doesToday 30 = .ok (.iload_n 2, 1) := by decide +kernel
theorem dX2_doesToday_31 : decode cX2_doesToday 31 = .ok (.iaload, 1) := by decide +kernel
theorem dX2_doesToday_32 : decode cX2_doesToday 32 = .ok (.aload_n 1, 1) := by decide +kernel
theorem dX2_doesToday_33 : decode cX2_doesToday 33 = .ok (.getfield 69, 3) := by decide +kernel
theorem dX2_doesToday_36 : decode cX2_doesToday 36 = .ok (.iload_n 2, 1) := by decide +kernel
theorem dX2_doesToday_37 : decode cX2_doesToday 37 = .ok (.iaload, 1) := by decide +kernel
theorem dX2_doesToday_38 : decode cX2_doesToday 38 = .ok (.invokevirtual 72, 3) := by decide +kernel
theorem dX2_doesToday_41 : decode cX2_doesToday 41 = .ok (.ireturn, 1) := by decide +kernel
set_option maxRecDepth 20000 in
theorem ggX2_doneBehind_X2_temperOf : GoodIn wsX2_doneBehind wsX2_temperOf := goodIn_r _ [12, 13, 14, 15, 16, 17, 66, 67, 68, 69, 70, 71, 72] (by decide +kernel) (by decide +kernel)
set_option maxRecDepth 20000 in
theorem gX2_doneBehind_X2_temperOf : GoodIn wsX2_doneBehind (wsV RX2 58 RX2 yX2_temperOf wsX2_temperOf) := goodIn_app (goodIn_of _ (by decide +kernel)) ggX2_doneBehind_X2_temperOf
set_option maxRecDepth 20000 in
theorem ggX2_doneBehind_X0_deedsOn : GoodIn wsX2_doneBehind wsX0_deedsOn := goodIn_r _ [23, 24, 25, 26, 27, 28, 29, 30, 31, 32] (by decide +kernel) (by decide +kernel)
set_option maxRecDepth 20000 in
theorem gX2_doneBehind_X0_deedsOn_u72X0 : GoodIn wsX2_doneBehind (va_wsU RX2 72 RX0 "NoticeWeek$Temper" ⟨"NoticeWeek$Temper", "deedsOn", "(III)I"⟩ yX0_deedsOn wsX0_deedsOn) := goodIn_app (goodIn_of _ (by decide +kernel)) ggX2_doneBehind_X0_deedsOn
set_option maxRecDepth 20000 in
theorem ggX2_doneBehind_X1_deedsOn : GoodIn wsX2_doneBehind wsX1_deedsOn := goodIn_r _ [29, 30, 31, 32] (by decide +kernel) (by decide +kernel)
set_option maxRecDepth 20000 in
theorem gX2_doneBehind_X1_deedsOn_u72X1 : GoodIn wsX2_doneBehind (va_wsU RX2 72 RX1 "NoticeWeek$Temper" ⟨"NoticeWeek$Temper", "deedsOn", "(III)I"⟩ yX1_deedsOn wsX1_deedsOn) := goodIn_app (goodIn_of _ (by decide +kernel)) ggX2_doneBehind_X1_deedsOn
set_option maxRecDepth 20000 in
theorem ggX2_doneBehind_X3_deedsOn : GoodIn wsX2_doneBehind wsX3_deedsOn := goodIn_r _ [37, 30, 31, 32] (by decide +kernel) (by decide +kernel)
set_option maxRecDepth 20000 in
theorem gX2_doneBehind_X3_deedsOn_u72X3 : GoodIn wsX2_doneBehind (va_wsU RX2 72 RX3 "NoticeWeek$Temper" ⟨"NoticeWeek$Temper", "deedsOn", "(III)I"⟩ yX3_deedsOn wsX3_deedsOn) := goodIn_app (goodIn_of _ (by decide +kernel)) ggX2_doneBehind_X3_deedsOn
set_option maxRecDepth 20000 in
theorem ggX2_doneBehind_X5_deedsOn : GoodIn wsX2_doneBehind wsX5_deedsOn := goodIn_r _ [41, 42, 43, 44, 45, 46, 47, 48, 49, 50, 51, 35, 36, 37, 30, 31, 32] (by decide +kernel) (by decide +kernel)
set_option maxRecDepth 20000 in
theorem gX2_doneBehind_X5_deedsOn_u72X5 : GoodIn wsX2_doneBehind (va_wsU RX2 72 RX5 "NoticeWeek$Temper" ⟨"NoticeWeek$Temper", "deedsOn", "(III)I"⟩ yX5_deedsOn wsX5_deedsOn) := goodIn_app (goodIn_of _ (by decide +kernel)) ggX2_doneBehind_X5_deedsOn
set_option maxRecDepth 20000 in
theorem ggX2_doneBehind_X10_deedsOn : GoodIn wsX2_doneBehind wsX10_deedsOn := goodIn_r _ [55, 56, 50, 57, 35, 36, 37, 30, 31, 32] (by decide +kernel) (by decide +kernel)
set_option maxRecDepth 20000 in
theorem gX2_doneBehind_X10_deedsOn_u72X10 : GoodIn wsX2_doneBehind (va_wsU RX2 72 RX10 "NoticeWeek$Temper" ⟨"NoticeWeek$Temper", "deedsOn", "(III)I"⟩ yX10_deedsOn wsX10_deedsOn) := goodIn_app (goodIn_of _ (by decide +kernel)) ggX2_doneBehind_X10_deedsOn
theorem dX2_doneBehind_0 : decode cX2_doneBehind 0 = .ok (.aload_n 0, 1) := by decide +kernel
theorem dX2_doneBehind_1 : decode cX2_doneBehind 1 = .ok (.aload_n 1, 1) := by decide +kernel
theorem dX2_doneBehind_2 : decode cX2_doneBehind 2 = .ok (.getfield 55, 3) := by decide +kernel
theorem dX2_doneBehind_5 : decode cX2_doneBehind 5 = .ok (.iload_n 2, 1) := by decide +kernel
theorem dX2_doneBehind_6 : decode cX2_doneBehind 6 = .ok (.iaload, 1) := by decide +kernel
theorem dX2_doneBehind_7 : decode cX2_doneBehind 7 = .ok (.invokevirtual 58, 3) := by decide +kernel
theorem dX2_doneBehind_10 : decode cX2_doneBehind 10 = .ok (.astore 6, 2) := by decide +kernel
theorem dX2_doneBehind_12 : decode cX2_doneBehind 12 = .ok (.bipush 12, 2) := by decide +kernel
theorem dX2_doneBehind_14 : decode cX2_doneBehind 14 = .ok (.iload_n 3, 1) := by decide +kernel
theorem dX2_doneBehind_15 : decode cX2_doneBehind 15 = .ok (.aload_n 1, 1) := by decide +kernel
theorem dX2_doneBehind_16 : decode cX2_doneBehind 16 = .ok (.getfield 78, 3) := by decide +kernel
theorem dX2_doneBehind_19 : decode cX2_doneBehind 19 = .ok (.iload_n 2, 1) := by decide +kernel
theorem dX2_doneBehind_20 : decode cX2_doneBehind 20 = .ok (.iaload, 1) := by decide +kernel
theorem dX2_doneBehind_21 : decode cX2_doneBehind 21 = .ok (.invokestatic 81, 3) := by decide +kernel
theorem dX2_doneBehind_24 : decode cX2_doneBehind 24 = .ok (.invokestatic 81, 3) := by decide +kernel
theorem dX2_doneBehind_27 : decode cX2_doneBehind 27 = .ok (.istore 7, 2) := by decide +kernel
theorem dX2_doneBehind_29 : decode cX2_doneBehind 29 = .ok (.iload 4, 2) := by decide +kernel
theorem dX2_doneBehind_31 : decode cX2_doneBehind 31 = .ok (.istore 8, 2) := by decide +kernel
theorem dX2_doneBehind_33 : decode cX2_doneBehind 33 = .ok (.iconst 0, 1) := by decide +kernel
theorem dX2_doneBehind_34 : decode cX2_doneBehind 34 = .ok (.istore 9, 2) := by decide +kernel
theorem dX2_doneBehind_36 : decode cX2_doneBehind 36 = .ok (.iload 9, 2) := by decide +kernel
theorem dX2_doneBehind_38 : decode cX2_doneBehind 38 = .ok (.iload 7, 2) := by decide +kernel
theorem dX2_doneBehind_40 : decode cX2_doneBehind 40 = .ok (.if_icmp .ge 30, 3) := by decide +kernel
theorem dX2_doneBehind_43 : decode cX2_doneBehind 43 = .ok (.iload 8, 2) := by decide +kernel
theorem dX2_doneBehind_45 : decode cX2_doneBehind 45 = .ok (.aload 6, 2) := by decide +kernel
theorem dX2_doneBehind_47 : decode cX2_doneBehind 47 = .ok (.aload_n 1, 1) := by decide +kernel
theorem dX2_doneBehind_48 : decode cX2_doneBehind 48 = .ok (.getfield 62, 3) := by decide +kernel
theorem dX2_doneBehind_51 : decode cX2_doneBehind 51 = .ok (.iload 9, 2) := by decide +kernel
theorem dX2_doneBehind_53 : decode cX2_doneBehind 53 = .ok (.iadd, 1) := by decide +kernel
theorem dX2_doneBehind_54 : decode cX2_doneBehind 54 = .ok (.iload 8, 2) := by decide +kernel
theorem dX2_doneBehind_56 : decode cX2_doneBehind 56 = .ok (.iload 5, 2) := by decide +kernel
theorem dX2_doneBehind_58 : decode cX2_doneBehind 58 = .ok (.invokevirtual 72, 3) := by decide +kernel
theorem dX2_doneBehind_61 : decode cX2_doneBehind 61 = .ok (.ior, 1) := by decide +kernel
theorem dX2_doneBehind_62 : decode cX2_doneBehind 62 = .ok (.istore 8, 2) := by decide +kernel
theorem dX2_doneBehind_64 : decode cX2_doneBehind 64 = .ok (.iinc 9 1, 3) := by decide +kernel
theorem dX2_doneBehind_67 : decode cX2_doneBehind 67 = .ok (.goto (-31), 3) := by decide +kernel
theorem dX2_doneBehind_70 : decode cX2_doneBehind 70 = .ok (.iload 8, 2) := by decide +kernel
theorem dX2_doneBehind_72 : decode cX2_doneBehind 72 = .ok (.ireturn, 1) := by decide +kernel
set_option maxRecDepth 20000 in
theorem ggX2_falseLinesBehind_X2_doneBehind : GoodIn wsX2_falseLinesBehind wsX2_doneBehind := goodIn_r _ [7, 8, 9, 10, 11, 12, 13, 14, 15, 16, 17, 6, 18, 19, 20, 21, 22, 23, 24, 25, 26, 27, 28, 29, 30, 31, 32, 33, 34, 35, 36, 37, 38, 39, 40, 41, 42, 43, 44, 45, 46, 47, 48, 49, 50, 51, 52, 53, 54, 55, 56, 57, 58, 59, 60, 61, 62, 63, 67, 68, 69, 70, 71, 72, 73, 74, 75, 76, 77, 78, 79, 80, 81] (by decide +kernel) (by decide +kernel)
set_option maxRecDepth 20000 in
theorem gX2_falseLinesBehind_X2_doneBehind : GoodIn wsX2_falseLinesBehind (wsV RX2 87 RX2 yX2_doneBehind wsX2_doneBehind) := goodIn_app (goodIn_of _ (by decide +kernel)) ggX2_falseLinesBehind_X2_doneBehind
set_option maxRecDepth 20000 in
theorem ggX2_falseLinesBehind_X11_falseLines : GoodIn wsX2_falseLinesBehind wsX11_falseLines := goodIn_r _ [65, 66, 49, 50, 51, 52, 53, 54] (by decide +kernel) (by decide +kernel)
set_option maxRecDepth 20000 in
theorem gX2_falseLinesBehind_X11_falseLines_n91 : GoodIn wsX2_falseLinesBehind (wsX11_falseLines) := ggX2_falseLinesBehind_X11_falseLines
theorem dX2_falseLinesBehind_0 : decode cX2_falseLinesBehind 0 = .ok (.aload_n 1, 1) := by decide +kernel
theorem dX2_falseLinesBehind_1 : decode cX2_falseLinesBehind 1 = .ok (.getfield 69, 3) := by decide +kernel
theorem dX2_falseLinesBehind_4 : decode cX2_falseLinesBehind 4 = .ok (.iload_n 2, 1) := by decide +kernel
theorem dX2_falseLinesBehind_5 : decode cX2_falseLinesBehind 5 = .ok (.iaload, 1) := by decide +kernel
theorem dX2_falseLinesBehind_6 : decode cX2_falseLinesBehind 6 = .ok (.istore 4, 2) := by decide +kernel
theorem dX2_falseLinesBehind_8 : decode cX2_falseLinesBehind 8 = .ok (.aload_n 0, 1) := by decide +kernel
theorem dX2_falseLinesBehind_9 : decode cX2_falseLinesBehind 9 = .ok (.aload_n 1, 1) := by decide +kernel
theorem dX2_falseLinesBehind_10 : decode cX2_falseLinesBehind 10 = .ok (.iload_n 2, 1) := by decide +kernel
theorem dX2_falseLinesBehind_11 : decode cX2_falseLinesBehind 11 = .ok (.iload_n 3, 1) := by decide +kernel
theorem dX2_falseLinesBehind_12 : decode cX2_falseLinesBehind 12 = .ok (.aload_n 1, 1) := by decide +kernel
theorem dX2_falseLinesBehind_13 : decode cX2_falseLinesBehind 13 = .ok (.getfield 66, 3) := by decide +kernel
theorem dX2_falseLinesBehind_16 : decode cX2_falseLinesBehind 16 = .ok (.iload_n 2, 1) := by decide +kernel
theorem dX2_falseLinesBehind_17 : decode cX2_falseLinesBehind 17 = .ok (.iaload, 1) := by decide +kernel
theorem dX2_falseLinesBehind_18 : decode cX2_falseLinesBehind 18 = .ok (.iload 4, 2) := by decide +kernel
theorem dX2_falseLinesBehind_20 : decode cX2_falseLinesBehind 20 = .ok (.invokevirtual 87, 3) := by decide +kernel
theorem dX2_falseLinesBehind_23 : decode cX2_falseLinesBehind 23 = .ok (.iload 4, 2) := by decide +kernel
theorem dX2_falseLinesBehind_25 : decode cX2_falseLinesBehind 25 = .ok (.invokestatic 91, 3) := by decide +kernel
theorem dX2_falseLinesBehind_28 : decode cX2_falseLinesBehind 28 = .ok (.ireturn, 1) := by decide +kernel
set_option maxRecDepth 20000 in
theorem ggX2_firstUntrue_X8_lives : GoodIn wsX2_firstUntrue wsX8_lives := goodIn_r _ [8, 9, 79, 80, 81, 82, 83, 84, 85, 86] (by decide +kernel) (by decide +kernel)
set_option maxRecDepth 20000 in
theorem gX2_firstUntrue_X8_lives : GoodIn wsX2_firstUntrue (wsV RX2 49 RX8 yX8_lives wsX8_lives) := goodIn_app (goodIn_of _ (by decide +kernel)) ggX2_firstUntrue_X8_lives
set_option maxRecDepth 20000 in
theorem ggX2_firstUntrue_X2_falseLinesBehind : GoodIn wsX2_firstUntrue wsX2_falseLinesBehind := goodIn_r _ [14, 15, 16, 17, 18, 19, 13, 20, 21, 3, 22, 23, 24, 25, 26, 27, 28, 29, 30, 31, 32, 33, 34, 35, 36, 37, 38, 39, 40, 41, 42, 43, 44, 45, 46, 47, 48, 49, 50, 51, 52, 53, 54, 55, 56, 57, 58, 59, 60, 61, 62, 63, 64, 65, 66, 67, 68, 69, 70, 71, 72, 73, 74, 75, 76, 77, 78, 79, 80, 81, 82, 83, 84, 85, 86, 87, 88, 89, 90, 91, 92, 93] (by decide +kernel) (by decide +kernel)
set_option maxRecDepth 20000 in
theorem gX2_firstUntrue_X2_falseLinesBehind : GoodIn wsX2_firstUntrue (wsV RX2 98 RX2 yX2_falseLinesBehind wsX2_falseLinesBehind) := goodIn_app (goodIn_of _ (by decide +kernel)) ggX2_firstUntrue_X2_falseLinesBehind
theorem dX2_firstUntrue_0 : decode cX2_firstUntrue 0 = .ok (.ldc 94, 2) := by decide +kernel
theorem dX2_firstUntrue_2 : decode cX2_firstUntrue 2 = .ok (.istore_n 2, 1) := by decide +kernel
theorem dX2_firstUntrue_3 : decode cX2_firstUntrue 3 = .ok (.bipush 61, 2) := by decide +kernel
theorem dX2_firstUntrue_5 : decode cX2_firstUntrue 5 = .ok (.istore_n 3, 1) := by decide +kernel
theorem dX2_firstUntrue_6 : decode cX2_firstUntrue 6 = .ok (.iconst 0, 1) := by decide +kernel
theorem dX2_firstUntrue_7 : decode cX2_firstUntrue 7 = .ok (.istore 4, 2) := by decide +kernel
theorem dX2_firstUntrue_9 : decode cX2_firstUntrue 9 = .ok (.iload 4, 2) := by decide +kernel
theorem dX2_firstUntrue_11 : decode cX2_firstUntrue 11 = .ok (.aload_n 1, 1) := by decide +kernel
theorem dX2_firstUntrue_12 : decode cX2_firstUntrue 12 = .ok (.getfield 95, 3) := by decide +kernel
theorem dX2_firstUntrue_15 : decode cX2_firstUntrue 15 = .ok (.if_icmp .ge 64, 3) := by decide +kernel
theorem dX2_firstUntrue_18 : decode cX2_firstUntrue 18 = .ok (.aload_n 1, 1) := by decide +kernel
theorem dX2_firstUntrue_19 : decode cX2_firstUntrue 19 = .ok (.iload 4, 2) := by decide +kernel
theorem dX2_firstUntrue_21 : decode cX2_firstUntrue 21 = .ok (.invokevirtual 49, 3) := by decide +kernel
theorem dX2_firstUntrue_24 : decode cX2_firstUntrue 24 = .ok (.ifCond .eq 18, 3) := by decide +kernel
theorem dX2_firstUntrue_27 : decode cX2_firstUntrue 27 = .ok (.aload_n 1, 1) := by decide +kernel
theorem dX2_firstUntrue_28 : decode cX2_firstUntrue 28 = .ok (.getfield 78, 3) := by decide +kernel
theorem dX2_firstUntrue_31 : decode cX2_firstUntrue 31 = .ok (.iload 4, 2) := by decide +kernel
theorem dX2_firstUntrue_33 : decode cX2_firstUntrue 33 = .ok (.iaload, 1) := by decide +kernel
theorem dX2_firstUntrue_34 : decode cX2_firstUntrue 34 = .ok (.iload_n 3, 1) := by decide +kernel
theorem dX2_firstUntrue_35 : decode cX2_firstUntrue 35 = .ok (.if_icmp .ge 7, 3) := by decide +kernel
theorem dX2_firstUntrue_38 : decode cX2_firstUntrue 38 = .ok (.iconst 1, 1) := by decide +kernel
theorem dX2_firstUntrue_39 : decode cX2_firstUntrue 39 = .ok (.goto 4, 3) := by decide +kernel
theorem dX2_firstUntrue_42 : decode cX2_firstUntrue 42 = .ok (.iconst 0, 1) := by decide +kernel
theorem dX2_firstUntrue_43 : decode cX2_firstUntrue 43 = .ok (.istore 5, 2) := by decide +kernel
theorem dX2_firstUntrue_45 : decode cX2_firstUntrue 45 = .ok (.iload 5, 2) := by decide +kernel
theorem dX2_firstUntrue_47 : decode cX2_firstUntrue 47 = .ok (.ifCond .eq 26, 3) := by decide +kernel
theorem dX2_firstUntrue_50 : decode cX2_firstUntrue 50 = .ok (.aload_n 0, 1) := by decide +kernel
theorem dX2_firstUntrue_51 : decode cX2_firstUntrue 51 = .ok (.aload_n 1, 1) := by decide +kernel
theorem dX2_firstUntrue_52 : decode cX2_firstUntrue 52 = .ok (.iload 4, 2) := by decide +kernel
theorem dX2_firstUntrue_54 : decode cX2_firstUntrue 54 = .ok (.bipush 60, 2) := by decide +kernel
theorem dX2_firstUntrue_56 : decode cX2_firstUntrue 56 = .ok (.invokevirtual 98, 3) := by decide +kernel
theorem dX2_firstUntrue_59 : decode cX2_firstUntrue 59 = .ok (.ifCond .le 14, 3) := by decide +kernel
theorem dX2_firstUntrue_62 : decode cX2_firstUntrue 62 = .ok (.iload 4, 2) := by decide +kernel
theorem dX2_firstUntrue_64 : decode cX2_firstUntrue 64 = .ok (.istore_n 2, 1) := by decide +kernel
theorem dX2_firstUntrue_65 : decode cX2_firstUntrue 65 = .ok (.aload_n 1, 1) := by decide +kernel
theorem dX2_firstUntrue_66 : decode cX2_firstUntrue 66 = .ok (.getfield 78, 3) := by decide +kernel
theorem dX2_firstUntrue_69 : decode cX2_firstUntrue 69 = .ok (.iload 4, 2) := by decide +kernel
theorem dX2_firstUntrue_71 : decode cX2_firstUntrue 71 = .ok (.iaload, 1) := by decide +kernel
theorem dX2_firstUntrue_72 : decode cX2_firstUntrue 72 = .ok (.istore_n 3, 1) := by decide +kernel
theorem dX2_firstUntrue_73 : decode cX2_firstUntrue 73 = .ok (.iinc 4 1, 3) := by decide +kernel
theorem dX2_firstUntrue_76 : decode cX2_firstUntrue 76 = .ok (.goto (-67), 3) := by decide +kernel
theorem dX2_firstUntrue_79 : decode cX2_firstUntrue 79 = .ok (.iload_n 2, 1) := by decide +kernel
theorem dX2_firstUntrue_80 : decode cX2_firstUntrue 80 = .ok (.ireturn, 1) := by decide +kernel
set_option maxRecDepth 20000 in
theorem ggX2_noticeToWrite_X2_doneBehind : GoodIn wsX2_noticeToWrite wsX2_doneBehind := goodIn_r _ [7, 8, 9, 10, 11, 12, 13, 14, 15, 16, 17, 6, 18, 19, 20, 21, 22, 23, 24, 25, 26, 27, 28, 29, 30, 31, 32, 33, 34, 35, 36, 37, 38, 39, 40, 41, 42, 43, 44, 45, 46, 47, 48, 49, 50, 51, 52, 53, 54, 55, 56, 57, 58, 59, 60, 61, 62, 63, 67, 68, 69, 70, 71, 72, 73, 74, 75, 76, 77, 78, 79, 80, 81] (by decide +kernel) (by decide +kernel)
set_option maxRecDepth 20000 in
theorem gX2_noticeToWrite_X2_doneBehind : GoodIn wsX2_noticeToWrite (wsV RX2 87 RX2 yX2_doneBehind wsX2_doneBehind) := goodIn_app (goodIn_of _ (by decide +kernel)) ggX2_noticeToWrite_X2_doneBehind
set_option maxRecDepth 20000 in
theorem ggX2_noticeToWrite_X11_falseLines : GoodIn wsX2_noticeToWrite wsX11_falseLines := goodIn_r _ [65, 66, 49, 50, 51, 52, 53, 54] (by decide +kernel) (by decide +kernel)
set_option maxRecDepth 20000 in
theorem gX2_noticeToWrite_X11_falseLines_n91 : GoodIn wsX2_noticeToWrite (wsX11_falseLines) := ggX2_noticeToWrite_X11_falseLines
theorem dX2_noticeToWrite_0 : decode cX2_noticeToWrite 0 = .ok (.ldc 94, 2) := by decide +kernel
theorem dX2_noticeToWrite_2 : decode cX2_noticeToWrite 2 = .ok (.istore 4, 2) := by decide +kernel
theorem dX2_noticeToWrite_4 : decode cX2_noticeToWrite 4 = .ok (.bipush 7, 2) := by decide +kernel
theorem dX2_noticeToWrite_6 : decode cX2_noticeToWrite 6 = .ok (.istore 5, 2) := by decide +kernel
theorem dX2_noticeToWrite_8 : decode cX2_noticeToWrite 8 = .ok (.iconst 0, 1) := by decide +kernel
theorem dX2_noticeToWrite_9 : decode cX2_noticeToWrite 9 = .ok (.istore 6, 2) := by decide +kernel
theorem dX2_noticeToWrite_11 : decode cX2_noticeToWrite 11 = .ok (.iload 6, 2) := by decide +kernel
theorem dX2_noticeToWrite_13 : decode cX2_noticeToWrite 13 = .ok (.bipush 63, 2) := by decide +kernel
theorem dX2_noticeToWrite_15 : decode cX2_noticeToWrite 15 = .ok (.if_icmp .gt 60, 3) := by decide +kernel
theorem dX2_noticeToWrite_18 : decode cX2_noticeToWrite 18 = .ok (.aload_n 0, 1) := by decide +kernel
theorem dX2_noticeToWrite_19 : decode cX2_noticeToWrite 19 = .ok (.aload_n 1, 1) := by decide +kernel
theorem dX2_noticeToWrite_20 : decode cX2_noticeToWrite 20 = .ok (.iload_n 2, 1) := by decide +kernel
theorem dX2_noticeToWrite_21 : decode cX2_noticeToWrite 21 = .ok (.bipush 60, 2) := by decide +kernel
theorem dX2_noticeToWrite_23 : decode cX2_noticeToWrite 23 = .ok (.aload_n 1, 1) := by decide +kernel
theorem dX2_noticeToWrite_24 : decode cX2_noticeToWrite 24 = .ok (.getfield 66, 3) := by decide +kernel
theorem dX2_noticeToWrite_27 : decode cX2_noticeToWrite 27 = .ok (.iload_n 2, 1) := by decide +kernel
theorem dX2_noticeToWrite_28 : decode cX2_noticeToWrite 28 = .ok (.iaload, 1) := by decide +kernel
theorem dX2_noticeToWrite_29 : decode cX2_noticeToWrite 29 = .ok (.iload 6, 2) := by decide +kernel
theorem dX2_noticeToWrite_31 : decode cX2_noticeToWrite 31 = .ok (.invokevirtual 87, 3) := by decide +kernel
theorem dX2_noticeToWrite_34 : decode cX2_noticeToWrite 34 = .ok (.istore 7, 2) := by decide +kernel
theorem dX2_noticeToWrite_36 : decode cX2_noticeToWrite 36 = .ok (.iload 7, 2) := by decide +kernel
theorem dX2_noticeToWrite_38 : decode cX2_noticeToWrite 38 = .ok (.iload 6, 2) := by decide +kernel
theorem dX2_noticeToWrite_40 : decode cX2_noticeToWrite 40 = .ok (.invokestatic 91, 3) := by decide +kernel
theorem dX2_noticeToWrite_43 : decode cX2_noticeToWrite 43 = .ok (.istore 8, 2) := by decide +kernel
theorem dX2_noticeToWrite_45 : decode cX2_noticeToWrite 45 = .ok (.iload_n 3, 1) := by decide +kernel
theorem dX2_noticeToWrite_46 : decode cX2_noticeToWrite 46 = .ok (.iload 7, 2) := by decide +kernel
theorem dX2_noticeToWrite_48 : decode cX2_noticeToWrite 48 = .ok (.iconst (-1), 1) := by decide +kernel
theorem dX2_noticeToWrite_49 : decode cX2_noticeToWrite 49 = .ok (.ixor, 1) := by decide +kernel
theorem dX2_noticeToWrite_50 : decode cX2_noticeToWrite 50 = .ok (.iand, 1) := by decide +kernel
theorem dX2_noticeToWrite_51 : decode cX2_noticeToWrite 51 = .ok (.ifCond .ne 18, 3) := by decide +kernel
theorem dX2_noticeToWrite_54 : decode cX2_noticeToWrite 54 = .ok (.iload 8, 2) := by decide +kernel
theorem dX2_noticeToWrite_56 : decode cX2_noticeToWrite 56 = .ok (.iload 5, 2) := by decide +kernel
theorem dX2_noticeToWrite_58 : decode cX2_noticeToWrite 58 = .ok (.if_icmp .ge 11, 3) := by decide +kernel
theorem dX2_noticeToWrite_61 : decode cX2_noticeToWrite 61 = .ok (.iload 6, 2) := by decide +kernel
theorem dX2_noticeToWrite_63 : decode cX2_noticeToWrite 63 = .ok (.istore 4, 2) := by decide +kernel
theorem dX2_noticeToWrite_65 : decode cX2_noticeToWrite 65 = .ok (.iload 8, 2) := by decide +kernel
theorem dX2_noticeToWrite_67 : decode cX2_noticeToWrite 67 = .ok (.istore 5, 2) := by decide +kernel
theorem dX2_noticeToWrite_69 : decode cX2_noticeToWrite 69 = .ok (.iinc 6 1, 3) := by decide +kernel
theorem dX2_noticeToWrite_72 : decode cX2_noticeToWrite 72 = .ok (.goto (-61), 3) := by decide +kernel
theorem dX2_noticeToWrite_75 : decode cX2_noticeToWrite 75 = .ok (.iload 4, 2) := by decide +kernel
theorem dX2_noticeToWrite_77 : decode cX2_noticeToWrite 77 = .ok (.ireturn, 1) := by decide +kernel
set_option maxRecDepth 20000 in
theorem ggX2_deedsToDeny_J6_bitCount_0f7a4 : GoodIn wsX2_deedsToDeny wsJ6_bitCount_0f7a4 := goodIn_r _ [7, 8, 9, 10] (by decide +kernel) (by decide +kernel)
set_option maxRecDepth 20000 in
theorem gX2_deedsToDeny_J6_bitCount_0f7a4 : GoodIn wsX2_deedsToDeny (va_wsS RX2 102 yJ6_bitCount_0f7a4 wsJ6_bitCount_0f7a4) := goodIn_app (goodIn_of _ (by decide +kernel)) ggX2_deedsToDeny_J6_bitCount_0f7a4
set_option maxRecDepth 20000 in
theorem ggX2_deedsToDeny_X2_doneBehind : GoodIn wsX2_deedsToDeny wsX2_doneBehind := goodIn_r _ [15, 16, 17, 18, 19, 20, 21, 22, 23, 24, 25, 14, 26, 27, 28, 29, 30, 31, 32, 33, 34, 35, 36, 37, 38, 39, 40, 41, 42, 43, 44, 45, 46, 47, 48, 49, 50, 51, 52, 53, 54, 55, 56, 5, 6, 7, 8, 9, 10, 57, 58, 59, 60, 61, 62, 63, 64, 65, 66, 67, 68, 69, 70, 71, 72, 73, 74, 75, 76, 77, 78, 79, 80] (by decide +kernel) (by decide +kernel)
set_option maxRecDepth 20000 in
theorem gX2_deedsToDeny_X2_doneBehind : GoodIn wsX2_deedsToDeny (wsV RX2 87 RX2 yX2_doneBehind wsX2_doneBehind) := goodIn_app (goodIn_of _ (by decide +kernel)) ggX2_deedsToDeny_X2_doneBehind
theorem dX2_deedsToDeny_0 : decode cX2_deedsToDeny 0 = .ok (.ldc 94, 2) := by decide +kernel
theorem dX2_deedsToDeny_2 : decode cX2_deedsToDeny 2 = .ok (.istore_n 3, 1) := by decide +kernel
theorem dX2_deedsToDeny_3 : decode cX2_deedsToDeny 3 = .ok (.bipush 7, 2) := by decide +kernel
theorem dX2_deedsToDeny_5 : decode cX2_deedsToDeny 5 = .ok (.istore 4, 2) := by decide +kernel
theorem dX2_deedsToDeny_7 : decode cX2_deedsToDeny 7 = .ok (.aload_n 1, 1) := by decide +kernel
theorem dX2_deedsToDeny_8 : decode cX2_deedsToDeny 8 = .ok (.getfield 66, 3) := by decide +kernel
theorem dX2_deedsToDeny_11 : decode cX2_deedsToDeny 11 = .ok (.iload_n 2, 1) := by decide +kernel
theorem dX2_deedsToDeny_12 : decode cX2_deedsToDeny 12 = .ok (.iaload, 1) := by decide +kernel
theorem dX2_deedsToDeny_13 : decode cX2_deedsToDeny 13 = .ok (.istore 5, 2) := by decide +kernel
theorem dX2_deedsToDeny_15 : decode cX2_deedsToDeny 15 = .ok (.aload_n 1, 1) := by decide +kernel
theorem dX2_deedsToDeny_16 : decode cX2_deedsToDeny 16 = .ok (.getfield 69, 3) := by decide +kernel
theorem dX2_deedsToDeny_19 : decode cX2_deedsToDeny 19 = .ok (.iload_n 2, 1) := by decide +kernel
theorem dX2_deedsToDeny_20 : decode cX2_deedsToDeny 20 = .ok (.iaload, 1) := by decide +kernel
theorem dX2_deedsToDeny_21 : decode cX2_deedsToDeny 21 = .ok (.istore 6, 2) := by decide +kernel
theorem dX2_deedsToDeny_23 : decode cX2_deedsToDeny 23 = .ok (.iconst 0, 1) := by decide +kernel
theorem dX2_deedsToDeny_24 : decode cX2_deedsToDeny 24 = .ok (.istore 7, 2) := by decide +kernel
theorem dX2_deedsToDeny_26 : decode cX2_deedsToDeny 26 = .ok (.iload 7, 2) := by decide +kernel
theorem dX2_deedsToDeny_28 : decode cX2_deedsToDeny 28 = .ok (.bipush 63, 2) := by decide +kernel
theorem dX2_deedsToDeny_30 : decode cX2_deedsToDeny 30 = .ok (.if_icmp .gt 73, 3) := by decide +kernel
theorem dX2_deedsToDeny_33 : decode cX2_deedsToDeny 33 = .ok (.iload 7, 2) := by decide +kernel
theorem dX2_deedsToDeny_35 : decode cX2_deedsToDeny 35 = .ok (.iload 5, 2) := by decide +kernel
theorem dX2_deedsToDeny_37 : decode cX2_deedsToDeny 37 = .ok (.iconst (-1), 1) := by decide +kernel
theorem dX2_deedsToDeny_38 : decode cX2_deedsToDeny 38 = .ok (.ixor, 1) := by decide +kernel
theorem dX2_deedsToDeny_39 : decode cX2_deedsToDeny 39 = .ok (.iand, 1) := by decide +kernel
theorem dX2_deedsToDeny_40 : decode cX2_deedsToDeny 40 = .ok (.ifCond .ne 17, 3) := by decide +kernel
theorem dX2_deedsToDeny_43 : decode cX2_deedsToDeny 43 = .ok (.iload 7, 2) := by decide +kernel
theorem dX2_deedsToDeny_45 : decode cX2_deedsToDeny 45 = .ok (.invokestatic 102, 3) := by decide +kernel
theorem dX2_deedsToDeny_48 : decode cX2_deedsToDeny 48 = .ok (.iload 4, 2) := by decide +kernel
theorem dX2_deedsToDeny_50 : decode cX2_deedsToDeny 50 = .ok (.if_icmp .ge 7, 3) := by decide +kernel
theorem dX2_deedsToDeny_53 : decode cX2_deedsToDeny 53 = .ok (.iconst 1, 1) := by decide +kernel
theorem dX2_deedsToDeny_54 : decode cX2_deedsToDeny 54 = .ok (.goto 4, 3) := by decide +kernel
theorem dX2_deedsToDeny_57 : decode cX2_deedsToDeny 57 = .ok (.iconst 0, 1) := by decide +kernel
theorem dX2_deedsToDeny_58 : decode cX2_deedsToDeny 58 = .ok (.istore 8, 2) := by decide +kernel
theorem dX2_deedsToDeny_60 : decode cX2_deedsToDeny 60 = .ok (.iload 8, 2) := by decide +kernel
theorem dX2_deedsToDeny_62 : decode cX2_deedsToDeny 62 = .ok (.ifCond .eq 35, 3) := by decide +kernel
theorem dX2_deedsToDeny_65 : decode cX2_deedsToDeny 65 = .ok (.aload_n 0, 1) := by decide +kernel
theorem dX2_deedsToDeny_66 : decode cX2_deedsToDeny 66 = .ok (.aload_n 1, 1) := by decide +kernel
theorem dX2_deedsToDeny_67 : decode cX2_deedsToDeny 67 = .ok (.iload_n 2, 1) := by decide +kernel
theorem dX2_deedsToDeny_68 : decode cX2_deedsToDeny 68 = .ok (.bipush 60, 2) := by decide +kernel
theorem dX2_deedsToDeny_70 : decode cX2_deedsToDeny 70 = .ok (.iload 5, 2) := by decide +kernel
theorem dX2_deedsToDeny_72 : decode cX2_deedsToDeny 72 = .ok (.iload 7, 2) := by decide +kernel
theorem dX2_deedsToDeny_74 : decode cX2_deedsToDeny 74 = .ok (.iconst (-1), 1) := by decide +kernel
theorem dX2_deedsToDeny_75 : decode cX2_deedsToDeny 75 = .ok (.ixor, 1) := by decide +kernel
theorem dX2_deedsToDeny_76 : decode cX2_deedsToDeny 76 = .ok (.iand, 1) := by decide +kernel
theorem dX2_deedsToDeny_77 : decode cX2_deedsToDeny 77 = .ok (.iload 6, 2) := by decide +kernel
theorem dX2_deedsToDeny_79 : decode cX2_deedsToDeny 79 = .ok (.invokevirtual 87, 3) := by decide +kernel
theorem dX2_deedsToDeny_82 : decode cX2_deedsToDeny 82 = .ok (.iload 6, 2) := by decide +kernel
theorem dX2_deedsToDeny_84 : decode cX2_deedsToDeny 84 = .ok (.if_icmp .ne 13, 3) := by decide +kernel
theorem dX2_deedsToDeny_87 : decode cX2_deedsToDeny 87 = .ok (.iload 7, 2) := by decide +kernel
theorem dX2_deedsToDeny_89 : decode cX2_deedsToDeny 89 = .ok (.istore_n 3, 1) := by decide +kernel
theorem dX2_deedsToDeny_90 : decode cX2_deedsToDeny 90 = .ok (.iload 7, 2) := by decide +kernel
theorem dX2_deedsToDeny_92 : decode cX2_deedsToDeny 92 = .ok (.invokestatic 102, 3) := by decide +kernel
theorem dX2_deedsToDeny_95 : decode cX2_deedsToDeny 95 = .ok (.istore 4, 2) := by decide +kernel
theorem dX2_deedsToDeny_97 : decode cX2_deedsToDeny 97 = .ok (.iinc 7 1, 3) := by decide +kernel
theorem dX2_deedsToDeny_100 : decode cX2_deedsToDeny 100 = .ok (.goto (-74), 3) := by decide +kernel
theorem dX2_deedsToDeny_103 : decode cX2_deedsToDeny 103 = .ok (.iload_n 3, 1) := by decide +kernel
theorem dX2_deedsToDeny_104 : decode cX2_deedsToDeny 104 = .ok (.ireturn, 1) := by decide +kernel
set_option maxRecDepth 20000 in
theorem ggX2_layCourse_X2_temperOf : GoodIn wsX2_layCourse wsX2_temperOf := goodIn_r _ [9, 10, 11, 12, 13, 14, 63, 64, 65, 66, 67, 68, 69] (by decide +kernel) (by decide +kernel)
set_option maxRecDepth 20000 in
theorem gX2_layCourse_X2_temperOf : GoodIn wsX2_layCourse (wsV RX2 58 RX2 yX2_temperOf wsX2_temperOf) := goodIn_app (goodIn_of _ (by decide +kernel)) ggX2_layCourse_X2_temperOf
set_option maxRecDepth 20000 in
theorem ggX2_layCourse_X0_deedsOn : GoodIn wsX2_layCourse wsX0_deedsOn := goodIn_r _ [20, 21, 22, 23, 24, 25, 26, 27, 28, 29] (by decide +kernel) (by decide +kernel)
set_option maxRecDepth 20000 in
theorem gX2_layCourse_X0_deedsOn_u72X0 : GoodIn wsX2_layCourse (va_wsU RX2 72 RX0 "NoticeWeek$Temper" ⟨"NoticeWeek$Temper", "deedsOn", "(III)I"⟩ yX0_deedsOn wsX0_deedsOn) := goodIn_app (goodIn_of _ (by decide +kernel)) ggX2_layCourse_X0_deedsOn
set_option maxRecDepth 20000 in
theorem ggX2_layCourse_X1_deedsOn : GoodIn wsX2_layCourse wsX1_deedsOn := goodIn_r _ [26, 27, 28, 29] (by decide +kernel) (by decide +kernel)
set_option maxRecDepth 20000 in
theorem gX2_layCourse_X1_deedsOn_u72X1 : GoodIn wsX2_layCourse (va_wsU RX2 72 RX1 "NoticeWeek$Temper" ⟨"NoticeWeek$Temper", "deedsOn", "(III)I"⟩ yX1_deedsOn wsX1_deedsOn) := goodIn_app (goodIn_of _ (by decide +kernel)) ggX2_layCourse_X1_deedsOn
set_option maxRecDepth 20000 in
theorem ggX2_layCourse_X3_deedsOn : GoodIn wsX2_layCourse wsX3_deedsOn := goodIn_r _ [34, 27, 28, 29] (by decide +kernel) (by decide +kernel)
set_option maxRecDepth 20000 in
theorem gX2_layCourse_X3_deedsOn_u72X3 : GoodIn wsX2_layCourse (va_wsU RX2 72 RX3 "NoticeWeek$Temper" ⟨"NoticeWeek$Temper", "deedsOn", "(III)I"⟩ yX3_deedsOn wsX3_deedsOn) := goodIn_app (goodIn_of _ (by decide +kernel)) ggX2_layCourse_X3_deedsOn
set_option maxRecDepth 20000 in
theorem ggX2_layCourse_X5_deedsOn : GoodIn wsX2_layCourse wsX5_deedsOn := goodIn_r _ [38, 39, 40, 41, 42, 43, 44, 45, 46, 47, 48, 32, 33, 34, 27, 28, 29] (by decide +kernel) (by decide +kernel)
set_option maxRecDepth 20000 in
theorem gX2_layCourse_X5_deedsOn_u72X5 : GoodIn wsX2_layCourse (va_wsU RX2 72 RX5 "NoticeWeek$Temper" ⟨"NoticeWeek$Temper", "deedsOn", "(III)I"⟩ yX5_deedsOn wsX5_deedsOn) := goodIn_app (goodIn_of _ (by decide +kernel)) ggX2_layCourse_X5_deedsOn
set_option maxRecDepth 20000 in
theorem ggX2_layCourse_X10_deedsOn : GoodIn wsX2_layCourse wsX10_deedsOn := goodIn_r _ [52, 53, 47, 54, 32, 33, 34, 27, 28, 29] (by decide +kernel) (by decide +kernel)
set_option maxRecDepth 20000 in
theorem gX2_layCourse_X10_deedsOn_u72X10 : GoodIn wsX2_layCourse (va_wsU RX2 72 RX10 "NoticeWeek$Temper" ⟨"NoticeWeek$Temper", "deedsOn", "(III)I"⟩ yX10_deedsOn wsX10_deedsOn) := goodIn_app (goodIn_of _ (by decide +kernel)) ggX2_layCourse_X10_deedsOn
theorem dX2_layCourse_0 : decode cX2_layCourse 0 = .ok (.aload_n 0, 1) := by decide +kernel
theorem dX2_layCourse_1 : decode cX2_layCourse 1 = .ok (.iload_n 3, 1) := by decide +kernel
theorem dX2_layCourse_2 : decode cX2_layCourse 2 = .ok (.invokevirtual 58, 3) := by decide +kernel
theorem dX2_layCourse_5 : decode cX2_layCourse 5 = .ok (.astore 5, 2) := by decide +kernel
theorem dX2_layCourse_7 : decode cX2_layCourse 7 = .ok (.aload_n 1, 1) := by decide +kernel
theorem dX2_layCourse_8 : decode cX2_layCourse 8 = .ok (.getfield 66, 3) := by decide +kernel
theorem dX2_layCourse_11 : decode cX2_layCourse 11 = .ok (.iload_n 2, 1) := by decide +kernel
theorem dX2_layCourse_12 : decode cX2_layCourse 12 = .ok (.iaload, 1) := by decide +kernel
theorem dX2_layCourse_13 : decode cX2_layCourse 13 = .ok (.istore 6, 2) := by decide +kernel
theorem dX2_layCourse_15 : decode cX2_layCourse 15 = .ok (.iconst 0, 1) := by decide +kernel
theorem dX2_layCourse_16 : decode cX2_layCourse 16 = .ok (.istore 7, 2) := by decide +kernel
theorem dX2_layCourse_18 : decode cX2_layCourse 18 = .ok (.iload 7, 2) := by decide +kernel
theorem dX2_layCourse_20 : decode cX2_layCourse 20 = .ok (.bipush 16, 2) := by decide +kernel
theorem dX2_layCourse_22 : decode cX2_layCourse 22 = .ok (.if_icmp .ge 50, 3) := by decide +kernel
theorem dX2_layCourse_25 : decode cX2_layCourse 25 = .ok (.iload 7, 2) := by decide +kernel
theorem dX2_layCourse_27 : decode cX2_layCourse 27 = .ok (.aload_n 1, 1) := by decide +kernel
theorem dX2_layCourse_28 : decode cX2_layCourse 28 = .ok (.getfield 78, 3) := by decide +kernel
theorem dX2_layCourse_31 : decode cX2_layCourse 31 = .ok (.iload_n 2, 1) := by decide +kernel
theorem dX2_layCourse_32 : decode cX2_layCourse 32 = .ok (.iaload, 1) := by decide +kernel
theorem dX2_layCourse_33 : decode cX2_layCourse 33 = .ok (.if_icmp .ge 24, 3) := by decide +kernel
theorem dX2_layCourse_36 : decode cX2_layCourse 36 = .ok (.iload 6, 2) := by decide +kernel
theorem dX2_layCourse_38 : decode cX2_layCourse 38 = .ok (.aload 5, 2) := by decide +kernel
theorem dX2_layCourse_40 : decode cX2_layCourse 40 = .ok (.aload_n 1, 1) := by decide +kernel
theorem dX2_layCourse_41 : decode cX2_layCourse 41 = .ok (.getfield 62, 3) := by decide +kernel
theorem dX2_layCourse_44 : decode cX2_layCourse 44 = .ok (.iload 7, 2) := by decide +kernel
theorem dX2_layCourse_46 : decode cX2_layCourse 46 = .ok (.iadd, 1) := by decide +kernel
theorem dX2_layCourse_47 : decode cX2_layCourse 47 = .ok (.iload 6, 2) := by decide +kernel
theorem dX2_layCourse_49 : decode cX2_layCourse 49 = .ok (.iload 4, 2) := by decide +kernel
theorem dX2_layCourse_51 : decode cX2_layCourse 51 = .ok (.invokevirtual 72, 3) := by decide +kernel
theorem dX2_layCourse_54 : decode cX2_layCourse 54 = .ok (.ior, 1) := by decide +kernel
theorem dX2_layCourse_55 : decode cX2_layCourse 55 = .ok (.istore 6, 2) := by decide +kernel
theorem dX2_layCourse_57 : decode cX2_layCourse 57 = .ok (.aload_n 0, 1) := by decide +kernel
theorem dX2_layCourse_58 : decode cX2_layCourse 58 = .ok (.getfield 42, 3) := by decide +kernel
theorem dX2_layCourse_61 : decode cX2_layCourse 61 = .ok (.iload 7, 2) := by decide +kernel
theorem dX2_layCourse_63 : decode cX2_layCourse 63 = .ok (.iload 6, 2) := by decide +kernel
theorem dX2_layCourse_65 : decode cX2_layCourse 65 = .ok (.iastore, 1) := by decide +kernel
theorem dX2_layCourse_66 : decode cX2_layCourse 66 = .ok (.iinc 7 1, 3) := by decide +kernel
theorem dX2_layCourse_69 : decode cX2_layCourse 69 = .ok (.goto (-51), 3) := by decide +kernel
theorem dX2_layCourse_72 : decode cX2_layCourse 72 = .ok (.return_, 1) := by decide +kernel
set_option maxRecDepth 20000 in
theorem ggX2_waysToBeTrue_X2_tenthsToBeTrue : GoodIn wsX2_waysToBeTrue wsX2_tenthsToBeTrue := goodIn_r _ [7, 8, 9, 10, 11, 12, 6, 13, 14, 15, 16, 17, 18, 19, 20, 21, 22, 23, 24, 25, 26, 27, 28, 29, 30, 31, 32, 33, 34, 35, 36, 37, 38, 39, 40, 41, 42, 43, 44, 45, 46, 47, 48, 49, 50, 51, 52, 53, 54, 55, 56, 57, 58, 59, 60, 61, 62, 63, 64, 65, 66, 67, 68, 69, 81, 82, 83, 84, 85, 86, 87, 88, 74, 75, 76, 77, 78, 79, 80] (by decide +kernel) (by decide +kernel)
set_option maxRecDepth 20000 in
theorem gX2_waysToBeTrue_X2_tenthsToBeTrue : GoodIn wsX2_waysToBeTrue (wsV RX2 108 RX2 yX2_tenthsToBeTrue wsX2_tenthsToBeTrue) := goodIn_app (goodIn_of _ (by decide +kernel)) ggX2_waysToBeTrue_X2_tenthsToBeTrue
set_option maxRecDepth 20000 in
theorem ggX2_waysToBeTrue_X2_addReader : GoodIn wsX2_waysToBeTrue wsX2_addReader := goodIn_r _ [73, 1, 74, 75, 76, 77, 78, 79, 80] (by decide +kernel) (by decide +kernel)
set_option maxRecDepth 20000 in
theorem gX2_waysToBeTrue_X2_addReader : GoodIn wsX2_waysToBeTrue (wsV RX2 111 RX2 yX2_addReader wsX2_addReader) := goodIn_app (goodIn_of _ (by decide +kernel)) ggX2_waysToBeTrue_X2_addReader
theorem dX2_waysToBeTrue_0 : decode cX2_waysToBeTrue 0 = .ok (.aload_n 0, 1) := by decide +kernel
theorem dX2_waysToBeTrue_1 : decode cX2_waysToBeTrue 1 = .ok (.getfield 46, 3) := by decide +kernel
theorem dX2_waysToBeTrue_4 : decode cX2_waysToBeTrue 4 = .ok (.iconst 0, 1) := by decide +kernel
theorem dX2_waysToBeTrue_5 : decode cX2_waysToBeTrue 5 = .ok (.iconst 1, 1) := by decide +kernel
theorem dX2_waysToBeTrue_6 : decode cX2_waysToBeTrue 6 = .ok (.iastore, 1) := by decide +kernel
theorem dX2_waysToBeTrue_7 : decode cX2_waysToBeTrue 7 = .ok (.iconst 0, 1) := by decide +kernel
theorem dX2_waysToBeTrue_8 : decode cX2_waysToBeTrue 8 = .ok (.istore 4, 2) := by decide +kernel
theorem dX2_waysToBeTrue_10 : decode cX2_waysToBeTrue 10 = .ok (.iload 4, 2) := by decide +kernel
theorem dX2_waysToBeTrue_12 : decode cX2_waysToBeTrue 12 = .ok (.aload_n 1, 1) := by decide +kernel
theorem dX2_waysToBeTrue_13 : decode cX2_waysToBeTrue 13 = .ok (.getfield 95, 3) := by decide +kernel
theorem dX2_waysToBeTrue_16 : decode cX2_waysToBeTrue 16 = .ok (.if_icmp .ge 23, 3) := by decide +kernel
theorem dX2_waysToBeTrue_19 : decode cX2_waysToBeTrue 19 = .ok (.aload_n 0, 1) := by decide +kernel
theorem dX2_waysToBeTrue_20 : decode cX2_waysToBeTrue 20 = .ok (.iload 4, 2) := by decide +kernel
theorem dX2_waysToBeTrue_22 : decode cX2_waysToBeTrue 22 = .ok (.aload_n 0, 1) := by decide +kernel
theorem dX2_waysToBeTrue_23 : decode cX2_waysToBeTrue 23 = .ok (.aload_n 1, 1) := by decide +kernel
theorem dX2_waysToBeTrue_24 : decode cX2_waysToBeTrue 24 = .ok (.iload 4, 2) := by decide +kernel
theorem dX2_waysToBeTrue_26 : decode cX2_waysToBeTrue 26 = .ok (.iload_n 3, 1) := by decide +kernel
theorem dX2_waysToBeTrue_27 : decode cX2_waysToBeTrue 27 = .ok (.invokevirtual 108, 3) := by decide +kernel
theorem dX2_waysToBeTrue_30 : decode cX2_waysToBeTrue 30 = .ok (.invokevirtual 111, 3) := by decide +kernel
theorem dX2_waysToBeTrue_33 : decode cX2_waysToBeTrue 33 = .ok (.iinc 4 1, 3) := by decide +kernel
theorem dX2_waysToBeTrue_36 : decode cX2_waysToBeTrue 36 = .ok (.goto (-26), 3) := by decide +kernel
theorem dX2_waysToBeTrue_39 : decode cX2_waysToBeTrue 39 = .ok (.iconst 0, 1) := by decide +kernel
theorem dX2_waysToBeTrue_40 : decode cX2_waysToBeTrue 40 = .ok (.istore 4, 2) := by decide +kernel
theorem dX2_waysToBeTrue_42 : decode cX2_waysToBeTrue 42 = .ok (.iload_n 2, 1) := by decide +kernel
theorem dX2_waysToBeTrue_43 : decode cX2_waysToBeTrue 43 = .ok (.istore 5, 2) := by decide +kernel
theorem dX2_waysToBeTrue_45 : decode cX2_waysToBeTrue 45 = .ok (.iload 5, 2) := by decide +kernel
theorem dX2_waysToBeTrue_47 : decode cX2_waysToBeTrue 47 = .ok (.aload_n 1, 1) := by decide +kernel
theorem dX2_waysToBeTrue_48 : decode cX2_waysToBeTrue 48 = .ok (.getfield 95, 3) := by decide +kernel
theorem dX2_waysToBeTrue_51 : decode cX2_waysToBeTrue 51 = .ok (.if_icmp .gt 21, 3) := by decide +kernel
theorem dX2_waysToBeTrue_54 : decode cX2_waysToBeTrue 54 = .ok (.iload 4, 2) := by decide +kernel
theorem dX2_waysToBeTrue_56 : decode cX2_waysToBeTrue 56 = .ok (.aload_n 0, 1) := by decide +kernel
theorem dX2_waysToBeTrue_57 : decode cX2_waysToBeTrue 57 = .ok (.getfield 46, 3) := by decide +kernel
theorem dX2_waysToBeTrue_60 : decode cX2_waysToBeTrue 60 = .ok (.iload 5, 2) := by decide +kernel
theorem dX2_waysToBeTrue_62 : decode cX2_waysToBeTrue 62 = .ok (.iaload, 1) := by decide +kernel
theorem dX2_waysToBeTrue_63 : decode cX2_waysToBeTrue 63 = .ok (.iadd, 1) := by decide +kernel
theorem dX2_waysToBeTrue_64 : decode cX2_waysToBeTrue 64 = .ok (.istore 4, 2) := by decide +kernel
theorem dX2_waysToBeTrue_66 : decode cX2_waysToBeTrue 66 = .ok (.iinc 5 1, 3) := by decide +kernel
theorem dX2_waysToBeTrue_69 : decode cX2_waysToBeTrue 69 = .ok (.goto (-24), 3) := by decide +kernel
theorem dX2_waysToBeTrue_72 : decode cX2_waysToBeTrue 72 = .ok (.iload 4, 2) := by decide +kernel
theorem dX2_waysToBeTrue_74 : decode cX2_waysToBeTrue 74 = .ok (.ireturn, 1) := by decide +kernel
theorem dX2_addReader_0 : decode cX2_addReader 0 = .ok (.aload_n 0, 1) := by decide +kernel
theorem dX2_addReader_1 : decode cX2_addReader 1 = .ok (.getfield 46, 3) := by decide +kernel
theorem dX2_addReader_4 : decode cX2_addReader 4 = .ok (.iload_n 1, 1) := by decide +kernel
theorem dX2_addReader_5 : decode cX2_addReader 5 = .ok (.iconst 1, 1) := by decide +kernel
theorem dX2_addReader_6 : decode cX2_addReader 6 = .ok (.iadd, 1) := by decide +kernel
theorem dX2_addReader_7 : decode cX2_addReader 7 = .ok (.aload_n 0, 1) := by decide +kernel
theorem dX2_addReader_8 : decode cX2_addReader 8 = .ok (.getfield 46, 3) := by decide +kernel
theorem dX2_addReader_11 : decode cX2_addReader 11 = .ok (.iload_n 1, 1) := by decide +kernel
theorem dX2_addReader_12 : decode cX2_addReader 12 = .ok (.iaload, 1) := by decide +kernel
theorem dX2_addReader_13 : decode cX2_addReader 13 = .ok (.iload_n 2, 1) := by decide +kernel
theorem dX2_addReader_14 : decode cX2_addReader 14 = .ok (.imul, 1) := by decide +kernel
theorem dX2_addReader_15 : decode cX2_addReader 15 = .ok (.iastore, 1) := by decide +kernel
theorem dX2_addReader_16 : decode cX2_addReader 16 = .ok (.iload_n 1, 1) := by decide +kernel
theorem dX2_addReader_17 : decode cX2_addReader 17 = .ok (.istore_n 3, 1) := by decide +kernel
theorem dX2_addReader_18 : decode cX2_addReader 18 = .ok (.iload_n 3, 1) := by decide +kernel
theorem dX2_addReader_19 : decode cX2_addReader 19 = .ok (.ifCond .le 37, 3) := by decide +kernel
theorem dX2_addReader_22 : decode cX2_addReader 22 = .ok (.aload_n 0, 1) := by decide +kernel
theorem dX2_addReader_23 : decode cX2_addReader 23 = .ok (.getfield 46, 3) := by decide +kernel
theorem dX2_addReader_26 : decode cX2_addReader 26 = .ok (.iload_n 3, 1) := by decide +kernel
theorem dX2_addReader_27 : decode cX2_addReader 27 = .ok (.aload_n 0, 1) := by decide +kernel
theorem dX2_addReader_28 : decode cX2_addReader 28 = .ok (.getfield 46, 3) := by decide +kernel
theorem dX2_addReader_31 : decode cX2_addReader 31 = .ok (.iload_n 3, 1) := by decide +kernel
theorem dX2_addReader_32 : decode cX2_addReader 32 = .ok (.iaload, 1) := by decide +kernel
theorem dX2_addReader_33 : decode cX2_addReader 33 = .ok (.bipush 10, 2) := by decide +kernel
theorem dX2_addReader_35 : decode cX2_addReader 35 = .ok (.iload_n 2, 1) := by decide +kernel
theorem dX2_addReader_36 : decode cX2_addReader 36 = .ok (.isub, 1) := by decide +kernel
theorem dX2_addReader_37 : decode cX2_addReader 37 = .ok (.imul, 1) := by decide +kernel
theorem dX2_addReader_38 : decode cX2_addReader 38 = .ok (.aload_n 0, 1) := by decide +kernel
theorem dX2_addReader_39 : decode cX2_addReader 39 = .ok (.getfield 46, 3) := by decide +kernel
theorem dX2_addReader_42 : decode cX2_addReader 42 = .ok (.iload_n 3, 1) := by decide +kernel
theorem dX2_addReader_43 : decode cX2_addReader 43 = .ok (.iconst 1, 1) := by decide +kernel
theorem dX2_addReader_44 : decode cX2_addReader 44 = .ok (.isub, 1) := by decide +kernel
theorem dX2_addReader_45 : decode cX2_addReader 45 = .ok (.iaload, 1) := by decide +kernel
theorem dX2_addReader_46 : decode cX2_addReader 46 = .ok (.iload_n 2, 1) := by decide +kernel
theorem dX2_addReader_47 : decode cX2_addReader 47 = .ok (.imul, 1) := by decide +kernel
theorem dX2_addReader_48 : decode cX2_addReader 48 = .ok (.iadd, 1) := by decide +kernel
theorem dX2_addReader_49 : decode cX2_addReader 49 = .ok (.iastore, 1) := by decide +kernel
theorem dX2_addReader_50 : decode cX2_addReader 50 = .ok (.iinc 3 (-1), 3) := by decide +kernel
theorem dX2_addReader_53 : decode cX2_addReader 53 = .ok (.goto (-35), 3) := by decide +kernel
theorem dX2_addReader_56 : decode cX2_addReader 56 = .ok (.aload_n 0, 1) := by decide +kernel
theorem dX2_addReader_57 : decode cX2_addReader 57 = .ok (.getfield 46, 3) := by decide +kernel
theorem dX2_addReader_60 : decode cX2_addReader 60 = .ok (.iconst 0, 1) := by decide +kernel
theorem dX2_addReader_61 : decode cX2_addReader 61 = .ok (.dup2, 1) := by decide +kernel
theorem dX2_addReader_62 : decode cX2_addReader 62 = .ok (.iaload, 1) := by decide +kernel
theorem dX2_addReader_63 : decode cX2_addReader 63 = .ok (.bipush 10, 2) := by decide +kernel
theorem dX2_addReader_65 : decode cX2_addReader 65 = .ok (.iload_n 2, 1) := by decide +kernel
theorem dX2_addReader_66 : decode cX2_addReader 66 = .ok (.isub, 1) := by decide +kernel
theorem dX2_addReader_67 : decode cX2_addReader 67 = .ok (.imul, 1) := by decide +kernel
theorem dX2_addReader_68 : decode cX2_addReader 68 = .ok (.iastore, 1) := by decide +kernel
theorem dX2_addReader_69 : decode cX2_addReader 69 = .ok (.return_, 1) := by decide +kernel
set_option maxRecDepth 20000 in
theorem ggX2_tenthsToBeTrue_X2_doneBehind : GoodIn wsX2_tenthsToBeTrue wsX2_doneBehind := goodIn_r _ [7, 8, 9, 10, 11, 12, 13, 14, 15, 16, 17, 6, 18, 19, 20, 21, 22, 23, 24, 25, 26, 27, 28, 29, 30, 31, 32, 33, 34, 35, 36, 37, 38, 39, 40, 41, 42, 43, 44, 45, 46, 47, 48, 49, 50, 51, 52, 53, 54, 55, 56, 57, 58, 59, 60, 61, 62, 63, 64, 65, 66, 67, 68, 69, 70, 71, 72, 73, 74, 75, 76, 77, 78] (by decide +kernel) (by decide +kernel)
set_option maxRecDepth 20000 in
theorem gX2_tenthsToBeTrue_X2_doneBehind : GoodIn wsX2_tenthsToBeTrue (wsV RX2 87 RX2 yX2_doneBehind wsX2_doneBehind) := goodIn_app (goodIn_of _ (by decide +kernel)) ggX2_tenthsToBeTrue_X2_doneBehind
theorem dX2_tenthsToBeTrue_0 : decode cX2_tenthsToBeTrue 0 = .ok (.aload_n 1, 1) := by decide +kernel
theorem dX2_tenthsToBeTrue_1 : decode cX2_tenthsToBeTrue 1 = .ok (.getfield 66, 3) := by decide +kernel
theorem dX2_tenthsToBeTrue_4 : decode cX2_tenthsToBeTrue 4 = .ok (.iload_n 2, 1) := by decide +kernel
theorem dX2_tenthsToBeTrue_5 : decode cX2_tenthsToBeTrue 5 = .ok (.iaload, 1) := by decide +kernel
theorem dX2_tenthsToBeTrue_6 : decode cX2_tenthsToBeTrue 6 = .ok (.istore 4, 2) := by decide +kernel
theorem dX2_tenthsToBeTrue_8 : decode cX2_tenthsToBeTrue 8 = .ok (.aload_n 1, 1) := by decide +kernel
theorem dX2_tenthsToBeTrue_9 : decode cX2_tenthsToBeTrue 9 = .ok (.getfield 69, 3) := by decide +kernel
theorem dX2_tenthsToBeTrue_12 : decode cX2_tenthsToBeTrue 12 = .ok (.iload_n 2, 1) := by decide +kernel
theorem dX2_tenthsToBeTrue_13 : decode cX2_tenthsToBeTrue 13 = .ok (.iaload, 1) := by decide +kernel
theorem dX2_tenthsToBeTrue_14 : decode cX2_tenthsToBeTrue 14 = .ok (.istore 5, 2) := by decide +kernel
theorem dX2_tenthsToBeTrue_16 : decode cX2_tenthsToBeTrue 16 = .ok (.iload 4, 2) := by decide +kernel
theorem dX2_tenthsToBeTrue_18 : decode cX2_tenthsToBeTrue 18 = .ok (.iload 5, 2) := by decide +kernel
theorem dX2_tenthsToBeTrue_20 : decode cX2_tenthsToBeTrue 20 = .ok (.if_icmp .ne 7, 3) := by decide +kernel
theorem dX2_tenthsToBeTrue_23 : decode cX2_tenthsToBeTrue 23 = .ok (.iload_n 3, 1) := by decide +kernel
theorem dX2_tenthsToBeTrue_24 : decode cX2_tenthsToBeTrue 24 = .ok (.goto 4, 3) := by decide +kernel
theorem dX2_tenthsToBeTrue_27 : decode cX2_tenthsToBeTrue 27 = .ok (.iconst 0, 1) := by decide +kernel
theorem dX2_tenthsToBeTrue_28 : decode cX2_tenthsToBeTrue 28 = .ok (.istore 6, 2) := by decide +kernel
theorem dX2_tenthsToBeTrue_30 : decode cX2_tenthsToBeTrue 30 = .ok (.aload_n 0, 1) := by decide +kernel
theorem dX2_tenthsToBeTrue_31 : decode cX2_tenthsToBeTrue 31 = .ok (.aload_n 1, 1) := by decide +kernel
theorem dX2_tenthsToBeTrue_32 : decode cX2_tenthsToBeTrue 32 = .ok (.iload_n 2, 1) := by decide +kernel
theorem dX2_tenthsToBeTrue_33 : decode cX2_tenthsToBeTrue 33 = .ok (.bipush 60, 2) := by decide +kernel
theorem dX2_tenthsToBeTrue_35 : decode cX2_tenthsToBeTrue 35 = .ok (.iload 4, 2) := by decide +kernel
theorem dX2_tenthsToBeTrue_37 : decode cX2_tenthsToBeTrue 37 = .ok (.iload 5, 2) := by decide +kernel
theorem dX2_tenthsToBeTrue_39 : decode cX2_tenthsToBeTrue 39 = .ok (.invokevirtual 87, 3) := by decide +kernel
theorem dX2_tenthsToBeTrue_42 : decode cX2_tenthsToBeTrue 42 = .ok (.iload 5, 2) := by decide +kernel
theorem dX2_tenthsToBeTrue_44 : decode cX2_tenthsToBeTrue 44 = .ok (.if_icmp .ne 10, 3) := by decide +kernel
theorem dX2_tenthsToBeTrue_47 : decode cX2_tenthsToBeTrue 47 = .ok (.bipush 10, 2) := by decide +kernel
theorem dX2_tenthsToBeTrue_49 : decode cX2_tenthsToBeTrue 49 = .ok (.iload_n 3, 1) := by decide +kernel
theorem dX2_tenthsToBeTrue_50 : decode cX2_tenthsToBeTrue 50 = .ok (.isub, 1) := by decide +kernel
theorem dX2_tenthsToBeTrue_51 : decode cX2_tenthsToBeTrue 51 = .ok (.goto 4, 3) := by decide +kernel
theorem dX2_tenthsToBeTrue_54 : decode cX2_tenthsToBeTrue 54 = .ok (.iconst 0, 1) := by decide +kernel
theorem dX2_tenthsToBeTrue_55 : decode cX2_tenthsToBeTrue 55 = .ok (.istore 7, 2) := by decide +kernel
theorem dX2_tenthsToBeTrue_57 : decode cX2_tenthsToBeTrue 57 = .ok (.iload 6, 2) := by decide +kernel
theorem dX2_tenthsToBeTrue_59 : decode cX2_tenthsToBeTrue 59 = .ok (.iload 7, 2) := by decide +kernel
theorem dX2_tenthsToBeTrue_61 : decode cX2_tenthsToBeTrue 61 = .ok (.iadd, 1) := by decide +kernel
theorem dX2_tenthsToBeTrue_62 : decode cX2_tenthsToBeTrue 62 = .ok (.ireturn, 1) := by decide +kernel
set_option maxRecDepth 20000 in
theorem ggX3_init_X7_init : GoodIn wsX3_init wsX7_init := goodIn_r _ [3, 4, 5, 6] (by decide +kernel) (by decide +kernel)
set_option maxRecDepth 20000 in
theorem gX3_init_X7_init_n1 : GoodIn wsX3_init (wsX7_init) := ggX3_init_X7_init
theorem dX3_init_0 : decode cX3_init 0 = .ok (.aload_n 0, 1) := by decide +kernel
theorem dX3_init_1 : decode cX3_init 1 = .ok (.invokespecial 1, 3) := by decide +kernel
theorem dX3_init_4 : decode cX3_init 4 = .ok (.return_, 1) := by decide +kernel
set_option maxRecDepth 20000 in
theorem ggX3_deedsOn_X11_least : GoodIn wsX3_deedsOn wsX11_least := goodIn_r _ [3] (by decide +kernel) (by decide +kernel)
set_option maxRecDepth 20000 in
theorem gX3_deedsOn_X11_least_n7 : GoodIn wsX3_deedsOn (wsX11_least) := ggX3_deedsOn_X11_least
theorem dX3_deedsOn_0 : decode cX3_deedsOn 0 = .ok (.iload_n 3, 1) := by decide +kernel
theorem dX3_deedsOn_1 : decode cX3_deedsOn 1 = .ok (.iload_n 2, 1) := by decide +kernel
theorem dX3_deedsOn_2 : decode cX3_deedsOn 2 = .ok (.iconst (-1), 1) := by decide +kernel
theorem dX3_deedsOn_3 : decode cX3_deedsOn 3 = .ok (.ixor, 1) := by decide +kernel
theorem dX3_deedsOn_4 : decode cX3_deedsOn 4 = .ok (.iand, 1) := by decide +kernel
theorem dX3_deedsOn_5 : decode cX3_deedsOn 5 = .ok (.invokestatic 7, 3) := by decide +kernel
theorem dX3_deedsOn_8 : decode cX3_deedsOn 8 = .ok (.ireturn, 1) := by decide +kernel
set_option maxRecDepth 20000 in
theorem ggX3_size_X9_leave : GoodIn wsX3_size wsX9_leave := goodIn_r _ [5, 6, 7, 51, 52] (by decide +kernel) (by decide +kernel)
set_option maxRecDepth 20000 in
theorem gX3_size_X9_leave : GoodIn wsX3_size (wsV RX3 13 RX9 yX9_leave wsX9_leave) := goodIn_app (goodIn_of _ (by decide +kernel)) ggX3_size_X9_leave
set_option maxRecDepth 20000 in
theorem ggX3_size_X7_size : GoodIn wsX3_size wsX7_size := goodIn_r _ [13, 14, 15, 2, 3, 4, 5, 6, 7, 16, 17, 18, 19, 20, 21, 22, 53, 54, 55, 56, 57, 58, 59, 60, 51, 52] (by decide +kernel) (by decide +kernel)
set_option maxRecDepth 20000 in
theorem gX3_size_X7_size_s19 : GoodIn wsX3_size (va_wsSU RX3 19 yX7_size wsX7_size) := goodIn_app (goodIn_of _ (by decide +kernel)) ggX3_size_X7_size
set_option maxRecDepth 20000 in
theorem ggX3_size_X3_mark : GoodIn wsX3_size wsX3_mark := goodIn_r _ [27, 28, 1, 2, 3, 4, 5, 6, 7, 29, 30, 10, 31, 12, 32, 15, 33, 17, 18, 19, 20, 21, 22, 53, 54, 55, 56, 57, 58, 59, 60, 51, 52] (by decide +kernel) (by decide +kernel)
set_option maxRecDepth 20000 in
theorem gX3_size_X3_mark : GoodIn wsX3_size (wsV RX3 23 RX3 yX3_mark wsX3_mark) := goodIn_app (goodIn_of _ (by decide +kernel)) ggX3_size_X3_mark
set_option maxRecDepth 20000 in
theorem ggX3_size_X5_mark : GoodIn wsX3_size wsX5_mark := goodIn_r _ [40, 41, 2, 3, 4, 5, 6, 7, 42, 35, 43, 24, 26, 27, 28, 1, 29, 30, 10, 31, 12, 32, 15, 33, 17, 18, 19, 20, 21, 22, 51, 52, 53, 54, 55, 56, 57, 58, 59, 60] (by decide +kernel) (by decide +kernel)
set_option maxRecDepth 20000 in
theorem gX3_size_X5_mark_u23X5 : GoodIn wsX3_size (va_wsO RX3 23 RX5 "NoticeWeek$Proud" ⟨"NoticeWeek$Proud", "mark", "(LNoticeWeek$Town;ILNoticeWeek$Trace;)I"⟩ yX5_mark wsX5_mark) := goodIn_app (goodIn_of _ (by decide +kernel)) ggX3_size_X5_mark
set_option maxRecDepth 20000 in
theorem ggX3_size_X10_mark : GoodIn wsX3_size wsX10_mark := goodIn_r _ [47, 48, 2, 3, 4, 5, 6, 7, 49, 35, 50, 24, 26, 27, 28, 1, 29, 30, 10, 31, 12, 32, 15, 33, 17, 18, 19, 20, 21, 22, 51, 52, 53, 54, 55, 56, 57, 58, 59, 60] (by decide +kernel) (by decide +kernel)
set_option maxRecDepth 20000 in
theorem gX3_size_X10_mark_u23X10 : GoodIn wsX3_size (va_wsO RX3 23 RX10 "NoticeWeek$Proud" ⟨"NoticeWeek$Proud", "mark", "(LNoticeWeek$Town;ILNoticeWeek$Trace;)I"⟩ yX10_mark wsX10_mark) := goodIn_app (goodIn_of _ (by decide +kernel)) ggX3_size_X10_mark
theorem dX3_size_0 : decode cX3_size 0 = .ok (.aload_n 3, 1) := by decide +kernel
theorem dX3_size_1 : decode cX3_size 1 = .ok (.bipush 11, 2) := by decide +kernel
theorem dX3_size_3 : decode cX3_size 3 = .ok (.invokevirtual 13, 3) := by decide +kernel
theorem dX3_size_6 : decode cX3_size 6 = .ok (.aload_n 0, 1) := by decide +kernel
theorem dX3_size_7 : decode cX3_size 7 = .ok (.aload_n 1, 1) := by decide +kernel
theorem dX3_size_8 : decode cX3_size 8 = .ok (.iload_n 2, 1) := by decide +kernel
theorem dX3_size_9 : decode cX3_size 9 = .ok (.aload_n 3, 1) := by decide +kernel
theorem dX3_size_10 : decode cX3_size 10 = .ok (.invokespecial 19, 3) := by decide +kernel
theorem dX3_size_13 : decode cX3_size 13 = .ok (.aload_n 0, 1) := by decide +kernel
theorem dX3_size_14 : decode cX3_size 14 = .ok (.aload_n 1, 1) := by decide +kernel
theorem dX3_size_15 : decode cX3_size 15 = .ok (.iload_n 2, 1) := by decide +kernel
theorem dX3_size_16 : decode cX3_size 16 = .ok (.aload_n 3, 1) := by decide +kernel
theorem dX3_size_17 : decode cX3_size 17 = .ok (.invokevirtual 23, 3) := by decide +kernel
theorem dX3_size_20 : decode cX3_size 20 = .ok (.iadd, 1) := by decide +kernel
theorem dX3_size_21 : decode cX3_size 21 = .ok (.ireturn, 1) := by decide +kernel
set_option maxRecDepth 20000 in
theorem ggX3_mark_X9_leave : GoodIn wsX3_mark wsX9_leave := goodIn_r _ [6, 7, 8, 31, 32] (by decide +kernel) (by decide +kernel)
set_option maxRecDepth 20000 in
theorem gX3_mark_X9_leave : GoodIn wsX3_mark (wsV RX3 13 RX9 yX9_leave wsX9_leave) := goodIn_app (goodIn_of _ (by decide +kernel)) ggX3_mark_X9_leave
set_option maxRecDepth 20000 in
theorem ggX3_mark_X7_mark : GoodIn wsX3_mark wsX7_mark := goodIn_r _ [14, 15, 3, 4, 5, 6, 7, 8, 31, 32] (by decide +kernel) (by decide +kernel)
set_option maxRecDepth 20000 in
theorem gX3_mark_X7_mark_s28 : GoodIn wsX3_mark (va_wsSU RX3 28 yX7_mark wsX7_mark) := goodIn_app (goodIn_of _ (by decide +kernel)) ggX3_mark_X7_mark
set_option maxRecDepth 20000 in
theorem ggX3_mark_J6_bitCount_0f7a4 : GoodIn wsX3_mark wsJ6_bitCount_0f7a4 := goodIn_r _ [19, 20, 21, 22] (by decide +kernel) (by decide +kernel)
set_option maxRecDepth 20000 in
theorem gX3_mark_J6_bitCount_0f7a4 : GoodIn wsX3_mark (va_wsS RX3 35 yJ6_bitCount_0f7a4 wsJ6_bitCount_0f7a4) := goodIn_app (goodIn_of _ (by decide +kernel)) ggX3_mark_J6_bitCount_0f7a4
theorem dX3_mark_0 : decode cX3_mark 0 = .ok (.aload_n 3, 1) := by decide +kernel
theorem dX3_mark_1 : decode cX3_mark 1 = .ok (.bipush 21, 2) := by decide +kernel
theorem dX3_mark_3 : decode cX3_mark 3 = .ok (.invokevirtual 13, 3) := by decide +kernel
theorem dX3_mark_6 : decode cX3_mark 6 = .ok (.aload_n 0, 1) := by decide +kernel
theorem dX3_mark_7 : decode cX3_mark 7 = .ok (.aload_n 1, 1) := by decide +kernel
theorem dX3_mark_8 : decode cX3_mark 8 = .ok (.iload_n 2, 1) := by decide +kernel
theorem dX3_mark_9 : decode cX3_mark 9 = .ok (.aload_n 3, 1) := by decide +kernel
theorem dX3_mark_10 : decode cX3_mark 10 = .ok (.invokespecial 28, 3) := by decide +kernel
theorem dX3_mark_13 : decode cX3_mark 13 = .ok (.aload_n 1, 1) := by decide +kernel
theorem dX3_mark_14 : decode cX3_mark 14 = .ok (.getfield 29, 3) := by decide +kernel
theorem dX3_mark_17 : decode cX3_mark 17 = .ok (.iload_n 2, 1) := by decide +kernel
theorem dX3_mark_18 : decode cX3_mark 18 = .ok (.iaload, 1) := by decide +kernel
theorem dX3_mark_19 : decode cX3_mark 19 = .ok (.invokestatic 35, 3) := by decide +kernel
theorem dX3_mark_22 : decode cX3_mark 22 = .ok (.iadd, 1) := by decide +kernel
theorem dX3_mark_23 : decode cX3_mark 23 = .ok (.ireturn, 1) := by decide +kernel
theorem dX4_init_0 : decode cX4_init 0 = .ok (.aload_n 0, 1) := by decide +kernel
theorem dX4_init_1 : decode cX4_init 1 = .ok (.invokespecial 1, 3) := by decide +kernel
theorem dX4_init_4 : decode cX4_init 4 = .ok (.aload_n 0, 1) := by decide +kernel
theorem dX4_init_5 : decode cX4_init 5 = .ok (.sipush 320, 3) := by decide +kernel
theorem dX4_init_8 : decode cX4_init 8 = .ok (.newarray .int, 2) := by decide +kernel
theorem dX4_init_10 : decode cX4_init 10 = .ok (.putfield 9, 3) := by decide +kernel
theorem dX4_init_13 : decode cX4_init 13 = .ok (.aload_n 0, 1) := by decide +kernel
theorem dX4_init_14 : decode cX4_init 14 = .ok (.bipush 8, 2) := by decide +kernel
theorem dX4_init_16 : decode cX4_init 16 = .ok (.newarray .int, 2) := by decide +kernel
theorem dX4_init_18 : decode cX4_init 18 = .ok (.putfield 13, 3) := by decide +kernel
theorem dX4_init_21 : decode cX4_init 21 = .ok (.aload_n 0, 1) := by decide +kernel
theorem dX4_init_22 : decode cX4_init 22 = .ok (.bipush 8, 2) := by decide +kernel
theorem dX4_init_24 : decode cX4_init 24 = .ok (.newarray .int, 2) := by decide +kernel
theorem dX4_init_26 : decode cX4_init 26 = .ok (.putfield 16, 3) := by decide +kernel
theorem dX4_init_29 : decode cX4_init 29 = .ok (.iconst 0, 1) := by decide +kernel
theorem dX4_init_30 : decode cX4_init 30 = .ok (.istore_n 1, 1) := by decide +kernel
theorem dX4_init_31 : decode cX4_init 31 = .ok (.iload_n 1, 1) := by decide +kernel
theorem dX4_init_32 : decode cX4_init 32 = .ok (.bipush 8, 2) := by decide +kernel
theorem dX4_init_34 : decode cX4_init 34 = .ok (.if_icmp .ge 16, 3) := by decide +kernel
theorem dX4_init_37 : decode cX4_init 37 = .ok (.aload_n 0, 1) := by decide +kernel
theorem dX4_init_38 : decode cX4_init 38 = .ok (.getfield 13, 3) := by decide +kernel
theorem dX4_init_41 : decode cX4_init 41 = .ok (.iload_n 1, 1) := by decide +kernel
theorem dX4_init_42 : decode cX4_init 42 = .ok (.iconst (-1), 1) := by decide +kernel
theorem dX4_init_43 : decode cX4_init 43 = .ok (.iastore, 1) := by decide +kernel
theorem dX4_init_44 : decode cX4_init 44 = .ok (.iinc 1 1, 3) := by decide +kernel
theorem dX4_init_47 : decode cX4_init 47 = .ok (.goto (-16), 3) := by decide +kernel
theorem dX4_init_50 : decode cX4_init 50 = .ok (.return_, 1) := by decide +kernel
theorem dX4_isRow_0 : decode cX4_isRow 0 = .ok (.iload_n 0, 1) := by decide +kernel
theorem dX4_isRow_1 : decode cX4_isRow 1 = .ok (.ifCond .lt 13, 3) := by decide +kernel
theorem dX4_isRow_4 : decode cX4_isRow 4 = .ok (.iload_n 0, 1) := by decide +kernel
theorem dX4_isRow_5 : decode cX4_isRow 5 = .ok (.bipush 8, 2) := by decide +kernel
theorem dX4_isRow_7 : decode cX4_isRow 7 = .ok (.if_icmp .ge 7, 3) := by decide +kernel
theorem dX4_isRow_10 : decode cX4_isRow 10 = .ok (.iconst 1, 1) := by decide +kernel
theorem dX4_isRow_11 : decode cX4_isRow 11 = .ok (.goto 4, 3) := by decide +kernel
theorem dX4_isRow_14 : decode cX4_isRow 14 = .ok (.iconst 0, 1) := by decide +kernel
theorem dX4_isRow_15 : decode cX4_isRow 15 = .ok (.ireturn, 1) := by decide +kernel
theorem dX4_isLane_0 : decode cX4_isLane 0 = .ok (.iload_n 0, 1) := by decide +kernel
theorem dX4_isLane_1 : decode cX4_isLane 1 = .ok (.ifCond .lt 12, 3) := by decide +kernel
theorem dX4_isLane_4 : decode cX4_isLane 4 = .ok (.iload_n 0, 1) := by decide +kernel
theorem dX4_isLane_5 : decode cX4_isLane 5 = .ok (.iconst 2, 1) := by decide +kernel
theorem dX4_isLane_6 : decode cX4_isLane 6 = .ok (.if_icmp .gt 7, 3) := by decide +kernel
theorem dX4_isLane_9 : decode cX4_isLane 9 = .ok (.iconst 1, 1) := by decide +kernel
theorem dX4_isLane_10 : decode cX4_isLane 10 = .ok (.goto 4, 3) := by decide +kernel
theorem dX4_isLane_13 : decode cX4_isLane 13 = .ok (.iconst 0, 1) := by decide +kernel
theorem dX4_isLane_14 : decode cX4_isLane 14 = .ok (.ireturn, 1) := by decide +kernel
theorem dX4_isMissing_0 : decode cX4_isMissing 0 = .ok (.aload_n 0, 1) := by decide +kernel
theorem dX4_isMissing_1 : decode cX4_isMissing 1 = .ok (.getfield 13, 3) := by decide +kernel
theorem dX4_isMissing_4 : decode cX4_isMissing 4 = .ok (.iload_n 1, 1) := by decide +kernel
theorem dX4_isMissing_5 : decode cX4_isMissing 5 = .ok (.iaload, 1) := by decide +kernel
theorem dX4_isMissing_6 : decode cX4_isMissing 6 = .ok (.iconst (-1), 1) := by decide +kernel
theorem dX4_isMissing_7 : decode cX4_isMissing 7 = .ok (.if_icmp .ne 7, 3) := by decide +kernel
theorem dX4_isMissing_10 : decode cX4_isMissing 10 = .ok (.iconst 1, 1) := by decide +kernel
theorem dX4_isMissing_11 : decode cX4_isMissing 11 = .ok (.goto 4, 3) := by decide +kernel
theorem dX4_isMissing_14 : decode cX4_isMissing 14 = .ok (.iconst 0, 1) := by decide +kernel
theorem dX4_isMissing_15 : decode cX4_isMissing 15 = .ok (.ireturn, 1) := by decide +kernel
theorem dX4_laneOf_0 : decode cX4_laneOf 0 = .ok (.aload_n 0, 1) := by decide +kernel
theorem dX4_laneOf_1 : decode cX4_laneOf 1 = .ok (.getfield 13, 3) := by decide +kernel
theorem dX4_laneOf_4 : decode cX4_laneOf 4 = .ok (.iload_n 1, 1) := by decide +kernel
theorem dX4_laneOf_5 : decode cX4_laneOf 5 = .ok (.iaload, 1) := by decide +kernel
theorem dX4_laneOf_6 : decode cX4_laneOf 6 = .ok (.ireturn, 1) := by decide +kernel
theorem dX4_sizeOf_0 : decode cX4_sizeOf 0 = .ok (.aload_n 0, 1) := by decide +kernel
theorem dX4_sizeOf_1 : decode cX4_sizeOf 1 = .ok (.getfield 16, 3) := by decide +kernel
theorem dX4_sizeOf_4 : decode cX4_sizeOf 4 = .ok (.iload_n 1, 1) := by decide +kernel
theorem dX4_sizeOf_5 : decode cX4_sizeOf 5 = .ok (.iaload, 1) := by decide +kernel
theorem dX4_sizeOf_6 : decode cX4_sizeOf 6 = .ok (.ireturn, 1) := by decide +kernel
theorem dX4_hasPlaces_0 : decode cX4_hasPlaces 0 = .ok (.iload_n 2, 1) := by decide +kernel
theorem dX4_hasPlaces_1 : decode cX4_hasPlaces 1 = .ok (.ifCond .lt 33, 3) := by decide +kernel
theorem dX4_hasPlaces_4 : decode cX4_hasPlaces 4 = .ok (.iload_n 3, 1) := by decide +kernel
theorem dX4_hasPlaces_5 : decode cX4_hasPlaces 5 = .ok (.ifCond .lt 29, 3) := by decide +kernel
theorem dX4_hasPlaces_8 : decode cX4_hasPlaces 8 = .ok (.iload_n 3, 1) := by decide +kernel
theorem dX4_hasPlaces_9 : decode cX4_hasPlaces 9 = .ok (.aload_n 0, 1) := by decide +kernel
theorem dX4_hasPlaces_10 : decode cX4_hasPlaces 10 = .ok (.getfield 16, 3) := by decide +kernel
theorem dX4_hasPlaces_13 : decode cX4_hasPlaces 13 = .ok (.iload_n 1, 1) := by decide +kernel
theorem dX4_hasPlaces_14 : decode cX4_hasPlaces 14 = .ok (.iaload, 1) := by decide +kernel
theorem dX4_hasPlaces_15 : decode cX4_hasPlaces 15 = .ok (.if_icmp .gt 19, 3) := by decide +kernel
theorem dX4_hasPlaces_18 : decode cX4_hasPlaces 18 = .ok (.iload_n 2, 1) := by decide +kernel
theorem dX4_hasPlaces_19 : decode cX4_hasPlaces 19 = .ok (.aload_n 0, 1) := by decide +kernel
theorem dX4_hasPlaces_20 : decode cX4_hasPlaces 20 = .ok (.getfield 16, 3) := by decide +kernel
theorem dX4_hasPlaces_23 : decode cX4_hasPlaces 23 = .ok (.iload_n 1, 1) := by decide +kernel
theorem dX4_hasPlaces_24 : decode cX4_hasPlaces 24 = .ok (.iaload, 1) := by decide +kernel
theorem dX4_hasPlaces_25 : decode cX4_hasPlaces 25 = .ok (.iload_n 3, 1) := by decide +kernel
theorem dX4_hasPlaces_26 : decode cX4_hasPlaces 26 = .ok (.isub, 1) := by decide +kernel
theorem dX4_hasPlaces_27 : decode cX4_hasPlaces 27 = .ok (.if_icmp .gt 7, 3) := by decide +kernel
theorem dX4_hasPlaces_30 : decode cX4_hasPlaces 30 = .ok (.iconst 1, 1) := by decide +kernel
theorem dX4_hasPlaces_31 : decode cX4_hasPlaces 31 = .ok (.goto 4, 3) := by decide +kernel
theorem dX4_hasPlaces_34 : decode cX4_hasPlaces 34 = .ok (.iconst 0, 1) := by decide +kernel
theorem dX4_hasPlaces_35 : decode cX4_hasPlaces 35 = .ok (.ireturn, 1) := by decide +kernel
theorem dX4_make_0 : decode cX4_make 0 = .ok (.aload_n 0, 1) := by decide +kernel
theorem dX4_make_1 : decode cX4_make 1 = .ok (.getfield 13, 3) := by decide +kernel
theorem dX4_make_4 : decode cX4_make 4 = .ok (.iload_n 1, 1) := by decide +kernel
theorem dX4_make_5 : decode cX4_make 5 = .ok (.iload_n 2, 1) := by decide +kernel
theorem dX4_make_6 : decode cX4_make 6 = .ok (.iastore, 1) := by decide +kernel
theorem dX4_make_7 : decode cX4_make 7 = .ok (.aload_n 0, 1) := by decide +kernel
theorem dX4_make_8 : decode cX4_make 8 = .ok (.getfield 16, 3) := by decide +kernel
theorem dX4_make_11 : decode cX4_make 11 = .ok (.iload_n 1, 1) := by decide +kernel
theorem dX4_make_12 : decode cX4_make 12 = .ok (.iload_n 3, 1) := by decide +kernel
theorem dX4_make_13 : decode cX4_make 13 = .ok (.iastore, 1) := by decide +kernel
theorem dX4_make_14 : decode cX4_make 14 = .ok (.iconst 0, 1) := by decide +kernel
theorem dX4_make_15 : decode cX4_make 15 = .ok (.istore 4, 2) := by decide +kernel
theorem dX4_make_17 : decode cX4_make 17 = .ok (.iload 4, 2) := by decide +kernel
theorem dX4_make_19 : decode cX4_make 19 = .ok (.iload_n 3, 1) := by decide +kernel
theorem dX4_make_20 : decode cX4_make 20 = .ok (.if_icmp .ge 22, 3) := by decide +kernel
theorem dX4_make_23 : decode cX4_make 23 = .ok (.aload_n 0, 1) := by decide +kernel
theorem dX4_make_24 : decode cX4_make 24 = .ok (.getfield 9, 3) := by decide +kernel
theorem dX4_make_27 : decode cX4_make 27 = .ok (.iload_n 1, 1) := by decide +kernel
theorem dX4_make_28 : decode cX4_make 28 = .ok (.bipush 40, 2) := by decide +kernel
theorem dX4_make_30 : decode cX4_make 30 = .ok (.imul, 1) := by decide +kernel
theorem dX4_make_31 : decode cX4_make 31 = .ok (.iload 4, 2) := by decide +kernel
theorem dX4_make_33 : decode cX4_make 33 = .ok (.iadd, 1) := by decide +kernel
theorem dX4_make_34 : decode cX4_make 34 = .ok (.iconst 0, 1) := by decide +kernel
theorem dX4_make_35 : decode cX4_make 35 = .ok (.iastore, 1) := by decide +kernel
theorem dX4_make_36 : decode cX4_make 36 = .ok (.iinc 4 1, 3) := by decide +kernel
theorem dX4_make_39 : decode cX4_make 39 = .ok (.goto (-22), 3) := by decide +kernel
theorem dX4_make_42 : decode cX4_make 42 = .ok (.return_, 1) := by decide +kernel
theorem dX4_lose_0 : decode cX4_lose 0 = .ok (.aload_n 0, 1) := by decide +kernel
theorem dX4_lose_1 : decode cX4_lose 1 = .ok (.getfield 13, 3) := by decide +kernel
theorem dX4_lose_4 : decode cX4_lose 4 = .ok (.iload_n 1, 1) := by decide +kernel
theorem dX4_lose_5 : decode cX4_lose 5 = .ok (.iconst (-1), 1) := by decide +kernel
theorem dX4_lose_6 : decode cX4_lose 6 = .ok (.iastore, 1) := by decide +kernel
theorem dX4_lose_7 : decode cX4_lose 7 = .ok (.aload_n 0, 1) := by decide +kernel
theorem dX4_lose_8 : decode cX4_lose 8 = .ok (.getfield 16, 3) := by decide +kernel
theorem dX4_lose_11 : decode cX4_lose 11 = .ok (.iload_n 1, 1) := by decide +kernel
theorem dX4_lose_12 : decode cX4_lose 12 = .ok (.iconst 0, 1) := by decide +kernel
theorem dX4_lose_13 : decode cX4_lose 13 = .ok (.iastore, 1) := by decide +kernel
theorem dX4_lose_14 : decode cX4_lose 14 = .ok (.return_, 1) := by decide +kernel
theorem dX4_put_0 : decode cX4_put 0 = .ok (.aload_n 0, 1) := by decide +kernel
theorem dX4_put_1 : decode cX4_put 1 = .ok (.getfield 13, 3) := by decide +kernel
theorem dX4_put_4 : decode cX4_put 4 = .ok (.iload_n 1, 1) := by decide +kernel
theorem dX4_put_5 : decode cX4_put 5 = .ok (.iaload, 1) := by decide +kernel
theorem dX4_put_6 : decode cX4_put 6 = .ok (.ifCond .ne 8, 3) := by decide +kernel
theorem dX4_put_9 : decode cX4_put 9 = .ok (.iload_n 3, 1) := by decide +kernel
theorem dX4_put_10 : decode cX4_put 10 = .ok (.i2b, 1) := by decide +kernel
theorem dX4_put_11 : decode cX4_put 11 = .ok (.goto 19, 3) := by decide +kernel
theorem dX4_put_14 : decode cX4_put 14 = .ok (.aload_n 0, 1) := by decide +kernel
theorem dX4_put_15 : decode cX4_put 15 = .ok (.getfield 13, 3) := by decide +kernel
theorem dX4_put_18 : decode cX4_put 18 = .ok (.iload_n 1, 1) := by decide +kernel
theorem dX4_put_19 : decode cX4_put 19 = .ok (.iaload, 1) := by decide +kernel
theorem dX4_put_20 : decode cX4_put 20 = .ok (.iconst 1, 1) := by decide +kernel
theorem dX4_put_21 : decode cX4_put 21 = .ok (.if_icmp .ne 8, 3) := by decide +kernel
theorem dX4_put_24 : decode cX4_put 24 = .ok (.iload_n 3, 1) := by decide +kernel
theorem dX4_put_25 : decode cX4_put 25 = .ok (.i2s, 1) := by decide +kernel
theorem dX4_put_26 : decode cX4_put 26 = .ok (.goto 4, 3) := by decide +kernel
theorem dX4_put_29 : decode cX4_put 29 = .ok (.iload_n 3, 1) := by decide +kernel
theorem dX4_put_30 : decode cX4_put 30 = .ok (.istore 4, 2) := by decide +kernel
theorem dX4_put_32 : decode cX4_put 32 = .ok (.aload_n 0, 1) := by decide +kernel
theorem dX4_put_33 : decode cX4_put 33 = .ok (.getfield 9, 3) := by decide +kernel
theorem dX4_put_36 : decode cX4_put 36 = .ok (.iload_n 1, 1) := by decide +kernel
theorem dX4_put_37 : decode cX4_put 37 = .ok (.bipush 40, 2) := by decide +kernel
theorem dX4_put_39 : decode cX4_put 39 = .ok (.imul, 1) := by decide +kernel
theorem dX4_put_40 : decode cX4_put 40 = .ok (.iload_n 2, 1) := by decide +kernel
theorem dX4_put_41 : decode cX4_put 41 = .ok (.iadd, 1) := by decide +kernel
theorem dX4_put_42 : decode cX4_put 42 = .ok (.iload 4, 2) := by decide +kernel
theorem dX4_put_44 : decode cX4_put 44 = .ok (.iastore, 1) := by decide +kernel
theorem dX4_put_45 : decode cX4_put 45 = .ok (.iload 4, 2) := by decide +kernel
theorem dX4_put_47 : decode cX4_put 47 = .ok (.ireturn, 1) := by decide +kernel
theorem dX4_move_0 : decode cX4_move 0 = .ok (.aload_n 0, 1) := by decide +kernel
theorem dX4_move_1 : decode cX4_move 1 = .ok (.getfield 9, 3) := by decide +kernel
theorem dX4_move_4 : decode cX4_move 4 = .ok (.iload_n 1, 1) := by decide +kernel
theorem dX4_move_5 : decode cX4_move 5 = .ok (.bipush 40, 2) := by decide +kernel
theorem dX4_move_7 : decode cX4_move 7 = .ok (.imul, 1) := by decide +kernel
theorem dX4_move_8 : decode cX4_move 8 = .ok (.iload_n 2, 1) := by decide +kernel
theorem dX4_move_9 : decode cX4_move 9 = .ok (.iadd, 1) := by decide +kernel
theorem dX4_move_10 : decode cX4_move 10 = .ok (.aload_n 0, 1) := by decide +kernel
theorem dX4_move_11 : decode cX4_move 11 = .ok (.getfield 9, 3) := by decide +kernel
theorem dX4_move_14 : decode cX4_move 14 = .ok (.iload_n 3, 1) := by decide +kernel
theorem dX4_move_15 : decode cX4_move 15 = .ok (.bipush 40, 2) := by decide +kernel
theorem dX4_move_17 : decode cX4_move 17 = .ok (.imul, 1) := by decide +kernel
theorem dX4_move_18 : decode cX4_move 18 = .ok (.iload 4, 2) := by decide +kernel
theorem dX4_move_20 : decode cX4_move 20 = .ok (.iadd, 1) := by decide +kernel
theorem dX4_move_21 : decode cX4_move 21 = .ok (.iload 5, 2) := by decide +kernel
theorem dX4_move_23 : decode cX4_move 23 = .ok (.invokestatic 19, 3) := by decide +kernel
theorem dX4_move_26 : decode cX4_move 26 = .ok (.return_, 1) := by decide +kernel
theorem dX4_tell_0 : decode cX4_tell 0 = .ok (.iconst 0, 1) := by decide +kernel
theorem dX4_tell_1 : decode cX4_tell 1 = .ok (.istore 5, 2) := by decide +kernel
theorem dX4_tell_3 : decode cX4_tell 3 = .ok (.iload 5, 2) := by decide +kernel
theorem dX4_tell_5 : decode cX4_tell 5 = .ok (.iload_n 3, 1) := by decide +kernel
theorem dX4_tell_6 : decode cX4_tell 6 = .ok (.if_icmp .ge 33, 3) := by decide +kernel
theorem dX4_tell_9 : decode cX4_tell 9 = .ok (.aload_n 0, 1) := by decide +kernel
theorem dX4_tell_10 : decode cX4_tell 10 = .ok (.getfield 9, 3) := by decide +kernel
theorem dX4_tell_13 : decode cX4_tell 13 = .ok (.iload_n 1, 1) := by decide +kernel
theorem dX4_tell_14 : decode cX4_tell 14 = .ok (.bipush 40, 2) := by decide +kernel
theorem dX4_tell_16 : decode cX4_tell 16 = .ok (.imul, 1) := by decide +kernel
theorem dX4_tell_17 : decode cX4_tell 17 = .ok (.iload_n 2, 1) := by decide +kernel
theorem dX4_tell_18 : decode cX4_tell 18 = .ok (.iadd, 1) := by decide +kernel
theorem dX4_tell_19 : decode cX4_tell 19 = .ok (.iload 5, 2) := by decide +kernel
theorem dX4_tell_21 : decode cX4_tell 21 = .ok (.iadd, 1) := by decide +kernel
theorem dX4_tell_22 : decode cX4_tell 22 = .ok (.iaload, 1) := by decide +kernel
theorem dX4_tell_23 : decode cX4_tell 23 = .ok (.aload 4, 2) := by decide +kernel
theorem dX4_tell_25 : decode cX4_tell 25 = .ok (.iload 5, 2) := by decide +kernel
theorem dX4_tell_27 : decode cX4_tell 27 = .ok (.iaload, 1) := by decide +kernel
theorem dX4_tell_28 : decode cX4_tell 28 = .ok (.if_icmp .eq 5, 3) := by decide +kernel
theorem dX4_tell_31 : decode cX4_tell 31 = .ok (.iconst 0, 1) := by decide +kernel
theorem dX4_tell_32 : decode cX4_tell 32 = .ok (.ireturn, 1) := by decide +kernel
theorem dX4_tell_33 : decode cX4_tell 33 = .ok (.iinc 5 1, 3) := by decide +kernel
theorem dX4_tell_36 : decode cX4_tell 36 = .ok (.goto (-33), 3) := by decide +kernel
theorem dX4_tell_39 : decode cX4_tell 39 = .ok (.iconst 1, 1) := by decide +kernel
theorem dX4_tell_40 : decode cX4_tell 40 = .ok (.ireturn, 1) := by decide +kernel
theorem dX4_present_0 : decode cX4_present 0 = .ok (.iconst 0, 1) := by decide +kernel
theorem dX4_present_1 : decode cX4_present 1 = .ok (.istore_n 1, 1) := by decide +kernel
theorem dX4_present_2 : decode cX4_present 2 = .ok (.iconst 0, 1) := by decide +kernel
theorem dX4_present_3 : decode cX4_present 3 = .ok (.istore_n 2, 1) := by decide +kernel
theorem dX4_present_4 : decode cX4_present 4 = .ok (.iload_n 2, 1) := by decide +kernel
theorem dX4_present_5 : decode cX4_present 5 = .ok (.bipush 8, 2) := by decide +kernel
theorem dX4_present_7 : decode cX4_present 7 = .ok (.if_icmp .ge 22, 3) := by decide +kernel
theorem dX4_present_10 : decode cX4_present 10 = .ok (.aload_n 0, 1) := by decide +kernel
theorem dX4_present_11 : decode cX4_present 11 = .ok (.getfield 13, 3) := by decide +kernel
theorem dX4_present_14 : decode cX4_present 14 = .ok (.iload_n 2, 1) := by decide +kernel
theorem dX4_present_15 : decode cX4_present 15 = .ok (.iaload, 1) := by decide +kernel
theorem dX4_present_16 : decode cX4_present 16 = .ok (.iconst (-1), 1) := by decide +kernel
theorem dX4_present_17 : decode cX4_present 17 = .ok (.if_icmp .eq 6, 3) := by decide +kernel
theorem dX4_present_20 : decode cX4_present 20 = .ok (.iinc 1 1, 3) := by decide +kernel
theorem dX4_present_23 : decode cX4_present 23 = .ok (.iinc 2 1, 3) := by decide +kernel
theorem dX4_present_26 : decode cX4_present 26 = .ok (.goto (-22), 3) := by decide +kernel
theorem dX4_present_29 : decode cX4_present 29 = .ok (.iload_n 1, 1) := by decide +kernel
theorem dX4_present_30 : decode cX4_present 30 = .ok (.ireturn, 1) := by decide +kernel
set_option maxRecDepth 20000 in
theorem ggX5_init_X3_init : GoodIn wsX5_init wsX3_init := goodIn_r _ [3, 4, 5, 6, 7, 8, 9] (by decide +kernel) (by decide +kernel)
set_option maxRecDepth 20000 in
theorem gX5_init_X3_init_n1 : GoodIn wsX5_init (wsX3_init) := ggX5_init_X3_init
theorem dX5_init_0 : decode cX5_init 0 = .ok (.aload_n 0, 1) := by decide +kernel
theorem dX5_init_1 : decode cX5_init 1 = .ok (.invokespecial 1, 3) := by decide +kernel
theorem dX5_init_4 : decode cX5_init 4 = .ok (.return_, 1) := by decide +kernel
set_option maxRecDepth 20000 in
theorem ggX5_deedsOn_J6_bitCount_0f7a4 : GoodIn wsX5_deedsOn wsJ6_bitCount_0f7a4 := goodIn_r _ [4, 5, 6, 7] (by decide +kernel) (by decide +kernel)
set_option maxRecDepth 20000 in
theorem gX5_deedsOn_J6_bitCount_0f7a4 : GoodIn wsX5_deedsOn (va_wsS RX5 7 yJ6_bitCount_0f7a4 wsJ6_bitCount_0f7a4) := goodIn_app (goodIn_of _ (by decide +kernel)) ggX5_deedsOn_J6_bitCount_0f7a4
set_option maxRecDepth 20000 in
theorem ggX5_deedsOn_X3_deedsOn : GoodIn wsX5_deedsOn wsX3_deedsOn := goodIn_r _ [13, 14, 15, 16] (by decide +kernel) (by decide +kernel)
set_option maxRecDepth 20000 in
theorem gX5_deedsOn_X3_deedsOn_s15 : GoodIn wsX5_deedsOn (va_wsSU RX5 15 yX3_deedsOn wsX3_deedsOn) := goodIn_app (goodIn_of _ (by decide +kernel)) ggX5_deedsOn_X3_deedsOn
theorem dX5_deedsOn_0 : decode cX5_deedsOn 0 = .ok (.iload_n 3, 1) := by decide +kernel
theorem dX5_deedsOn_1 : decode cX5_deedsOn 1 = .ok (.iload_n 2, 1) := by decide +kernel
theorem dX5_deedsOn_2 : decode cX5_deedsOn 2 = .ok (.iconst (-1), 1) := by decide +kernel
theorem dX5_deedsOn_3 : decode cX5_deedsOn 3 = .ok (.ixor, 1) := by decide +kernel
theorem dX5_deedsOn_4 : decode cX5_deedsOn 4 = .ok (.iand, 1) := by decide +kernel
theorem dX5_deedsOn_5 : decode cX5_deedsOn 5 = .ok (.invokestatic 7, 3) := by decide +kernel
theorem dX5_deedsOn_8 : decode cX5_deedsOn 8 = .ok (.iconst 2, 1) := by decide +kernel
theorem dX5_deedsOn_9 : decode cX5_deedsOn 9 = .ok (.if_icmp .gt 13, 3) := by decide +kernel
theorem dX5_deedsOn_12 : decode cX5_deedsOn 12 = .ok (.aload_n 0, 1) := by decide +kernel
theorem dX5_deedsOn_13 : decode cX5_deedsOn 13 = .ok (.iload_n 1, 1) := by decide +kernel
theorem dX5_deedsOn_14 : decode cX5_deedsOn 14 = .ok (.iload_n 2, 1) := by decide +kernel
theorem dX5_deedsOn_15 : decode cX5_deedsOn 15 = .ok (.iload_n 3, 1) := by decide +kernel
theorem dX5_deedsOn_16 : decode cX5_deedsOn 16 = .ok (.invokespecial 15, 3) := by decide +kernel
theorem dX5_deedsOn_19 : decode cX5_deedsOn 19 = .ok (.goto 4, 3) := by decide +kernel
theorem dX5_deedsOn_22 : decode cX5_deedsOn 22 = .ok (.iconst 0, 1) := by decide +kernel
theorem dX5_deedsOn_23 : decode cX5_deedsOn 23 = .ok (.ireturn, 1) := by decide +kernel
set_option maxRecDepth 20000 in
theorem ggX5_mark_X9_leave : GoodIn wsX5_mark wsX9_leave := goodIn_r _ [5, 6, 7, 30, 31] (by decide +kernel) (by decide +kernel)
set_option maxRecDepth 20000 in
theorem gX5_mark_X9_leave : GoodIn wsX5_mark (wsV RX5 19 RX9 yX9_leave wsX9_leave) := goodIn_app (goodIn_of _ (by decide +kernel)) ggX5_mark_X9_leave
set_option maxRecDepth 20000 in
theorem ggX5_mark_X3_mark : GoodIn wsX5_mark wsX3_mark := goodIn_r _ [13, 14, 15, 2, 3, 4, 5, 6, 7, 16, 17, 18, 19, 20, 21, 22, 23, 24, 25, 26, 27, 28, 29, 32, 33, 34, 35, 36, 37, 38, 39, 30, 31] (by decide +kernel) (by decide +kernel)
set_option maxRecDepth 20000 in
theorem gX5_mark_X3_mark_s25 : GoodIn wsX5_mark (va_wsSU RX5 25 yX3_mark wsX3_mark) := goodIn_app (goodIn_of _ (by decide +kernel)) ggX5_mark_X3_mark
theorem dX5_mark_0 : decode cX5_mark 0 = .ok (.aload_n 3, 1) := by decide +kernel
theorem dX5_mark_1 : decode cX5_mark 1 = .ok (.bipush 22, 2) := by decide +kernel
theorem dX5_mark_3 : decode cX5_mark 3 = .ok (.invokevirtual 19, 3) := by decide +kernel
theorem dX5_mark_6 : decode cX5_mark 6 = .ok (.aload_n 0, 1) := by decide +kernel
theorem dX5_mark_7 : decode cX5_mark 7 = .ok (.aload_n 1, 1) := by decide +kernel
theorem dX5_mark_8 : decode cX5_mark 8 = .ok (.iload_n 2, 1) := by decide +kernel
theorem dX5_mark_9 : decode cX5_mark 9 = .ok (.aload_n 3, 1) := by decide +kernel
theorem dX5_mark_10 : decode cX5_mark 10 = .ok (.invokespecial 25, 3) := by decide +kernel
theorem dX5_mark_13 : decode cX5_mark 13 = .ok (.sipush 1000, 3) := by decide +kernel
theorem dX5_mark_16 : decode cX5_mark 16 = .ok (.isub, 1) := by decide +kernel
theorem dX5_mark_17 : decode cX5_mark 17 = .ok (.ireturn, 1) := by decide +kernel
theorem dX6_init_0 : decode cX6_init 0 = .ok (.aload_n 0, 1) := by decide +kernel
theorem dX6_init_1 : decode cX6_init 1 = .ok (.invokespecial 3, 3) := by decide +kernel
theorem dX6_init_4 : decode cX6_init 4 = .ok (.aload_n 0, 1) := by decide +kernel
theorem dX6_init_5 : decode cX6_init 5 = .ok (.bipush 120, 2) := by decide +kernel
theorem dX6_init_7 : decode cX6_init 7 = .ok (.newarray .int, 2) := by decide +kernel
theorem dX6_init_9 : decode cX6_init 9 = .ok (.putfield 11, 3) := by decide +kernel
theorem dX6_init_12 : decode cX6_init 12 = .ok (.aload_n 0, 1) := by decide +kernel
theorem dX6_init_13 : decode cX6_init 13 = .ok (.iconst 0, 1) := by decide +kernel
theorem dX6_init_14 : decode cX6_init 14 = .ok (.putfield 15, 3) := by decide +kernel
theorem dX6_init_17 : decode cX6_init 17 = .ok (.aload_n 0, 1) := by decide +kernel
theorem dX6_init_18 : decode cX6_init 18 = .ok (.iconst 0, 1) := by decide +kernel
theorem dX6_init_19 : decode cX6_init 19 = .ok (.putfield 19, 3) := by decide +kernel
theorem dX6_init_22 : decode cX6_init 22 = .ok (.aload_n 0, 1) := by decide +kernel
theorem dX6_init_23 : decode cX6_init 23 = .ok (.iconst 0, 1) := by decide +kernel
theorem dX6_init_24 : decode cX6_init 24 = .ok (.putfield 22, 3) := by decide +kernel
theorem dX6_init_27 : decode cX6_init 27 = .ok (.aload_n 0, 1) := by decide +kernel
theorem dX6_init_28 : decode cX6_init 28 = .ok (.iconst 0, 1) := by decide +kernel
theorem dX6_init_29 : decode cX6_init 29 = .ok (.putfield 25, 3) := by decide +kernel
theorem dX6_init_32 : decode cX6_init 32 = .ok (.return_, 1) := by decide +kernel
theorem dX6_isFull_0 : decode cX6_isFull 0 = .ok (.aload_n 0, 1) := by decide +kernel
theorem dX6_isFull_1 : decode cX6_isFull 1 = .ok (.getfield 15, 3) := by decide +kernel
theorem dX6_isFull_4 : decode cX6_isFull 4 = .ok (.bipush 120, 2) := by decide +kernel
theorem dX6_isFull_6 : decode cX6_isFull 6 = .ok (.if_icmp .lt 7, 3) := by decide +kernel
theorem dX6_isFull_9 : decode cX6_isFull 9 = .ok (.iconst 1, 1) := by decide +kernel
theorem dX6_isFull_10 : decode cX6_isFull 10 = .ok (.goto 4, 3) := by decide +kernel
theorem dX6_isFull_13 : decode cX6_isFull 13 = .ok (.iconst 0, 1) := by decide +kernel
theorem dX6_isFull_14 : decode cX6_isFull 14 = .ok (.ireturn, 1) := by decide +kernel
theorem dX6_append_0 : decode cX6_append 0 = .ok (.aload_n 0, 1) := by decide +kernel
theorem dX6_append_1 : decode cX6_append 1 = .ok (.getfield 11, 3) := by decide +kernel
theorem dX6_append_4 : decode cX6_append 4 = .ok (.aload_n 0, 1) := by decide +kernel
theorem dX6_append_5 : decode cX6_append 5 = .ok (.getfield 15, 3) := by decide +kernel
theorem dX6_append_8 : decode cX6_append 8 = .ok (.iload_n 1, 1) := by decide +kernel
theorem dX6_append_9 : decode cX6_append 9 = .ok (.iastore, 1) := by decide +kernel
theorem dX6_append_10 : decode cX6_append 10 = .ok (.aload_n 0, 1) := by decide +kernel
theorem dX6_append_11 : decode cX6_append 11 = .ok (.dup, 1) := by decide +kernel
theorem dX6_append_12 : decode cX6_append 12 = .ok (.getfield 15, 3) := by decide +kernel
theorem dX6_append_15 : decode cX6_append 15 = .ok (.iconst 1, 1) := by decide +kernel
theorem dX6_append_16 : decode cX6_append 16 = .ok (.iadd, 1) := by decide +kernel
theorem dX6_append_17 : decode cX6_append 17 = .ok (.putfield 15, 3) := by decide +kernel
theorem dX6_append_20 : decode cX6_append 20 = .ok (.aload_n 0, 1) := by decide +kernel
theorem dX6_append_21 : decode cX6_append 21 = .ok (.getfield 15, 3) := by decide +kernel
theorem dX6_append_24 : decode cX6_append 24 = .ok (.ireturn, 1) := by decide +kernel
set_option maxRecDepth 20000 in
theorem ggX6_readInto_X8_clear : GoodIn wsX6_readInto wsX8_clear := goodIn_r _ [10, 11, 12, 13, 14, 54, 55, 56, 57, 58, 59, 60, 61] (by decide +kernel) (by decide +kernel)
set_option maxRecDepth 20000 in
theorem gX6_readInto_X8_clear : GoodIn wsX6_readInto (wsV RX6 28 RX8 yX8_clear wsX8_clear) := goodIn_app (goodIn_of _ (by decide +kernel)) ggX6_readInto_X8_clear
set_option maxRecDepth 20000 in
theorem ggX6_readInto_X6_readLaw : GoodIn wsX6_readInto wsX6_readLaw := goodIn_r _ [19, 20, 21, 22, 23, 18, 24, 2, 1, 3, 25, 26, 27, 28, 29, 30, 31, 32, 54, 55, 56, 57, 58, 59, 60, 61, 49, 50, 51, 52, 53] (by decide +kernel) (by decide +kernel)
set_option maxRecDepth 20000 in
theorem gX6_readInto_X6_readLaw : GoodIn wsX6_readInto (wsV RX6 33 RX6 yX6_readLaw wsX6_readLaw) := goodIn_app (goodIn_of _ (by decide +kernel)) ggX6_readInto_X6_readLaw
set_option maxRecDepth 20000 in
theorem ggX6_readInto_X6_readReader : GoodIn wsX6_readInto wsX6_readReader := goodIn_r _ [36, 1, 3, 25, 2, 37, 38, 39, 18, 40, 26, 27, 28, 29, 30, 31, 32, 21, 22, 23, 24, 41, 42, 43, 9, 44, 14, 45, 46, 47, 48, 49, 50, 51, 52, 53, 54, 55, 56, 57, 58, 59, 60, 61] (by decide +kernel) (by decide +kernel)
set_option maxRecDepth 20000 in
theorem gX6_readInto_X6_readReader : GoodIn wsX6_readInto (wsV RX6 37 RX6 yX6_readReader wsX6_readReader) := goodIn_app (goodIn_of _ (by decide +kernel)) ggX6_readInto_X6_readReader
theorem dX6_readInto_0 : decode cX6_readInto 0 = .ok (.aload_n 0, 1) := by decide +kernel
theorem dX6_readInto_1 : decode cX6_readInto 1 = .ok (.iconst 0, 1) := by decide +kernel
theorem dX6_readInto_2 : decode cX6_readInto 2 = .ok (.putfield 22, 3) := by decide +kernel
theorem dX6_readInto_5 : decode cX6_readInto 5 = .ok (.aload_n 0, 1) := by decide +kernel
theorem dX6_readInto_6 : decode cX6_readInto 6 = .ok (.iconst 0, 1) := by decide +kernel
theorem dX6_readInto_7 : decode cX6_readInto 7 = .ok (.putfield 25, 3) := by decide +kernel
theorem dX6_readInto_10 : decode cX6_readInto 10 = .ok (.aload_n 1, 1) := by decide +kernel
theorem dX6_readInto_11 : decode cX6_readInto 11 = .ok (.invokevirtual 28, 3) := by decide +kernel
theorem dX6_readInto_14 : decode cX6_readInto 14 = .ok (.aload_n 0, 1) := by decide +kernel
theorem dX6_readInto_15 : decode cX6_readInto 15 = .ok (.aload_n 1, 1) := by decide +kernel
theorem dX6_readInto_16 : decode cX6_readInto 16 = .ok (.invokevirtual 33, 3) := by decide +kernel
theorem dX6_readInto_19 : decode cX6_readInto 19 = .ok (.iconst 0, 1) := by decide +kernel
theorem dX6_readInto_20 : decode cX6_readInto 20 = .ok (.istore_n 2, 1) := by decide +kernel
theorem dX6_readInto_21 : decode cX6_readInto 21 = .ok (.iload_n 2, 1) := by decide +kernel
theorem dX6_readInto_22 : decode cX6_readInto 22 = .ok (.bipush 6, 2) := by decide +kernel
theorem dX6_readInto_24 : decode cX6_readInto 24 = .ok (.if_icmp .gt 32, 3) := by decide +kernel
theorem dX6_readInto_27 : decode cX6_readInto 27 = .ok (.aload_n 0, 1) := by decide +kernel
theorem dX6_readInto_28 : decode cX6_readInto 28 = .ok (.getfield 25, 3) := by decide +kernel
theorem dX6_readInto_31 : decode cX6_readInto 31 = .ok (.ifCond .ne 25, 3) := by decide +kernel
theorem dX6_readInto_34 : decode cX6_readInto 34 = .ok (.aload_n 0, 1) := by decide +kernel
theorem dX6_readInto_35 : decode cX6_readInto 35 = .ok (.getfield 22, 3) := by decide +kernel
theorem dX6_readInto_38 : decode cX6_readInto 38 = .ok (.aload_n 0, 1) := by decide +kernel
theorem dX6_readInto_39 : decode cX6_readInto 39 = .ok (.getfield 15, 3) := by decide +kernel
theorem dX6_readInto_42 : decode cX6_readInto 42 = .ok (.if_icmp .ge 14, 3) := by decide +kernel
theorem dX6_readInto_45 : decode cX6_readInto 45 = .ok (.aload_n 0, 1) := by decide +kernel
theorem dX6_readInto_46 : decode cX6_readInto 46 = .ok (.aload_n 1, 1) := by decide +kernel
theorem dX6_readInto_47 : decode cX6_readInto 47 = .ok (.invokevirtual 37, 3) := by decide +kernel
theorem dX6_readInto_50 : decode cX6_readInto 50 = .ok (.iinc 2 1, 3) := by decide +kernel
theorem dX6_readInto_53 : decode cX6_readInto 53 = .ok (.goto (-32), 3) := by decide +kernel
theorem dX6_readInto_56 : decode cX6_readInto 56 = .ok (.aload_n 0, 1) := by decide +kernel
theorem dX6_readInto_57 : decode cX6_readInto 57 = .ok (.iconst 0, 1) := by decide +kernel
theorem dX6_readInto_58 : decode cX6_readInto 58 = .ok (.putfield 15, 3) := by decide +kernel
theorem dX6_readInto_61 : decode cX6_readInto 61 = .ok (.aload_n 0, 1) := by decide +kernel
theorem dX6_readInto_62 : decode cX6_readInto 62 = .ok (.getfield 25, 3) := by decide +kernel
theorem dX6_readInto_65 : decode cX6_readInto 65 = .ok (.ifCond .eq 16, 3) := by decide +kernel
theorem dX6_readInto_68 : decode cX6_readInto 68 = .ok (.aload_n 0, 1) := by decide +kernel
theorem dX6_readInto_69 : decode cX6_readInto 69 = .ok (.aload_n 0, 1) := by decide +kernel
theorem dX6_readInto_70 : decode cX6_readInto 70 = .ok (.getfield 25, 3) := by decide +kernel
theorem dX6_readInto_73 : decode cX6_readInto 73 = .ok (.putfield 19, 3) := by decide +kernel
theorem dX6_readInto_76 : decode cX6_readInto 76 = .ok (.aload_n 0, 1) := by decide +kernel
theorem dX6_readInto_77 : decode cX6_readInto 77 = .ok (.getfield 22, 3) := by decide +kernel
theorem dX6_readInto_80 : decode cX6_readInto 80 = .ok (.ireturn, 1) := by decide +kernel
theorem dX6_readInto_81 : decode cX6_readInto 81 = .ok (.aload_n 1, 1) := by decide +kernel
theorem dX6_readInto_82 : decode cX6_readInto 82 = .ok (.iconst 1, 1) := by decide +kernel
theorem dX6_readInto_83 : decode cX6_readInto 83 = .ok (.putfield 40, 3) := by decide +kernel
theorem dX6_readInto_86 : decode cX6_readInto 86 = .ok (.iconst (-1), 1) := by decide +kernel
theorem dX6_readInto_87 : decode cX6_readInto 87 = .ok (.ireturn, 1) := by decide +kernel
set_option maxRecDepth 20000 in
theorem ggX6_readLaw_X6_takeSign : GoodIn wsX6_readLaw wsX6_takeSign := goodIn_r _ [6, 7, 8, 9, 10, 26, 27, 28, 29, 30] (by decide +kernel) (by decide +kernel)
set_option maxRecDepth 20000 in
theorem gX6_readLaw_X6_takeSign : GoodIn wsX6_readLaw (wsV RX6 44 RX6 yX6_takeSign wsX6_takeSign) := goodIn_app (goodIn_of _ (by decide +kernel)) ggX6_readLaw_X6_takeSign
set_option maxRecDepth 20000 in
theorem ggX6_readLaw_X6_takeNumber : GoodIn wsX6_readLaw wsX6_takeNumber := goodIn_r _ [14, 7, 8, 9, 10, 15, 16, 5, 17, 26, 27, 28, 29, 30] (by decide +kernel) (by decide +kernel)
set_option maxRecDepth 20000 in
theorem gX6_readLaw_X6_takeNumber : GoodIn wsX6_readLaw (wsV RX6 48 RX6 yX6_takeNumber wsX6_takeNumber) := goodIn_app (goodIn_of _ (by decide +kernel)) ggX6_readLaw_X6_takeNumber
theorem dX6_readLaw_0 : decode cX6_readLaw 0 = .ok (.aload_n 0, 1) := by decide +kernel
theorem dX6_readLaw_1 : decode cX6_readLaw 1 = .ok (.bipush 119, 2) := by decide +kernel
theorem dX6_readLaw_3 : decode cX6_readLaw 3 = .ok (.invokevirtual 44, 3) := by decide +kernel
theorem dX6_readLaw_6 : decode cX6_readLaw 6 = .ok (.aload_n 1, 1) := by decide +kernel
theorem dX6_readLaw_7 : decode cX6_readLaw 7 = .ok (.aload_n 0, 1) := by decide +kernel
theorem dX6_readLaw_8 : decode cX6_readLaw 8 = .ok (.bipush 36, 2) := by decide +kernel
theorem dX6_readLaw_10 : decode cX6_readLaw 10 = .ok (.invokevirtual 48, 3) := by decide +kernel
theorem dX6_readLaw_13 : decode cX6_readLaw 13 = .ok (.putfield 52, 3) := by decide +kernel
theorem dX6_readLaw_16 : decode cX6_readLaw 16 = .ok (.aload_n 0, 1) := by decide +kernel
theorem dX6_readLaw_17 : decode cX6_readLaw 17 = .ok (.bipush 59, 2) := by decide +kernel
theorem dX6_readLaw_19 : decode cX6_readLaw 19 = .ok (.invokevirtual 44, 3) := by decide +kernel
theorem dX6_readLaw_22 : decode cX6_readLaw 22 = .ok (.return_, 1) := by decide +kernel
set_option maxRecDepth 20000 in
theorem ggX6_readReader_X6_kindOfSort : GoodIn wsX6_readReader wsX6_kindOfSort := goodIn_r _ [9] (by decide +kernel) (by decide +kernel)
set_option maxRecDepth 20000 in
theorem gX6_readReader_X6_kindOfSort : GoodIn wsX6_readReader (va_wsS RX6 55 yX6_kindOfSort wsX6_kindOfSort) := goodIn_app (goodIn_of _ (by decide +kernel)) ggX6_readReader_X6_kindOfSort
set_option maxRecDepth 20000 in
theorem ggX6_readReader_X6_takeNumber : GoodIn wsX6_readReader wsX6_takeNumber := goodIn_r _ [13, 4, 1, 2, 3, 14, 15, 8, 16, 31, 32, 33, 34, 35] (by decide +kernel) (by decide +kernel)
set_option maxRecDepth 20000 in
theorem gX6_readReader_X6_takeNumber : GoodIn wsX6_readReader (wsV RX6 48 RX6 yX6_takeNumber wsX6_takeNumber) := goodIn_app (goodIn_of _ (by decide +kernel)) ggX6_readReader_X6_takeNumber
set_option maxRecDepth 20000 in
theorem ggX6_readReader_X6_takeSign : GoodIn wsX6_readReader wsX6_takeSign := goodIn_r _ [20, 4, 1, 2, 3, 31, 32, 33, 34, 35] (by decide +kernel) (by decide +kernel)
set_option maxRecDepth 20000 in
theorem gX6_readReader_X6_takeSign : GoodIn wsX6_readReader (wsV RX6 44 RX6 yX6_takeSign wsX6_takeSign) := goodIn_app (goodIn_of _ (by decide +kernel)) ggX6_readReader_X6_takeSign
set_option maxRecDepth 20000 in
theorem ggX6_readReader_X8_add : GoodIn wsX6_readReader wsX8_add := goodIn_r _ [25, 26, 27, 28, 29, 30, 36, 37, 38, 39, 40, 41, 42, 43] (by decide +kernel) (by decide +kernel)
set_option maxRecDepth 20000 in
theorem gX6_readReader_X8_add : GoodIn wsX6_readReader (wsV RX6 61 RX8 yX8_add wsX8_add) := goodIn_app (goodIn_of _ (by decide +kernel)) ggX6_readReader_X8_add
theorem dX6_readReader_0 : decode cX6_readReader 0 = .ok (.aload_n 0, 1) := by decide +kernel
theorem dX6_readReader_1 : decode cX6_readReader 1 = .ok (.getfield 22, 3) := by decide +kernel
theorem dX6_readReader_4 : decode cX6_readReader 4 = .ok (.aload_n 0, 1) := by decide +kernel
theorem dX6_readReader_5 : decode cX6_readReader 5 = .ok (.getfield 15, 3) := by decide +kernel
theorem dX6_readReader_8 : decode cX6_readReader 8 = .ok (.if_icmp .ge 18, 3) := by decide +kernel
theorem dX6_readReader_11 : decode cX6_readReader 11 = .ok (.aload_n 0, 1) := by decide +kernel
theorem dX6_readReader_12 : decode cX6_readReader 12 = .ok (.getfield 11, 3) := by decide +kernel
theorem dX6_readReader_15 : decode cX6_readReader 15 = .ok (.aload_n 0, 1) := by decide +kernel
theorem dX6_readReader_16 : decode cX6_readReader 16 = .ok (.getfield 22, 3) := by decide +kernel
theorem dX6_readReader_19 : decode cX6_readReader 19 = .ok (.iaload, 1) := by decide +kernel
theorem dX6_readReader_20 : decode cX6_readReader 20 = .ok (.invokestatic 55, 3) := by decide +kernel
theorem dX6_readReader_23 : decode cX6_readReader 23 = .ok (.goto 4, 3) := by decide +kernel
theorem dX6_readReader_26 : decode cX6_readReader 26 = .ok (.iconst 0, 1) := by decide +kernel
theorem dX6_readReader_27 : decode cX6_readReader 27 = .ok (.istore_n 2, 1) := by decide +kernel
theorem dX6_readReader_28 : decode cX6_readReader 28 = .ok (.iload_n 2, 1) := by decide +kernel
theorem dX6_readReader_29 : decode cX6_readReader 29 = .ok (.ifCond .ne 9, 3) := by decide +kernel
theorem dX6_readReader_32 : decode cX6_readReader 32 = .ok (.aload_n 0, 1) := by decide +kernel
theorem dX6_readReader_33 : decode cX6_readReader 33 = .ok (.iconst 1, 1) := by decide +kernel
theorem dX6_readReader_34 : decode cX6_readReader 34 = .ok (.putfield 25, 3) := by decide +kernel
theorem dX6_readReader_37 : decode cX6_readReader 37 = .ok (.return_, 1) := by decide +kernel
theorem dX6_readReader_38 : decode cX6_readReader 38 = .ok (.aload_n 1, 1) := by decide +kernel
theorem dX6_readReader_39 : decode cX6_readReader 39 = .ok (.getfield 58, 3) := by decide +kernel
theorem dX6_readReader_42 : decode cX6_readReader 42 = .ok (.bipush 6, 2) := by decide +kernel
theorem dX6_readReader_44 : decode cX6_readReader 44 = .ok (.if_icmp .lt 9, 3) := by decide +kernel
theorem dX6_readReader_47 : decode cX6_readReader 47 = .ok (.aload_n 0, 1) := by decide +kernel
theorem dX6_readReader_48 : decode cX6_readReader 48 = .ok (.iconst 3, 1) := by decide +kernel
theorem dX6_readReader_49 : decode cX6_readReader 49 = .ok (.putfield 25, 3) := by decide +kernel
theorem dX6_readReader_52 : decode cX6_readReader 52 = .ok (.return_, 1) := by decide +kernel
theorem dX6_readReader_53 : decode cX6_readReader 53 = .ok (.aload_n 0, 1) := by decide +kernel
theorem dX6_readReader_54 : decode cX6_readReader 54 = .ok (.dup, 1) := by decide +kernel
theorem dX6_readReader_55 : decode cX6_readReader 55 = .ok (.getfield 22, 3) := by decide +kernel
theorem dX6_readReader_58 : decode cX6_readReader 58 = .ok (.iconst 1, 1) := by decide +kernel
theorem dX6_readReader_59 : decode cX6_readReader 59 = .ok (.iadd, 1) := by decide +kernel
theorem dX6_readReader_60 : decode cX6_readReader 60 = .ok (.putfield 22, 3) := by decide +kernel
theorem dX6_readReader_63 : decode cX6_readReader 63 = .ok (.aload_n 0, 1) := by decide +kernel
theorem dX6_readReader_64 : decode cX6_readReader 64 = .ok (.bipush 63, 2) := by decide +kernel
theorem dX6_readReader_66 : decode cX6_readReader 66 = .ok (.invokevirtual 48, 3) := by decide +kernel
theorem dX6_readReader_69 : decode cX6_readReader 69 = .ok (.istore_n 3, 1) := by decide +kernel
theorem dX6_readReader_70 : decode cX6_readReader 70 = .ok (.aload_n 0, 1) := by decide +kernel
theorem dX6_readReader_71 : decode cX6_readReader 71 = .ok (.bipush 44, 2) := by decide +kernel
theorem dX6_readReader_73 : decode cX6_readReader 73 = .ok (.invokevirtual 44, 3) := by decide +kernel
theorem dX6_readReader_76 : decode cX6_readReader 76 = .ok (.aload_n 0, 1) := by decide +kernel
theorem dX6_readReader_77 : decode cX6_readReader 77 = .ok (.bipush 63, 2) := by decide +kernel
theorem dX6_readReader_79 : decode cX6_readReader 79 = .ok (.invokevirtual 48, 3) := by decide +kernel
theorem dX6_readReader_82 : decode cX6_readReader 82 = .ok (.istore 4, 2) := by decide +kernel
theorem dX6_readReader_84 : decode cX6_readReader 84 = .ok (.aload_n 0, 1) := by decide +kernel
theorem dX6_readReader_85 : decode cX6_readReader 85 = .ok (.bipush 44, 2) := by decide +kernel
theorem dX6_readReader_87 : decode cX6_readReader 87 = .ok (.invokevirtual 44, 3) := by decide +kernel
theorem dX6_readReader_90 : decode cX6_readReader 90 = .ok (.aload_n 0, 1) := by decide +kernel
theorem dX6_readReader_91 : decode cX6_readReader 91 = .ok (.bipush 60, 2) := by decide +kernel
theorem dX6_readReader_93 : decode cX6_readReader 93 = .ok (.invokevirtual 48, 3) := by decide +kernel
theorem dX6_readReader_96 : decode cX6_readReader 96 = .ok (.istore 5, 2) := by decide +kernel
theorem dX6_readReader_98 : decode cX6_readReader 98 = .ok (.aload_n 0, 1) := by decide +kernel
theorem dX6_readReader_99 : decode cX6_readReader 99 = .ok (.bipush 59, 2) := by decide +kernel
theorem dX6_readReader_101 : decode cX6_readReader 101 = .ok (.invokevirtual 44, 3) := by decide +kernel
theorem dX6_readReader_104 : decode cX6_readReader 104 = .ok (.aload_n 0, 1) := by decide +kernel
theorem dX6_readReader_105 : decode cX6_readReader 105 = .ok (.getfield 25, 3) := by decide +kernel
theorem dX6_readReader_108 : decode cX6_readReader 108 = .ok (.ifCond .ne 13, 3) := by decide +kernel
theorem dX6_readReader_111 : decode cX6_readReader 111 = .ok (.aload_n 1, 1) := by decide +kernel
theorem dX6_readReader_112 : decode cX6_readReader 112 = .ok (.iload_n 2, 1) := by decide +kernel
theorem dX6_readReader_113 : decode cX6_readReader 113 = .ok (.iload_n 3, 1) := by decide +kernel
theorem dX6_readReader_114 : decode cX6_readReader 114 = .ok (.iload 4, 2) := by decide +kernel
theorem dX6_readReader_116 : decode cX6_readReader 116 = .ok (.iload 5, 2) := by decide +kernel
theorem dX6_readReader_118 : decode cX6_readReader 118 = .ok (.invokevirtual 61, 3) := by decide +kernel
theorem dX6_readReader_121 : decode cX6_readReader 121 = .ok (.return_, 1) := by decide +kernel
theorem dX6_kindOfSort_0 : decode cX6_kindOfSort 0 = .ok (.iload_n 0, 1) := by decide +kernel
theorem dX6_kindOfSort_1 : decode cX6_kindOfSort 1 = .ok (.lookupswitch 61 #[(99, 57), (107, 59), (112, 51), (115, 55), (118, 53)], 51) := by decide +kernel
theorem dX6_kindOfSort_52 : decode cX6_kindOfSort 52 = .ok (.iconst 1, 1) := by decide +kernel
theorem dX6_kindOfSort_53 : decode cX6_kindOfSort 53 = .ok (.ireturn, 1) := by decide +kernel
theorem dX6_kindOfSort_54 : decode cX6_kindOfSort 54 = .ok (.iconst 2, 1) := by decide +kernel
theorem dX6_kindOfSort_55 : decode cX6_kindOfSort 55 = .ok (.ireturn, 1) := by decide +kernel
theorem dX6_kindOfSort_56 : decode cX6_kindOfSort 56 = .ok (.iconst 3, 1) := by decide +kernel
theorem dX6_kindOfSort_57 : decode cX6_kindOfSort 57 = .ok (.ireturn, 1) := by decide +kernel
theorem dX6_kindOfSort_58 : decode cX6_kindOfSort 58 = .ok (.iconst 4, 1) := by decide +kernel
theorem dX6_kindOfSort_59 : decode cX6_kindOfSort 59 = .ok (.ireturn, 1) := by decide +kernel
theorem dX6_kindOfSort_60 : decode cX6_kindOfSort 60 = .ok (.iconst 5, 1) := by decide +kernel
theorem dX6_kindOfSort_61 : decode cX6_kindOfSort 61 = .ok (.ireturn, 1) := by decide +kernel
theorem dX6_kindOfSort_62 : decode cX6_kindOfSort 62 = .ok (.iconst 0, 1) := by decide +kernel
theorem dX6_kindOfSort_63 : decode cX6_kindOfSort 63 = .ok (.ireturn, 1) := by decide +kernel
theorem dX6_takeSign_0 : decode cX6_takeSign 0 = .ok (.aload_n 0, 1) := by decide +kernel
theorem dX6_takeSign_1 : decode cX6_takeSign 1 = .ok (.getfield 25, 3) := by decide +kernel
theorem dX6_takeSign_4 : decode cX6_takeSign 4 = .ok (.ifCond .eq 4, 3) := by decide +kernel
theorem dX6_takeSign_7 : decode cX6_takeSign 7 = .ok (.return_, 1) := by decide +kernel
theorem dX6_takeSign_8 : decode cX6_takeSign 8 = .ok (.aload_n 0, 1) := by decide +kernel
theorem dX6_takeSign_9 : decode cX6_takeSign 9 = .ok (.getfield 22, 3) := by decide +kernel
theorem dX6_takeSign_12 : decode cX6_takeSign 12 = .ok (.aload_n 0, 1) := by decide +kernel
theorem dX6_takeSign_13 : decode cX6_takeSign 13 = .ok (.getfield 15, 3) := by decide +kernel
theorem dX6_takeSign_16 : decode cX6_takeSign 16 = .ok (.if_icmp .ge 29, 3) := by decide +kernel
theorem dX6_takeSign_19 : decode cX6_takeSign 19 = .ok (.aload_n 0, 1) := by decide +kernel
theorem dX6_takeSign_20 : decode cX6_takeSign 20 = .ok (.getfield 11, 3) := by decide +kernel
theorem dX6_takeSign_23 : decode cX6_takeSign 23 = .ok (.aload_n 0, 1) := by decide +kernel
theorem dX6_takeSign_24 : decode cX6_takeSign 24 = .ok (.getfield 22, 3) := by decide +kernel
theorem dX6_takeSign_27 : decode cX6_takeSign 27 = .ok (.iaload, 1) := by decide +kernel
theorem dX6_takeSign_28 : decode cX6_takeSign 28 = .ok (.iload_n 1, 1) := by decide +kernel
theorem dX6_takeSign_29 : decode cX6_takeSign 29 = .ok (.if_icmp .ne 16, 3) := by decide +kernel
theorem dX6_takeSign_32 : decode cX6_takeSign 32 = .ok (.aload_n 0, 1) := by decide +kernel
theorem dX6_takeSign_33 : decode cX6_takeSign 33 = .ok (.dup, 1) := by decide +kernel
theorem dX6_takeSign_34 : decode cX6_takeSign 34 = .ok (.getfield 22, 3) := by decide +kernel
theorem dX6_takeSign_37 : decode cX6_takeSign 37 = .ok (.iconst 1, 1) := by decide +kernel
theorem dX6_takeSign_38 : decode cX6_takeSign 38 = .ok (.iadd, 1) := by decide +kernel
theorem dX6_takeSign_39 : decode cX6_takeSign 39 = .ok (.putfield 22, 3) := by decide +kernel
theorem dX6_takeSign_42 : decode cX6_takeSign 42 = .ok (.goto 8, 3) := by decide +kernel
theorem dX6_takeSign_45 : decode cX6_takeSign 45 = .ok (.aload_n 0, 1) := by decide +kernel
theorem dX6_takeSign_46 : decode cX6_takeSign 46 = .ok (.iconst 1, 1) := by decide +kernel
theorem dX6_takeSign_47 : decode cX6_takeSign 47 = .ok (.putfield 25, 3) := by decide +kernel
theorem dX6_takeSign_50 : decode cX6_takeSign 50 = .ok (.return_, 1) := by decide +kernel
set_option maxRecDepth 20000 in
theorem ggX6_takeNumber_X6_isFigure : GoodIn wsX6_takeNumber wsX6_isFigure := goodIn_r _ [8] (by decide +kernel) (by decide +kernel)
set_option maxRecDepth 20000 in
theorem gX6_takeNumber_X6_isFigure : GoodIn wsX6_takeNumber (va_wsS RX6 65 yX6_isFigure wsX6_isFigure) := goodIn_app (goodIn_of _ (by decide +kernel)) ggX6_takeNumber_X6_isFigure
theorem dX6_takeNumber_0 : decode cX6_takeNumber 0 = .ok (.aload_n 0, 1) := by decide +kernel
theorem dX6_takeNumber_1 : decode cX6_takeNumber 1 = .ok (.getfield 25, 3) := by decide +kernel
theorem dX6_takeNumber_4 : decode cX6_takeNumber 4 = .ok (.ifCond .eq 5, 3) := by decide +kernel
theorem dX6_takeNumber_7 : decode cX6_takeNumber 7 = .ok (.iconst 0, 1) := by decide +kernel
theorem dX6_takeNumber_8 : decode cX6_takeNumber 8 = .ok (.ireturn, 1) := by decide +kernel
theorem dX6_takeNumber_9 : decode cX6_takeNumber 9 = .ok (.iconst 0, 1) := by decide +kernel
theorem dX6_takeNumber_10 : decode cX6_takeNumber 10 = .ok (.istore_n 2, 1) := by decide +kernel
theorem dX6_takeNumber_11 : decode cX6_takeNumber 11 = .ok (.aload_n 0, 1) := by decide +kernel
theorem dX6_takeNumber_12 : decode cX6_takeNumber 12 = .ok (.getfield 22, 3) := by decide +kernel
theorem dX6_takeNumber_15 : decode cX6_takeNumber 15 = .ok (.istore_n 3, 1) := by decide +kernel
theorem dX6_takeNumber_16 : decode cX6_takeNumber 16 = .ok (.iload_n 3, 1) := by decide +kernel
theorem dX6_takeNumber_17 : decode cX6_takeNumber 17 = .ok (.aload_n 0, 1) := by decide +kernel
theorem dX6_takeNumber_18 : decode cX6_takeNumber 18 = .ok (.getfield 15, 3) := by decide +kernel
theorem dX6_takeNumber_21 : decode cX6_takeNumber 21 = .ok (.if_icmp .ge 46, 3) := by decide +kernel
theorem dX6_takeNumber_24 : decode cX6_takeNumber 24 = .ok (.iload_n 3, 1) := by decide +kernel
theorem dX6_takeNumber_25 : decode cX6_takeNumber 25 = .ok (.aload_n 0, 1) := by decide +kernel
theorem dX6_takeNumber_26 : decode cX6_takeNumber 26 = .ok (.getfield 22, 3) := by decide +kernel
theorem dX6_takeNumber_29 : decode cX6_takeNumber 29 = .ok (.isub, 1) := by decide +kernel
theorem dX6_takeNumber_30 : decode cX6_takeNumber 30 = .ok (.iconst 2, 1) := by decide +kernel
theorem dX6_takeNumber_31 : decode cX6_takeNumber 31 = .ok (.if_icmp .gt 36, 3) := by decide +kernel
theorem dX6_takeNumber_34 : decode cX6_takeNumber 34 = .ok (.aload_n 0, 1) := by decide +kernel
theorem dX6_takeNumber_35 : decode cX6_takeNumber 35 = .ok (.getfield 11, 3) := by decide +kernel
theorem dX6_takeNumber_38 : decode cX6_takeNumber 38 = .ok (.iload_n 3, 1) := by decide +kernel
theorem dX6_takeNumber_39 : decode cX6_takeNumber 39 = .ok (.iaload, 1) := by decide +kernel
theorem dX6_takeNumber_40 : decode cX6_takeNumber 40 = .ok (.invokestatic 65, 3) := by decide +kernel
theorem dX6_takeNumber_43 : decode cX6_takeNumber 43 = .ok (.ifCond .eq 24, 3) := by decide +kernel
theorem dX6_takeNumber_46 : decode cX6_takeNumber 46 = .ok (.iload_n 2, 1) := by decide +kernel
theorem dX6_takeNumber_47 : decode cX6_takeNumber 47 = .ok (.bipush 10, 2) := by decide +kernel
theorem dX6_takeNumber_49 : decode cX6_takeNumber 49 = .ok (.imul, 1) := by decide +kernel
theorem dX6_takeNumber_50 : decode cX6_takeNumber 50 = .ok (.aload_n 0, 1) := by decide +kernel
theorem dX6_takeNumber_51 : decode cX6_takeNumber 51 = .ok (.getfield 11, 3) := by decide +kernel
theorem dX6_takeNumber_54 : decode cX6_takeNumber 54 = .ok (.iload_n 3, 1) := by decide +kernel
theorem dX6_takeNumber_55 : decode cX6_takeNumber 55 = .ok (.iaload, 1) := by decide +kernel
theorem dX6_takeNumber_56 : decode cX6_takeNumber 56 = .ok (.iadd, 1) := by decide +kernel
theorem dX6_takeNumber_57 : decode cX6_takeNumber 57 = .ok (.bipush 48, 2) := by decide +kernel
theorem dX6_takeNumber_59 : decode cX6_takeNumber 59 = .ok (.isub, 1) := by decide +kernel
theorem dX6_takeNumber_60 : decode cX6_takeNumber 60 = .ok (.istore_n 2, 1) := by decide +kernel
theorem dX6_takeNumber_61 : decode cX6_takeNumber 61 = .ok (.iinc 3 1, 3) := by decide +kernel
theorem dX6_takeNumber_64 : decode cX6_takeNumber 64 = .ok (.goto (-48), 3) := by decide +kernel
theorem dX6_takeNumber_67 : decode cX6_takeNumber 67 = .ok (.iload_n 3, 1) := by decide +kernel
theorem dX6_takeNumber_68 : decode cX6_takeNumber 68 = .ok (.aload_n 0, 1) := by decide +kernel
theorem dX6_takeNumber_69 : decode cX6_takeNumber 69 = .ok (.getfield 22, 3) := by decide +kernel
theorem dX6_takeNumber_72 : decode cX6_takeNumber 72 = .ok (.if_icmp .eq 13, 3) := by decide +kernel
theorem dX6_takeNumber_75 : decode cX6_takeNumber 75 = .ok (.iload_n 3, 1) := by decide +kernel
theorem dX6_takeNumber_76 : decode cX6_takeNumber 76 = .ok (.aload_n 0, 1) := by decide +kernel
theorem dX6_takeNumber_77 : decode cX6_takeNumber 77 = .ok (.getfield 22, 3) := by decide +kernel
theorem dX6_takeNumber_80 : decode cX6_takeNumber 80 = .ok (.isub, 1) := by decide +kernel
theorem dX6_takeNumber_81 : decode cX6_takeNumber 81 = .ok (.iconst 2, 1) := by decide +kernel
theorem dX6_takeNumber_82 : decode cX6_takeNumber 82 = .ok (.if_icmp .le 10, 3) := by decide +kernel
theorem dX6_takeNumber_85 : decode cX6_takeNumber 85 = .ok (.aload_n 0, 1) := by decide +kernel
theorem dX6_takeNumber_86 : decode cX6_takeNumber 86 = .ok (.iconst 1, 1) := by decide +kernel
theorem dX6_takeNumber_87 : decode cX6_takeNumber 87 = .ok (.putfield 25, 3) := by decide +kernel
theorem dX6_takeNumber_90 : decode cX6_takeNumber 90 = .ok (.iconst 0, 1) := by decide +kernel
theorem dX6_takeNumber_91 : decode cX6_takeNumber 91 = .ok (.ireturn, 1) := by decide +kernel
theorem dX6_takeNumber_92 : decode cX6_takeNumber 92 = .ok (.iload_n 2, 1) := by decide +kernel
theorem dX6_takeNumber_93 : decode cX6_takeNumber 93 = .ok (.iload_n 1, 1) := by decide +kernel
theorem dX6_takeNumber_94 : decode cX6_takeNumber 94 = .ok (.if_icmp .le 10, 3) := by decide +kernel
theorem dX6_takeNumber_97 : decode cX6_takeNumber 97 = .ok (.aload_n 0, 1) := by decide +kernel
theorem dX6_takeNumber_98 : decode cX6_takeNumber 98 = .ok (.iconst 2, 1) := by decide +kernel
theorem dX6_takeNumber_99 : decode cX6_takeNumber 99 = .ok (.putfield 25, 3) := by decide +kernel
theorem dX6_takeNumber_102 : decode cX6_takeNumber 102 = .ok (.iconst 0, 1) := by decide +kernel
theorem dX6_takeNumber_103 : decode cX6_takeNumber 103 = .ok (.ireturn, 1) := by decide +kernel
theorem dX6_takeNumber_104 : decode cX6_takeNumber 104 = .ok (.aload_n 0, 1) := by decide +kernel
theorem dX6_takeNumber_105 : decode cX6_takeNumber 105 = .ok (.iload_n 3, 1) := by decide +kernel
theorem dX6_takeNumber_106 : decode cX6_takeNumber 106 = .ok (.putfield 22, 3) := by decide +kernel
theorem dX6_takeNumber_109 : decode cX6_takeNumber 109 = .ok (.iload_n 2, 1) := by decide +kernel
theorem dX6_takeNumber_110 : decode cX6_takeNumber 110 = .ok (.ireturn, 1) := by decide +kernel
theorem dX6_isFigure_0 : decode cX6_isFigure 0 = .ok (.iload_n 0, 1) := by decide +kernel
theorem dX6_isFigure_1 : decode cX6_isFigure 1 = .ok (.bipush 48, 2) := by decide +kernel
theorem dX6_isFigure_3 : decode cX6_isFigure 3 = .ok (.if_icmp .lt 13, 3) := by decide +kernel
theorem dX6_isFigure_6 : decode cX6_isFigure 6 = .ok (.iload_n 0, 1) := by decide +kernel
theorem dX6_isFigure_7 : decode cX6_isFigure 7 = .ok (.bipush 57, 2) := by decide +kernel
theorem dX6_isFigure_9 : decode cX6_isFigure 9 = .ok (.if_icmp .gt 7, 3) := by decide +kernel
theorem dX6_isFigure_12 : decode cX6_isFigure 12 = .ok (.iconst 1, 1) := by decide +kernel
theorem dX6_isFigure_13 : decode cX6_isFigure 13 = .ok (.goto 4, 3) := by decide +kernel
theorem dX6_isFigure_16 : decode cX6_isFigure 16 = .ok (.iconst 0, 1) := by decide +kernel
theorem dX6_isFigure_17 : decode cX6_isFigure 17 = .ok (.ireturn, 1) := by decide +kernel
theorem dX7_init_0 : decode cX7_init 0 = .ok (.aload_n 0, 1) := by decide +kernel
theorem dX7_init_1 : decode cX7_init 1 = .ok (.invokespecial 1, 3) := by decide +kernel
theorem dX7_init_4 : decode cX7_init 4 = .ok (.return_, 1) := by decide +kernel
set_option maxRecDepth 20000 in
theorem ggX7_size_X9_leave : GoodIn wsX7_size wsX9_leave := goodIn_r _ [6, 7, 8, 24, 25] (by decide +kernel) (by decide +kernel)
set_option maxRecDepth 20000 in
theorem gX7_size_X9_leave : GoodIn wsX7_size (wsV RX7 7 RX9 yX9_leave wsX9_leave) := goodIn_app (goodIn_of _ (by decide +kernel)) ggX7_size_X9_leave
set_option maxRecDepth 20000 in
theorem ggX7_size_J6_bitCount_0f7a4 : GoodIn wsX7_size wsJ6_bitCount_0f7a4 := goodIn_r _ [12, 13, 14, 15] (by decide +kernel) (by decide +kernel)
set_option maxRecDepth 20000 in
theorem gX7_size_J6_bitCount_0f7a4 : GoodIn wsX7_size (va_wsS RX7 19 yJ6_bitCount_0f7a4 wsJ6_bitCount_0f7a4) := goodIn_app (goodIn_of _ (by decide +kernel)) ggX7_size_J6_bitCount_0f7a4
theorem dX7_size_0 : decode cX7_size 0 = .ok (.aload_n 3, 1) := by decide +kernel
theorem dX7_size_1 : decode cX7_size 1 = .ok (.bipush 10, 2) := by decide +kernel
theorem dX7_size_3 : decode cX7_size 3 = .ok (.invokevirtual 7, 3) := by decide +kernel
theorem dX7_size_6 : decode cX7_size 6 = .ok (.aload_n 1, 1) := by decide +kernel
theorem dX7_size_7 : decode cX7_size 7 = .ok (.getfield 13, 3) := by decide +kernel
theorem dX7_size_10 : decode cX7_size 10 = .ok (.iload_n 2, 1) := by decide +kernel
theorem dX7_size_11 : decode cX7_size 11 = .ok (.iaload, 1) := by decide +kernel
theorem dX7_size_12 : decode cX7_size 12 = .ok (.invokestatic 19, 3) := by decide +kernel
theorem dX7_size_15 : decode cX7_size 15 = .ok (.ireturn, 1) := by decide +kernel
set_option maxRecDepth 20000 in
theorem ggX7_mark_X9_leave : GoodIn wsX7_mark wsX9_leave := goodIn_r _ [5, 6, 7, 8, 9] (by decide +kernel) (by decide +kernel)
set_option maxRecDepth 20000 in
theorem gX7_mark_X9_leave : GoodIn wsX7_mark (wsV RX7 7 RX9 yX9_leave wsX9_leave) := goodIn_app (goodIn_of _ (by decide +kernel)) ggX7_mark_X9_leave
theorem dX7_mark_0 : decode cX7_mark 0 = .ok (.aload_n 3, 1) := by decide +kernel
theorem dX7_mark_1 : decode cX7_mark 1 = .ok (.bipush 20, 2) := by decide +kernel
theorem dX7_mark_3 : decode cX7_mark 3 = .ok (.invokevirtual 7, 3) := by decide +kernel
theorem dX7_mark_6 : decode cX7_mark 6 = .ok (.iload_n 2, 1) := by decide +kernel
theorem dX7_mark_7 : decode cX7_mark 7 = .ok (.ireturn, 1) := by decide +kernel
theorem dX8_init_0 : decode cX8_init 0 = .ok (.aload_n 0, 1) := by decide +kernel
theorem dX8_init_1 : decode cX8_init 1 = .ok (.invokespecial 3, 3) := by decide +kernel
theorem dX8_init_4 : decode cX8_init 4 = .ok (.aload_n 0, 1) := by decide +kernel
theorem dX8_init_5 : decode cX8_init 5 = .ok (.iconst 0, 1) := by decide +kernel
theorem dX8_init_6 : decode cX8_init 6 = .ok (.putfield 9, 3) := by decide +kernel
theorem dX8_init_9 : decode cX8_init 9 = .ok (.aload_n 0, 1) := by decide +kernel
theorem dX8_init_10 : decode cX8_init 10 = .ok (.iconst 0, 1) := by decide +kernel
theorem dX8_init_11 : decode cX8_init 11 = .ok (.putfield 15, 3) := by decide +kernel
theorem dX8_init_14 : decode cX8_init 14 = .ok (.aload_n 0, 1) := by decide +kernel
theorem dX8_init_15 : decode cX8_init 15 = .ok (.iconst 0, 1) := by decide +kernel
theorem dX8_init_16 : decode cX8_init 16 = .ok (.putfield 19, 3) := by decide +kernel
theorem dX8_init_19 : decode cX8_init 19 = .ok (.aload_n 0, 1) := by decide +kernel
theorem dX8_init_20 : decode cX8_init 20 = .ok (.iconst 0, 1) := by decide +kernel
theorem dX8_init_21 : decode cX8_init 21 = .ok (.putfield 22, 3) := by decide +kernel
theorem dX8_init_24 : decode cX8_init 24 = .ok (.aload_n 0, 1) := by decide +kernel
theorem dX8_init_25 : decode cX8_init 25 = .ok (.bipush 6, 2) := by decide +kernel
theorem dX8_init_27 : decode cX8_init 27 = .ok (.newarray .int, 2) := by decide +kernel
theorem dX8_init_29 : decode cX8_init 29 = .ok (.putfield 25, 3) := by decide +kernel
theorem dX8_init_32 : decode cX8_init 32 = .ok (.aload_n 0, 1) := by decide +kernel
theorem dX8_init_33 : decode cX8_init 33 = .ok (.bipush 6, 2) := by decide +kernel
theorem dX8_init_35 : decode cX8_init 35 = .ok (.newarray .int, 2) := by decide +kernel
theorem dX8_init_37 : decode cX8_init 37 = .ok (.putfield 29, 3) := by decide +kernel
theorem dX8_init_40 : decode cX8_init 40 = .ok (.aload_n 0, 1) := by decide +kernel
theorem dX8_init_41 : decode cX8_init 41 = .ok (.bipush 6, 2) := by decide +kernel
theorem dX8_init_43 : decode cX8_init 43 = .ok (.newarray .int, 2) := by decide +kernel
theorem dX8_init_45 : decode cX8_init 45 = .ok (.putfield 32, 3) := by decide +kernel
theorem dX8_init_48 : decode cX8_init 48 = .ok (.aload_n 0, 1) := by decide +kernel
theorem dX8_init_49 : decode cX8_init 49 = .ok (.bipush 6, 2) := by decide +kernel
theorem dX8_init_51 : decode cX8_init 51 = .ok (.newarray .int, 2) := by decide +kernel
theorem dX8_init_53 : decode cX8_init 53 = .ok (.putfield 35, 3) := by decide +kernel
theorem dX8_init_56 : decode cX8_init 56 = .ok (.return_, 1) := by decide +kernel
theorem dX8_clear_0 : decode cX8_clear 0 = .ok (.aload_n 0, 1) := by decide +kernel
theorem dX8_clear_1 : decode cX8_clear 1 = .ok (.iconst 0, 1) := by decide +kernel
theorem dX8_clear_2 : decode cX8_clear 2 = .ok (.putfield 9, 3) := by decide +kernel
theorem dX8_clear_5 : decode cX8_clear 5 = .ok (.aload_n 0, 1) := by decide +kernel
theorem dX8_clear_6 : decode cX8_clear 6 = .ok (.iconst 0, 1) := by decide +kernel
theorem dX8_clear_7 : decode cX8_clear 7 = .ok (.putfield 15, 3) := by decide +kernel
theorem dX8_clear_10 : decode cX8_clear 10 = .ok (.aload_n 0, 1) := by decide +kernel
theorem dX8_clear_11 : decode cX8_clear 11 = .ok (.iconst 0, 1) := by decide +kernel
theorem dX8_clear_12 : decode cX8_clear 12 = .ok (.putfield 19, 3) := by decide +kernel
theorem dX8_clear_15 : decode cX8_clear 15 = .ok (.aload_n 0, 1) := by decide +kernel
theorem dX8_clear_16 : decode cX8_clear 16 = .ok (.iconst 0, 1) := by decide +kernel
theorem dX8_clear_17 : decode cX8_clear 17 = .ok (.putfield 22, 3) := by decide +kernel
theorem dX8_clear_20 : decode cX8_clear 20 = .ok (.return_, 1) := by decide +kernel
theorem dX8_add_0 : decode cX8_add 0 = .ok (.aload_n 0, 1) := by decide +kernel
theorem dX8_add_1 : decode cX8_add 1 = .ok (.getfield 22, 3) := by decide +kernel
theorem dX8_add_4 : decode cX8_add 4 = .ok (.bipush 6, 2) := by decide +kernel
theorem dX8_add_6 : decode cX8_add 6 = .ok (.if_icmp .lt 4, 3) := by decide +kernel
theorem dX8_add_9 : decode cX8_add 9 = .ok (.return_, 1) := by decide +kernel
theorem dX8_add_10 : decode cX8_add 10 = .ok (.aload_n 0, 1) := by decide +kernel
theorem dX8_add_11 : decode cX8_add 11 = .ok (.getfield 25, 3) := by decide +kernel
theorem dX8_add_14 : decode cX8_add 14 = .ok (.aload_n 0, 1) := by decide +kernel
theorem dX8_add_15 : decode cX8_add 15 = .ok (.getfield 22, 3) := by decide +kernel
theorem dX8_add_18 : decode cX8_add 18 = .ok (.iload_n 1, 1) := by decide +kernel
theorem dX8_add_19 : decode cX8_add 19 = .ok (.iastore, 1) := by decide +kernel
theorem dX8_add_20 : decode cX8_add 20 = .ok (.aload_n 0, 1) := by decide +kernel
theorem dX8_add_21 : decode cX8_add 21 = .ok (.getfield 29, 3) := by decide +kernel
theorem dX8_add_24 : decode cX8_add 24 = .ok (.aload_n 0, 1) := by decide +kernel
theorem dX8_add_25 : decode cX8_add 25 = .ok (.getfield 22, 3) := by decide +kernel
theorem dX8_add_28 : decode cX8_add 28 = .ok (.iload_n 2, 1) := by decide +kernel
theorem dX8_add_29 : decode cX8_add 29 = .ok (.iastore, 1) := by decide +kernel
theorem dX8_add_30 : decode cX8_add 30 = .ok (.aload_n 0, 1) := by decide +kernel
theorem dX8_add_31 : decode cX8_add 31 = .ok (.getfield 32, 3) := by decide +kernel
theorem dX8_add_34 : decode cX8_add 34 = .ok (.aload_n 0, 1) := by decide +kernel
theorem dX8_add_35 : decode cX8_add 35 = .ok (.getfield 22, 3) := by decide +kernel
theorem dX8_add_38 : decode cX8_add 38 = .ok (.iload_n 3, 1) := by decide +kernel
theorem dX8_add_39 : decode cX8_add 39 = .ok (.iastore, 1) := by decide +kernel
theorem dX8_add_40 : decode cX8_add 40 = .ok (.aload_n 0, 1) := by decide +kernel
theorem dX8_add_41 : decode cX8_add 41 = .ok (.getfield 35, 3) := by decide +kernel
theorem dX8_add_44 : decode cX8_add 44 = .ok (.aload_n 0, 1) := by decide +kernel
theorem dX8_add_45 : decode cX8_add 45 = .ok (.getfield 22, 3) := by decide +kernel
theorem dX8_add_48 : decode cX8_add 48 = .ok (.iload 4, 2) := by decide +kernel
theorem dX8_add_50 : decode cX8_add 50 = .ok (.iastore, 1) := by decide +kernel
theorem dX8_add_51 : decode cX8_add 51 = .ok (.aload_n 0, 1) := by decide +kernel
theorem dX8_add_52 : decode cX8_add 52 = .ok (.dup, 1) := by decide +kernel
theorem dX8_add_53 : decode cX8_add 53 = .ok (.getfield 22, 3) := by decide +kernel
theorem dX8_add_56 : decode cX8_add 56 = .ok (.iconst 1, 1) := by decide +kernel
theorem dX8_add_57 : decode cX8_add 57 = .ok (.iadd, 1) := by decide +kernel
theorem dX8_add_58 : decode cX8_add 58 = .ok (.putfield 22, 3) := by decide +kernel
theorem dX8_add_61 : decode cX8_add 61 = .ok (.return_, 1) := by decide +kernel
theorem dX8_become_0 : decode cX8_become 0 = .ok (.aload_n 0, 1) := by decide +kernel
theorem dX8_become_1 : decode cX8_become 1 = .ok (.aload_n 1, 1) := by decide +kernel
theorem dX8_become_2 : decode cX8_become 2 = .ok (.getfield 9, 3) := by decide +kernel
theorem dX8_become_5 : decode cX8_become 5 = .ok (.putfield 9, 3) := by decide +kernel
theorem dX8_become_8 : decode cX8_become 8 = .ok (.aload_n 0, 1) := by decide +kernel
theorem dX8_become_9 : decode cX8_become 9 = .ok (.aload_n 1, 1) := by decide +kernel
theorem dX8_become_10 : decode cX8_become 10 = .ok (.getfield 15, 3) := by decide +kernel
theorem dX8_become_13 : decode cX8_become 13 = .ok (.putfield 15, 3) := by decide +kernel
theorem dX8_become_16 : decode cX8_become 16 = .ok (.aload_n 0, 1) := by decide +kernel
theorem dX8_become_17 : decode cX8_become 17 = .ok (.aload_n 1, 1) := by decide +kernel
theorem dX8_become_18 : decode cX8_become 18 = .ok (.getfield 19, 3) := by decide +kernel
theorem dX8_become_21 : decode cX8_become 21 = .ok (.putfield 19, 3) := by decide +kernel
theorem dX8_become_24 : decode cX8_become 24 = .ok (.aload_n 0, 1) := by decide +kernel
theorem dX8_become_25 : decode cX8_become 25 = .ok (.aload_n 1, 1) := by decide +kernel
theorem dX8_become_26 : decode cX8_become 26 = .ok (.getfield 22, 3) := by decide +kernel
theorem dX8_become_29 : decode cX8_become 29 = .ok (.putfield 22, 3) := by decide +kernel
theorem dX8_become_32 : decode cX8_become 32 = .ok (.iconst 0, 1) := by decide +kernel
theorem dX8_become_33 : decode cX8_become 33 = .ok (.istore_n 2, 1) := by decide +kernel
theorem dX8_become_34 : decode cX8_become 34 = .ok (.iload_n 2, 1) := by decide +kernel
theorem dX8_become_35 : decode cX8_become 35 = .ok (.bipush 6, 2) := by decide +kernel
theorem dX8_become_37 : decode cX8_become 37 = .ok (.if_icmp .ge 57, 3) := by decide +kernel
theorem dX8_become_40 : decode cX8_become 40 = .ok (.aload_n 0, 1) := by decide +kernel
theorem dX8_become_41 : decode cX8_become 41 = .ok (.getfield 25, 3) := by decide +kernel
theorem dX8_become_44 : decode cX8_become 44 = .ok (.iload_n 2, 1) := by decide +kernel
theorem dX8_become_45 : decode cX8_become 45 = .ok (.aload_n 1, 1) := by decide +kernel
theorem dX8_become_46 : decode cX8_become 46 = .ok (.getfield 25, 3) := by decide +kernel
theorem dX8_become_49 : decode cX8_become 49 = .ok (.iload_n 2, 1) := by decide +kernel
theorem dX8_become_50 : decode cX8_become 50 = .ok (.iaload, 1) := by decide +kernel
theorem dX8_become_51 : decode cX8_become 51 = .ok (.iastore, 1) := by decide +kernel
theorem dX8_become_52 : decode cX8_become 52 = .ok (.aload_n 0, 1) := by decide +kernel
theorem dX8_become_53 : decode cX8_become 53 = .ok (.getfield 29, 3) := by decide +kernel
theorem dX8_become_56 : decode cX8_become 56 = .ok (.iload_n 2, 1) := by decide +kernel
theorem dX8_become_57 : decode cX8_become 57 = .ok (.aload_n 1, 1) := by decide +kernel
theorem dX8_become_58 : decode cX8_become 58 = .ok (.getfield 29, 3) := by decide +kernel
theorem dX8_become_61 : decode cX8_become 61 = .ok (.iload_n 2, 1) := by decide +kernel
theorem dX8_become_62 : decode cX8_become 62 = .ok (.iaload, 1) := by decide +kernel
theorem dX8_become_63 : decode cX8_become 63 = .ok (.iastore, 1) := by decide +kernel
theorem dX8_become_64 : decode cX8_become 64 = .ok (.aload_n 0, 1) := by decide +kernel
theorem dX8_become_65 : decode cX8_become 65 = .ok (.getfield 32, 3) := by decide +kernel
theorem dX8_become_68 : decode cX8_become 68 = .ok (.iload_n 2, 1) := by decide +kernel
theorem dX8_become_69 : decode cX8_become 69 = .ok (.aload_n 1, 1) := by decide +kernel
theorem dX8_become_70 : decode cX8_become 70 = .ok (.getfield 32, 3) := by decide +kernel
theorem dX8_become_73 : decode cX8_become 73 = .ok (.iload_n 2, 1) := by decide +kernel
theorem dX8_become_74 : decode cX8_become 74 = .ok (.iaload, 1) := by decide +kernel
theorem dX8_become_75 : decode cX8_become 75 = .ok (.iastore, 1) := by decide +kernel
theorem dX8_become_76 : decode cX8_become 76 = .ok (.aload_n 0, 1) := by decide +kernel
theorem dX8_become_77 : decode cX8_become 77 = .ok (.getfield 35, 3) := by decide +kernel
theorem dX8_become_80 : decode cX8_become 80 = .ok (.iload_n 2, 1) := by decide +kernel
theorem dX8_become_81 : decode cX8_become 81 = .ok (.aload_n 1, 1) := by decide +kernel
theorem dX8_become_82 : decode cX8_become 82 = .ok (.getfield 35, 3) := by decide +kernel
theorem dX8_become_85 : decode cX8_become 85 = .ok (.iload_n 2, 1) := by decide +kernel
theorem dX8_become_86 : decode cX8_become 86 = .ok (.iaload, 1) := by decide +kernel
theorem dX8_become_87 : decode cX8_become 87 = .ok (.iastore, 1) := by decide +kernel
theorem dX8_become_88 : decode cX8_become 88 = .ok (.iinc 2 1, 3) := by decide +kernel
theorem dX8_become_91 : decode cX8_become 91 = .ok (.goto (-57), 3) := by decide +kernel
theorem dX8_become_94 : decode cX8_become 94 = .ok (.return_, 1) := by decide +kernel
theorem dX8_has_0 : decode cX8_has 0 = .ok (.iload_n 1, 1) := by decide +kernel
theorem dX8_has_1 : decode cX8_has 1 = .ok (.ifCond .lt 15, 3) := by decide +kernel
theorem dX8_has_4 : decode cX8_has 4 = .ok (.iload_n 1, 1) := by decide +kernel
theorem dX8_has_5 : decode cX8_has 5 = .ok (.aload_n 0, 1) := by decide +kernel
theorem dX8_has_6 : decode cX8_has 6 = .ok (.getfield 22, 3) := by decide +kernel
theorem dX8_has_9 : decode cX8_has 9 = .ok (.if_icmp .ge 7, 3) := by decide +kernel
theorem dX8_has_12 : decode cX8_has 12 = .ok (.iconst 1, 1) := by decide +kernel
theorem dX8_has_13 : decode cX8_has 13 = .ok (.goto 4, 3) := by decide +kernel
theorem dX8_has_16 : decode cX8_has 16 = .ok (.iconst 0, 1) := by decide +kernel
theorem dX8_has_17 : decode cX8_has 17 = .ok (.ireturn, 1) := by decide +kernel
theorem dX8_lives_0 : decode cX8_lives 0 = .ok (.aload_n 0, 1) := by decide +kernel
theorem dX8_lives_1 : decode cX8_lives 1 = .ok (.getfield 35, 3) := by decide +kernel
theorem dX8_lives_4 : decode cX8_lives 4 = .ok (.iload_n 1, 1) := by decide +kernel
theorem dX8_lives_5 : decode cX8_lives 5 = .ok (.iaload, 1) := by decide +kernel
theorem dX8_lives_6 : decode cX8_lives 6 = .ok (.ifCond .le 7, 3) := by decide +kernel
theorem dX8_lives_9 : decode cX8_lives 9 = .ok (.iconst 1, 1) := by decide +kernel
theorem dX8_lives_10 : decode cX8_lives 10 = .ok (.goto 4, 3) := by decide +kernel
theorem dX8_lives_13 : decode cX8_lives 13 = .ok (.iconst 0, 1) := by decide +kernel
theorem dX8_lives_14 : decode cX8_lives 14 = .ok (.ireturn, 1) := by decide +kernel
theorem dX8_deadBehind_0 : decode cX8_deadBehind 0 = .ok (.iconst 0, 1) := by decide +kernel
theorem dX8_deadBehind_1 : decode cX8_deadBehind 1 = .ok (.istore_n 2, 1) := by decide +kernel
theorem dX8_deadBehind_2 : decode cX8_deadBehind 2 = .ok (.iconst 0, 1) := by decide +kernel
theorem dX8_deadBehind_3 : decode cX8_deadBehind 3 = .ok (.istore_n 3, 1) := by decide +kernel
theorem dX8_deadBehind_4 : decode cX8_deadBehind 4 = .ok (.iload_n 3, 1) := by decide +kernel
theorem dX8_deadBehind_5 : decode cX8_deadBehind 5 = .ok (.aload_n 0, 1) := by decide +kernel
theorem dX8_deadBehind_6 : decode cX8_deadBehind 6 = .ok (.getfield 22, 3) := by decide +kernel
theorem dX8_deadBehind_9 : decode cX8_deadBehind 9 = .ok (.if_icmp .ge 25, 3) := by decide +kernel
theorem dX8_deadBehind_12 : decode cX8_deadBehind 12 = .ok (.aload_n 0, 1) := by decide +kernel
theorem dX8_deadBehind_13 : decode cX8_deadBehind 13 = .ok (.getfield 35, 3) := by decide +kernel
theorem dX8_deadBehind_16 : decode cX8_deadBehind 16 = .ok (.iload_n 3, 1) := by decide +kernel
theorem dX8_deadBehind_17 : decode cX8_deadBehind 17 = .ok (.iaload, 1) := by decide +kernel
theorem dX8_deadBehind_18 : decode cX8_deadBehind 18 = .ok (.iload_n 1, 1) := by decide +kernel
theorem dX8_deadBehind_19 : decode cX8_deadBehind 19 = .ok (.if_icmp .gt 9, 3) := by decide +kernel
theorem dX8_deadBehind_22 : decode cX8_deadBehind 22 = .ok (.iload_n 2, 1) := by decide +kernel
theorem dX8_deadBehind_23 : decode cX8_deadBehind 23 = .ok (.iconst 1, 1) := by decide +kernel
theorem dX8_deadBehind_24 : decode cX8_deadBehind 24 = .ok (.iload_n 3, 1) := by decide +kernel
theorem dX8_deadBehind_25 : decode cX8_deadBehind 25 = .ok (.ishl, 1) := by decide +kernel
theorem dX8_deadBehind_26 : decode cX8_deadBehind 26 = .ok (.ior, 1) := by decide +kernel
theorem dX8_deadBehind_27 : decode cX8_deadBehind 27 = .ok (.istore_n 2, 1) := by decide +kernel
theorem dX8_deadBehind_28 : decode cX8_deadBehind 28 = .ok (.iinc 3 1, 3) := by decide +kernel
theorem dX8_deadBehind_31 : decode cX8_deadBehind 31 = .ok (.goto (-27), 3) := by decide +kernel
theorem dX8_deadBehind_34 : decode cX8_deadBehind 34 = .ok (.iload_n 2, 1) := by decide +kernel
theorem dX8_deadBehind_35 : decode cX8_deadBehind 35 = .ok (.ireturn, 1) := by decide +kernel
set_option maxRecDepth 20000 in
theorem ggX8_living_X8_deadBehind : GoodIn wsX8_living wsX8_deadBehind := goodIn_r _ [6, 1, 7, 8, 9, 10, 11, 12, 13, 14, 15] (by decide +kernel) (by decide +kernel)
set_option maxRecDepth 20000 in
theorem gX8_living_X8_deadBehind : GoodIn wsX8_living (wsV RX8 38 RX8 yX8_deadBehind wsX8_deadBehind) := goodIn_app (goodIn_of _ (by decide +kernel)) ggX8_living_X8_deadBehind
theorem dX8_living_0 : decode cX8_living 0 = .ok (.iconst 1, 1) := by decide +kernel
theorem dX8_living_1 : decode cX8_living 1 = .ok (.aload_n 0, 1) := by decide +kernel
theorem dX8_living_2 : decode cX8_living 2 = .ok (.getfield 22, 3) := by decide +kernel
theorem dX8_living_5 : decode cX8_living 5 = .ok (.ishl, 1) := by decide +kernel
theorem dX8_living_6 : decode cX8_living 6 = .ok (.iconst 1, 1) := by decide +kernel
theorem dX8_living_7 : decode cX8_living 7 = .ok (.isub, 1) := by decide +kernel
theorem dX8_living_8 : decode cX8_living 8 = .ok (.aload_n 0, 1) := by decide +kernel
theorem dX8_living_9 : decode cX8_living 9 = .ok (.iconst 0, 1) := by decide +kernel
theorem dX8_living_10 : decode cX8_living 10 = .ok (.invokevirtual 38, 3) := by decide +kernel
theorem dX8_living_13 : decode cX8_living 13 = .ok (.iconst (-1), 1) := by decide +kernel
theorem dX8_living_14 : decode cX8_living 14 = .ok (.ixor, 1) := by decide +kernel
theorem dX8_living_15 : decode cX8_living 15 = .ok (.iand, 1) := by decide +kernel
theorem dX8_living_16 : decode cX8_living 16 = .ok (.ireturn, 1) := by decide +kernel
set_option maxRecDepth 20000 in
theorem ggX8_falseLinesNow_X11_falseLines : GoodIn wsX8_falseLinesNow wsX11_falseLines := goodIn_r _ [5, 6, 7, 8, 9, 10, 11, 12] (by decide +kernel) (by decide +kernel)
set_option maxRecDepth 20000 in
theorem gX8_falseLinesNow_X11_falseLines_n42 : GoodIn wsX8_falseLinesNow (wsX11_falseLines) := ggX8_falseLinesNow_X11_falseLines
theorem dX8_falseLinesNow_0 : decode cX8_falseLinesNow 0 = .ok (.aload_n 0, 1) := by decide +kernel
theorem dX8_falseLinesNow_1 : decode cX8_falseLinesNow 1 = .ok (.getfield 29, 3) := by decide +kernel
theorem dX8_falseLinesNow_4 : decode cX8_falseLinesNow 4 = .ok (.iload_n 1, 1) := by decide +kernel
theorem dX8_falseLinesNow_5 : decode cX8_falseLinesNow 5 = .ok (.iaload, 1) := by decide +kernel
theorem dX8_falseLinesNow_6 : decode cX8_falseLinesNow 6 = .ok (.aload_n 0, 1) := by decide +kernel
theorem dX8_falseLinesNow_7 : decode cX8_falseLinesNow 7 = .ok (.getfield 32, 3) := by decide +kernel
theorem dX8_falseLinesNow_10 : decode cX8_falseLinesNow 10 = .ok (.iload_n 1, 1) := by decide +kernel
theorem dX8_falseLinesNow_11 : decode cX8_falseLinesNow 11 = .ok (.iaload, 1) := by decide +kernel
theorem dX8_falseLinesNow_12 : decode cX8_falseLinesNow 12 = .ok (.invokestatic 42, 3) := by decide +kernel
theorem dX8_falseLinesNow_15 : decode cX8_falseLinesNow 15 = .ok (.ireturn, 1) := by decide +kernel
set_option maxRecDepth 20000 in
theorem ggX8_trueNow_X8_falseLinesNow : GoodIn wsX8_trueNow wsX8_falseLinesNow := goodIn_r _ [6, 7, 8, 9, 10, 11, 12, 13, 14, 15, 16, 17, 18, 19, 20, 21, 22, 23, 24, 25, 26] (by decide +kernel) (by decide +kernel)
set_option maxRecDepth 20000 in
theorem gX8_trueNow_X8_falseLinesNow : GoodIn wsX8_trueNow (wsV RX8 46 RX8 yX8_falseLinesNow wsX8_falseLinesNow) := goodIn_app (goodIn_of _ (by decide +kernel)) ggX8_trueNow_X8_falseLinesNow
theorem dX8_trueNow_0 : decode cX8_trueNow 0 = .ok (.iconst 0, 1) := by decide +kernel
theorem dX8_trueNow_1 : decode cX8_trueNow 1 = .ok (.istore_n 1, 1) := by decide +kernel
theorem dX8_trueNow_2 : decode cX8_trueNow 2 = .ok (.iconst 0, 1) := by decide +kernel
theorem dX8_trueNow_3 : decode cX8_trueNow 3 = .ok (.istore_n 2, 1) := by decide +kernel
theorem dX8_trueNow_4 : decode cX8_trueNow 4 = .ok (.iload_n 2, 1) := by decide +kernel
theorem dX8_trueNow_5 : decode cX8_trueNow 5 = .ok (.aload_n 0, 1) := by decide +kernel
theorem dX8_trueNow_6 : decode cX8_trueNow 6 = .ok (.getfield 22, 3) := by decide +kernel
theorem dX8_trueNow_9 : decode cX8_trueNow 9 = .ok (.if_icmp .ge 20, 3) := by decide +kernel
theorem dX8_trueNow_12 : decode cX8_trueNow 12 = .ok (.aload_n 0, 1) := by decide +kernel
theorem dX8_trueNow_13 : decode cX8_trueNow 13 = .ok (.iload_n 2, 1) := by decide +kernel
theorem dX8_trueNow_14 : decode cX8_trueNow 14 = .ok (.invokevirtual 46, 3) := by decide +kernel
theorem dX8_trueNow_17 : decode cX8_trueNow 17 = .ok (.ifCond .ne 6, 3) := by decide +kernel
theorem dX8_trueNow_20 : decode cX8_trueNow 20 = .ok (.iinc 1 1, 3) := by decide +kernel
theorem dX8_trueNow_23 : decode cX8_trueNow 23 = .ok (.iinc 2 1, 3) := by decide +kernel
theorem dX8_trueNow_26 : decode cX8_trueNow 26 = .ok (.goto (-22), 3) := by decide +kernel
theorem dX8_trueNow_29 : decode cX8_trueNow 29 = .ok (.iload_n 1, 1) := by decide +kernel
theorem dX8_trueNow_30 : decode cX8_trueNow 30 = .ok (.ireturn, 1) := by decide +kernel
set_option maxRecDepth 20000 in
theorem ggX8_readersToPrint_X8_linesPrinted : GoodIn wsX8_readersToPrint wsX8_linesPrinted := goodIn_r _ [7, 1, 8, 9, 10, 11, 12, 13, 14, 15, 25, 26, 27, 28, 29, 30, 31, 32] (by decide +kernel) (by decide +kernel)
set_option maxRecDepth 20000 in
theorem gX8_readersToPrint_X8_linesPrinted : GoodIn wsX8_readersToPrint (wsV RX8 49 RX8 yX8_linesPrinted wsX8_linesPrinted) := goodIn_app (goodIn_of _ (by decide +kernel)) ggX8_readersToPrint_X8_linesPrinted
set_option maxRecDepth 20000 in
theorem ggX8_readersToPrint_X8_isBetterPrinted : GoodIn wsX8_readersToPrint wsX8_isBetterPrinted := goodIn_r _ [19, 20, 21, 22, 6, 23, 1, 8, 24, 9, 10, 11, 12, 13, 14, 15, 25, 26, 27, 28, 29, 30, 31, 32] (by decide +kernel) (by decide +kernel)
set_option maxRecDepth 20000 in
theorem gX8_readersToPrint_X8_isBetterPrinted : GoodIn wsX8_readersToPrint (wsV RX8 52 RX8 yX8_isBetterPrinted wsX8_isBetterPrinted) := goodIn_app (goodIn_of _ (by decide +kernel)) ggX8_readersToPrint_X8_isBetterPrinted
theorem dX8_readersToPrint_0 : decode cX8_readersToPrint 0 = .ok (.iconst 0, 1) := by decide +kernel
theorem dX8_readersToPrint_1 : decode cX8_readersToPrint 1 = .ok (.istore_n 1, 1) := by decide +kernel
theorem dX8_readersToPrint_2 : decode cX8_readersToPrint 2 = .ok (.iconst 1, 1) := by decide +kernel
theorem dX8_readersToPrint_3 : decode cX8_readersToPrint 3 = .ok (.istore_n 2, 1) := by decide +kernel
theorem dX8_readersToPrint_4 : decode cX8_readersToPrint 4 = .ok (.iload_n 2, 1) := by decide +kernel
theorem dX8_readersToPrint_5 : decode cX8_readersToPrint 5 = .ok (.iconst 1, 1) := by decide +kernel
theorem dX8_readersToPrint_6 : decode cX8_readersToPrint 6 = .ok (.aload_n 0, 1) := by decide +kernel
theorem dX8_readersToPrint_7 : decode cX8_readersToPrint 7 = .ok (.getfield 22, 3) := by decide +kernel
theorem dX8_readersToPrint_10 : decode cX8_readersToPrint 10 = .ok (.ishl, 1) := by decide +kernel
theorem dX8_readersToPrint_11 : decode cX8_readersToPrint 11 = .ok (.if_icmp .ge 32, 3) := by decide +kernel
theorem dX8_readersToPrint_14 : decode cX8_readersToPrint 14 = .ok (.aload_n 0, 1) := by decide +kernel
theorem dX8_readersToPrint_15 : decode cX8_readersToPrint 15 = .ok (.iload_n 2, 1) := by decide +kernel
theorem dX8_readersToPrint_16 : decode cX8_readersToPrint 16 = .ok (.invokevirtual 49, 3) := by decide +kernel
theorem dX8_readersToPrint_19 : decode cX8_readersToPrint 19 = .ok (.aload_n 0, 1) := by decide +kernel
theorem dX8_readersToPrint_20 : decode cX8_readersToPrint 20 = .ok (.getfield 19, 3) := by decide +kernel
theorem dX8_readersToPrint_23 : decode cX8_readersToPrint 23 = .ok (.if_icmp .gt 14, 3) := by decide +kernel
theorem dX8_readersToPrint_26 : decode cX8_readersToPrint 26 = .ok (.aload_n 0, 1) := by decide +kernel
theorem dX8_readersToPrint_27 : decode cX8_readersToPrint 27 = .ok (.iload_n 2, 1) := by decide +kernel
theorem dX8_readersToPrint_28 : decode cX8_readersToPrint 28 = .ok (.iload_n 1, 1) := by decide +kernel
theorem dX8_readersToPrint_29 : decode cX8_readersToPrint 29 = .ok (.invokevirtual 52, 3) := by decide +kernel
theorem dX8_readersToPrint_32 : decode cX8_readersToPrint 32 = .ok (.ifCond .eq 5, 3) := by decide +kernel
theorem dX8_readersToPrint_35 : decode cX8_readersToPrint 35 = .ok (.iload_n 2, 1) := by decide +kernel
theorem dX8_readersToPrint_36 : decode cX8_readersToPrint 36 = .ok (.istore_n 1, 1) := by decide +kernel
theorem dX8_readersToPrint_37 : decode cX8_readersToPrint 37 = .ok (.iinc 2 1, 3) := by decide +kernel
theorem dX8_readersToPrint_40 : decode cX8_readersToPrint 40 = .ok (.goto (-36), 3) := by decide +kernel
theorem dX8_readersToPrint_43 : decode cX8_readersToPrint 43 = .ok (.iload_n 1, 1) := by decide +kernel
theorem dX8_readersToPrint_44 : decode cX8_readersToPrint 44 = .ok (.ireturn, 1) := by decide +kernel
set_option maxRecDepth 20000 in
theorem ggX8_isBetterPrinted_X8_deedsPrinted : GoodIn wsX8_isBetterPrinted wsX8_deedsPrinted := goodIn_r _ [5, 6, 7, 8, 9, 10, 11, 12, 13, 14, 15, 16, 17, 18, 19, 20, 21, 22, 23] (by decide +kernel) (by decide +kernel)
set_option maxRecDepth 20000 in
theorem gX8_isBetterPrinted_X8_deedsPrinted : GoodIn wsX8_isBetterPrinted (wsV RX8 56 RX8 yX8_deedsPrinted wsX8_deedsPrinted) := goodIn_app (goodIn_of _ (by decide +kernel)) ggX8_isBetterPrinted_X8_deedsPrinted
set_option maxRecDepth 20000 in
theorem ggX8_isBetterPrinted_J6_bitCount_0f7a4 : GoodIn wsX8_isBetterPrinted wsJ6_bitCount_0f7a4 := goodIn_r _ [12, 13, 14, 15] (by decide +kernel) (by decide +kernel)
set_option maxRecDepth 20000 in
theorem gX8_isBetterPrinted_J6_bitCount_0f7a4 : GoodIn wsX8_isBetterPrinted (va_wsS RX8 59 yJ6_bitCount_0f7a4 wsJ6_bitCount_0f7a4) := goodIn_app (goodIn_of _ (by decide +kernel)) ggX8_isBetterPrinted_J6_bitCount_0f7a4
theorem dX8_isBetterPrinted_0 : decode cX8_isBetterPrinted 0 = .ok (.aload_n 0, 1) := by decide +kernel
theorem dX8_isBetterPrinted_1 : decode cX8_isBetterPrinted 1 = .ok (.iload_n 1, 1) := by decide +kernel
theorem dX8_isBetterPrinted_2 : decode cX8_isBetterPrinted 2 = .ok (.invokevirtual 56, 3) := by decide +kernel
theorem dX8_isBetterPrinted_5 : decode cX8_isBetterPrinted 5 = .ok (.aload_n 0, 1) := by decide +kernel
theorem dX8_isBetterPrinted_6 : decode cX8_isBetterPrinted 6 = .ok (.iload_n 2, 1) := by decide +kernel
theorem dX8_isBetterPrinted_7 : decode cX8_isBetterPrinted 7 = .ok (.invokevirtual 56, 3) := by decide +kernel
theorem dX8_isBetterPrinted_10 : decode cX8_isBetterPrinted 10 = .ok (.isub, 1) := by decide +kernel
theorem dX8_isBetterPrinted_11 : decode cX8_isBetterPrinted 11 = .ok (.istore_n 3, 1) := by decide +kernel
theorem dX8_isBetterPrinted_12 : decode cX8_isBetterPrinted 12 = .ok (.iload_n 3, 1) := by decide +kernel
theorem dX8_isBetterPrinted_13 : decode cX8_isBetterPrinted 13 = .ok (.ifCond .gt 18, 3) := by decide +kernel
theorem dX8_isBetterPrinted_16 : decode cX8_isBetterPrinted 16 = .ok (.iload_n 3, 1) := by decide +kernel
theorem dX8_isBetterPrinted_17 : decode cX8_isBetterPrinted 17 = .ok (.ifCond .ne 18, 3) := by decide +kernel
theorem dX8_isBetterPrinted_20 : decode cX8_isBetterPrinted 20 = .ok (.iload_n 1, 1) := by decide +kernel
theorem dX8_isBetterPrinted_21 : decode cX8_isBetterPrinted 21 = .ok (.invokestatic 59, 3) := by decide +kernel
theorem dX8_isBetterPrinted_24 : decode cX8_isBetterPrinted 24 = .ok (.iload_n 2, 1) := by decide +kernel
theorem dX8_isBetterPrinted_25 : decode cX8_isBetterPrinted 25 = .ok (.invokestatic 59, 3) := by decide +kernel
theorem dX8_isBetterPrinted_28 : decode cX8_isBetterPrinted 28 = .ok (.if_icmp .ge 7, 3) := by decide +kernel
theorem dX8_isBetterPrinted_31 : decode cX8_isBetterPrinted 31 = .ok (.iconst 1, 1) := by decide +kernel
theorem dX8_isBetterPrinted_32 : decode cX8_isBetterPrinted 32 = .ok (.goto 4, 3) := by decide +kernel
theorem dX8_isBetterPrinted_35 : decode cX8_isBetterPrinted 35 = .ok (.iconst 0, 1) := by decide +kernel
theorem dX8_isBetterPrinted_36 : decode cX8_isBetterPrinted 36 = .ok (.ireturn, 1) := by decide +kernel
set_option maxRecDepth 20000 in
theorem ggX8_linesPrinted_J6_bitCount_0f7a4 : GoodIn wsX8_linesPrinted wsJ6_bitCount_0f7a4 := goodIn_r _ [6, 7, 8, 9] (by decide +kernel) (by decide +kernel)
set_option maxRecDepth 20000 in
theorem gX8_linesPrinted_J6_bitCount_0f7a4 : GoodIn wsX8_linesPrinted (va_wsS RX8 59 yJ6_bitCount_0f7a4 wsJ6_bitCount_0f7a4) := goodIn_app (goodIn_of _ (by decide +kernel)) ggX8_linesPrinted_J6_bitCount_0f7a4
theorem dX8_linesPrinted_0 : decode cX8_linesPrinted 0 = .ok (.iconst 0, 1) := by decide +kernel
theorem dX8_linesPrinted_1 : decode cX8_linesPrinted 1 = .ok (.istore_n 2, 1) := by decide +kernel
theorem dX8_linesPrinted_2 : decode cX8_linesPrinted 2 = .ok (.iconst 0, 1) := by decide +kernel
theorem dX8_linesPrinted_3 : decode cX8_linesPrinted 3 = .ok (.istore_n 3, 1) := by decide +kernel
theorem dX8_linesPrinted_4 : decode cX8_linesPrinted 4 = .ok (.iload_n 3, 1) := by decide +kernel
theorem dX8_linesPrinted_5 : decode cX8_linesPrinted 5 = .ok (.aload_n 0, 1) := by decide +kernel
theorem dX8_linesPrinted_6 : decode cX8_linesPrinted 6 = .ok (.getfield 22, 3) := by decide +kernel
theorem dX8_linesPrinted_9 : decode cX8_linesPrinted 9 = .ok (.if_icmp .ge 29, 3) := by decide +kernel
theorem dX8_linesPrinted_12 : decode cX8_linesPrinted 12 = .ok (.iload_n 1, 1) := by decide +kernel
theorem dX8_linesPrinted_13 : decode cX8_linesPrinted 13 = .ok (.iload_n 3, 1) := by decide +kernel
theorem dX8_linesPrinted_14 : decode cX8_linesPrinted 14 = .ok (.ishr, 1) := by decide +kernel
theorem dX8_linesPrinted_15 : decode cX8_linesPrinted 15 = .ok (.iconst 1, 1) := by decide +kernel
theorem dX8_linesPrinted_16 : decode cX8_linesPrinted 16 = .ok (.iand, 1) := by decide +kernel
theorem dX8_linesPrinted_17 : decode cX8_linesPrinted 17 = .ok (.ifCond .eq 15, 3) := by decide +kernel
theorem dX8_linesPrinted_20 : decode cX8_linesPrinted 20 = .ok (.iload_n 2, 1) := by decide +kernel
theorem dX8_linesPrinted_21 : decode cX8_linesPrinted 21 = .ok (.aload_n 0, 1) := by decide +kernel
theorem dX8_linesPrinted_22 : decode cX8_linesPrinted 22 = .ok (.getfield 32, 3) := by decide +kernel
theorem dX8_linesPrinted_25 : decode cX8_linesPrinted 25 = .ok (.iload_n 3, 1) := by decide +kernel
theorem dX8_linesPrinted_26 : decode cX8_linesPrinted 26 = .ok (.iaload, 1) := by decide +kernel
theorem dX8_linesPrinted_27 : decode cX8_linesPrinted 27 = .ok (.invokestatic 59, 3) := by decide +kernel
theorem dX8_linesPrinted_30 : decode cX8_linesPrinted 30 = .ok (.iadd, 1) := by decide +kernel
theorem dX8_linesPrinted_31 : decode cX8_linesPrinted 31 = .ok (.istore_n 2, 1) := by decide +kernel
theorem dX8_linesPrinted_32 : decode cX8_linesPrinted 32 = .ok (.iinc 3 1, 3) := by decide +kernel
theorem dX8_linesPrinted_35 : decode cX8_linesPrinted 35 = .ok (.goto (-31), 3) := by decide +kernel
theorem dX8_linesPrinted_38 : decode cX8_linesPrinted 38 = .ok (.iload_n 2, 1) := by decide +kernel
theorem dX8_linesPrinted_39 : decode cX8_linesPrinted 39 = .ok (.ireturn, 1) := by decide +kernel
set_option maxRecDepth 20000 in
theorem ggX8_deedsPrinted_J6_bitCount_0f7a4 : GoodIn wsX8_deedsPrinted wsJ6_bitCount_0f7a4 := goodIn_r _ [7, 8, 9, 10] (by decide +kernel) (by decide +kernel)
set_option maxRecDepth 20000 in
theorem gX8_deedsPrinted_J6_bitCount_0f7a4 : GoodIn wsX8_deedsPrinted (va_wsS RX8 59 yJ6_bitCount_0f7a4 wsJ6_bitCount_0f7a4) := goodIn_app (goodIn_of _ (by decide +kernel)) ggX8_deedsPrinted_J6_bitCount_0f7a4
theorem dX8_deedsPrinted_0 : decode cX8_deedsPrinted 0 = .ok (.iconst 0, 1) := by decide +kernel
theorem dX8_deedsPrinted_1 : decode cX8_deedsPrinted 1 = .ok (.istore_n 2, 1) := by decide +kernel
theorem dX8_deedsPrinted_2 : decode cX8_deedsPrinted 2 = .ok (.iconst 0, 1) := by decide +kernel
theorem dX8_deedsPrinted_3 : decode cX8_deedsPrinted 3 = .ok (.istore_n 3, 1) := by decide +kernel
theorem dX8_deedsPrinted_4 : decode cX8_deedsPrinted 4 = .ok (.iload_n 3, 1) := by decide +kernel
theorem dX8_deedsPrinted_5 : decode cX8_deedsPrinted 5 = .ok (.aload_n 0, 1) := by decide +kernel
theorem dX8_deedsPrinted_6 : decode cX8_deedsPrinted 6 = .ok (.getfield 22, 3) := by decide +kernel
theorem dX8_deedsPrinted_9 : decode cX8_deedsPrinted 9 = .ok (.if_icmp .ge 36, 3) := by decide +kernel
theorem dX8_deedsPrinted_12 : decode cX8_deedsPrinted 12 = .ok (.iload_n 1, 1) := by decide +kernel
theorem dX8_deedsPrinted_13 : decode cX8_deedsPrinted 13 = .ok (.iload_n 3, 1) := by decide +kernel
theorem dX8_deedsPrinted_14 : decode cX8_deedsPrinted 14 = .ok (.ishr, 1) := by decide +kernel
theorem dX8_deedsPrinted_15 : decode cX8_deedsPrinted 15 = .ok (.iconst 1, 1) := by decide +kernel
theorem dX8_deedsPrinted_16 : decode cX8_deedsPrinted 16 = .ok (.iand, 1) := by decide +kernel
theorem dX8_deedsPrinted_17 : decode cX8_deedsPrinted 17 = .ok (.ifCond .eq 22, 3) := by decide +kernel
theorem dX8_deedsPrinted_20 : decode cX8_deedsPrinted 20 = .ok (.iload_n 2, 1) := by decide +kernel
theorem dX8_deedsPrinted_21 : decode cX8_deedsPrinted 21 = .ok (.aload_n 0, 1) := by decide +kernel
theorem dX8_deedsPrinted_22 : decode cX8_deedsPrinted 22 = .ok (.getfield 32, 3) := by decide +kernel
theorem dX8_deedsPrinted_25 : decode cX8_deedsPrinted 25 = .ok (.iload_n 3, 1) := by decide +kernel
theorem dX8_deedsPrinted_26 : decode cX8_deedsPrinted 26 = .ok (.iaload, 1) := by decide +kernel
theorem dX8_deedsPrinted_27 : decode cX8_deedsPrinted 27 = .ok (.aload_n 0, 1) := by decide +kernel
theorem dX8_deedsPrinted_28 : decode cX8_deedsPrinted 28 = .ok (.getfield 29, 3) := by decide +kernel
theorem dX8_deedsPrinted_31 : decode cX8_deedsPrinted 31 = .ok (.iload_n 3, 1) := by decide +kernel
theorem dX8_deedsPrinted_32 : decode cX8_deedsPrinted 32 = .ok (.iaload, 1) := by decide +kernel
theorem dX8_deedsPrinted_33 : decode cX8_deedsPrinted 33 = .ok (.iand, 1) := by decide +kernel
theorem dX8_deedsPrinted_34 : decode cX8_deedsPrinted 34 = .ok (.invokestatic 59, 3) := by decide +kernel
theorem dX8_deedsPrinted_37 : decode cX8_deedsPrinted 37 = .ok (.iadd, 1) := by decide +kernel
theorem dX8_deedsPrinted_38 : decode cX8_deedsPrinted 38 = .ok (.istore_n 2, 1) := by decide +kernel
theorem dX8_deedsPrinted_39 : decode cX8_deedsPrinted 39 = .ok (.iinc 3 1, 3) := by decide +kernel
theorem dX8_deedsPrinted_42 : decode cX8_deedsPrinted 42 = .ok (.goto (-38), 3) := by decide +kernel
theorem dX8_deedsPrinted_45 : decode cX8_deedsPrinted 45 = .ok (.iload_n 2, 1) := by decide +kernel
theorem dX8_deedsPrinted_46 : decode cX8_deedsPrinted 46 = .ok (.ireturn, 1) := by decide +kernel
theorem dX9_init_0 : decode cX9_init 0 = .ok (.aload_n 0, 1) := by decide +kernel
theorem dX9_init_1 : decode cX9_init 1 = .ok (.invokespecial 3, 3) := by decide +kernel
theorem dX9_init_4 : decode cX9_init 4 = .ok (.aload_n 0, 1) := by decide +kernel
theorem dX9_init_5 : decode cX9_init 5 = .ok (.bipush 16, 2) := by decide +kernel
theorem dX9_init_7 : decode cX9_init 7 = .ok (.newarray .int, 2) := by decide +kernel
theorem dX9_init_9 : decode cX9_init 9 = .ok (.putfield 11, 3) := by decide +kernel
theorem dX9_init_12 : decode cX9_init 12 = .ok (.aload_n 0, 1) := by decide +kernel
theorem dX9_init_13 : decode cX9_init 13 = .ok (.iconst 0, 1) := by decide +kernel
theorem dX9_init_14 : decode cX9_init 14 = .ok (.putfield 15, 3) := by decide +kernel
theorem dX9_init_17 : decode cX9_init 17 = .ok (.return_, 1) := by decide +kernel
theorem dX9_clear_0 : decode cX9_clear 0 = .ok (.aload_n 0, 1) := by decide +kernel
theorem dX9_clear_1 : decode cX9_clear 1 = .ok (.iconst 0, 1) := by decide +kernel
theorem dX9_clear_2 : decode cX9_clear 2 = .ok (.putfield 15, 3) := by decide +kernel
theorem dX9_clear_5 : decode cX9_clear 5 = .ok (.return_, 1) := by decide +kernel
theorem dX9_leave_0 : decode cX9_leave 0 = .ok (.aload_n 0, 1) := by decide +kernel
theorem dX9_leave_1 : decode cX9_leave 1 = .ok (.getfield 15, 3) := by decide +kernel
theorem dX9_leave_4 : decode cX9_leave 4 = .ok (.bipush 16, 2) := by decide +kernel
theorem dX9_leave_6 : decode cX9_leave 6 = .ok (.if_icmp .ge 23, 3) := by decide +kernel
theorem dX9_leave_9 : decode cX9_leave 9 = .ok (.aload_n 0, 1) := by decide +kernel
theorem dX9_leave_10 : decode cX9_leave 10 = .ok (.getfield 11, 3) := by decide +kernel
theorem dX9_leave_13 : decode cX9_leave 13 = .ok (.aload_n 0, 1) := by decide +kernel
theorem dX9_leave_14 : decode cX9_leave 14 = .ok (.getfield 15, 3) := by decide +kernel
theorem dX9_leave_17 : decode cX9_leave 17 = .ok (.iload_n 1, 1) := by decide +kernel
theorem dX9_leave_18 : decode cX9_leave 18 = .ok (.iastore, 1) := by decide +kernel
theorem dX9_leave_19 : decode cX9_leave 19 = .ok (.aload_n 0, 1) := by decide +kernel
theorem dX9_leave_20 : decode cX9_leave 20 = .ok (.dup, 1) := by decide +kernel
theorem dX9_leave_21 : decode cX9_leave 21 = .ok (.getfield 15, 3) := by decide +kernel
theorem dX9_leave_24 : decode cX9_leave 24 = .ok (.iconst 1, 1) := by decide +kernel
theorem dX9_leave_25 : decode cX9_leave 25 = .ok (.iadd, 1) := by decide +kernel
theorem dX9_leave_26 : decode cX9_leave 26 = .ok (.putfield 15, 3) := by decide +kernel
theorem dX9_leave_29 : decode cX9_leave 29 = .ok (.return_, 1) := by decide +kernel
theorem dX9_numberAt_0 : decode cX9_numberAt 0 = .ok (.iload_n 1, 1) := by decide +kernel
theorem dX9_numberAt_1 : decode cX9_numberAt 1 = .ok (.ifCond .lt 20, 3) := by decide +kernel
theorem dX9_numberAt_4 : decode cX9_numberAt 4 = .ok (.iload_n 1, 1) := by decide +kernel
theorem dX9_numberAt_5 : decode cX9_numberAt 5 = .ok (.aload_n 0, 1) := by decide +kernel
theorem dX9_numberAt_6 : decode cX9_numberAt 6 = .ok (.getfield 15, 3) := by decide +kernel
theorem dX9_numberAt_9 : decode cX9_numberAt 9 = .ok (.if_icmp .ge 12, 3) := by decide +kernel
theorem dX9_numberAt_12 : decode cX9_numberAt 12 = .ok (.aload_n 0, 1) := by decide +kernel
theorem dX9_numberAt_13 : decode cX9_numberAt 13 = .ok (.getfield 11, 3) := by decide +kernel
theorem dX9_numberAt_16 : decode cX9_numberAt 16 = .ok (.iload_n 1, 1) := by decide +kernel
theorem dX9_numberAt_17 : decode cX9_numberAt 17 = .ok (.iaload, 1) := by decide +kernel
theorem dX9_numberAt_18 : decode cX9_numberAt 18 = .ok (.goto 5, 3) := by decide +kernel
theorem dX9_numberAt_21 : decode cX9_numberAt 21 = .ok (.ldc 19, 2) := by decide +kernel
theorem dX9_numberAt_23 : decode cX9_numberAt 23 = .ok (.ireturn, 1) := by decide +kernel
set_option maxRecDepth 20000 in
theorem ggX10_init_X3_init : GoodIn wsX10_init wsX3_init := goodIn_r _ [3, 4, 5, 6, 7, 8, 9] (by decide +kernel) (by decide +kernel)
set_option maxRecDepth 20000 in
theorem gX10_init_X3_init_n1 : GoodIn wsX10_init (wsX3_init) := ggX10_init_X3_init
theorem dX10_init_0 : decode cX10_init 0 = .ok (.aload_n 0, 1) := by decide +kernel
theorem dX10_init_1 : decode cX10_init 1 = .ok (.invokespecial 1, 3) := by decide +kernel
theorem dX10_init_4 : decode cX10_init 4 = .ok (.return_, 1) := by decide +kernel
set_option maxRecDepth 20000 in
theorem ggX10_deedsOn_X3_deedsOn : GoodIn wsX10_deedsOn wsX3_deedsOn := goodIn_r _ [6, 7, 8, 9] (by decide +kernel) (by decide +kernel)
set_option maxRecDepth 20000 in
theorem gX10_deedsOn_X3_deedsOn_s7 : GoodIn wsX10_deedsOn (va_wsSU RX10 7 yX3_deedsOn wsX3_deedsOn) := goodIn_app (goodIn_of _ (by decide +kernel)) ggX10_deedsOn_X3_deedsOn
set_option maxRecDepth 20000 in
theorem ggX10_deedsOn_X11_least : GoodIn wsX10_deedsOn wsX11_least := goodIn_r _ [9] (by decide +kernel) (by decide +kernel)
set_option maxRecDepth 20000 in
theorem gX10_deedsOn_X11_least_n11 : GoodIn wsX10_deedsOn (wsX11_least) := ggX10_deedsOn_X11_least
theorem dX10_deedsOn_0 : decode cX10_deedsOn 0 = .ok (.aload_n 0, 1) := by decide +kernel
theorem dX10_deedsOn_1 : decode cX10_deedsOn 1 = .ok (.iload_n 1, 1) := by decide +kernel
theorem dX10_deedsOn_2 : decode cX10_deedsOn 2 = .ok (.iload_n 2, 1) := by decide +kernel
theorem dX10_deedsOn_3 : decode cX10_deedsOn 3 = .ok (.iload_n 3, 1) := by decide +kernel
theorem dX10_deedsOn_4 : decode cX10_deedsOn 4 = .ok (.invokespecial 7, 3) := by decide +kernel
theorem dX10_deedsOn_7 : decode cX10_deedsOn 7 = .ok (.istore 4, 2) := by decide +kernel
theorem dX10_deedsOn_9 : decode cX10_deedsOn 9 = .ok (.iload 4, 2) := by decide +kernel
theorem dX10_deedsOn_11 : decode cX10_deedsOn 11 = .ok (.iload_n 3, 1) := by decide +kernel
theorem dX10_deedsOn_12 : decode cX10_deedsOn 12 = .ok (.iload_n 2, 1) := by decide +kernel
theorem dX10_deedsOn_13 : decode cX10_deedsOn 13 = .ok (.iconst (-1), 1) := by decide +kernel
theorem dX10_deedsOn_14 : decode cX10_deedsOn 14 = .ok (.ixor, 1) := by decide +kernel
theorem dX10_deedsOn_15 : decode cX10_deedsOn 15 = .ok (.iand, 1) := by decide +kernel
theorem dX10_deedsOn_16 : decode cX10_deedsOn 16 = .ok (.iload 4, 2) := by decide +kernel
theorem dX10_deedsOn_18 : decode cX10_deedsOn 18 = .ok (.iconst (-1), 1) := by decide +kernel
theorem dX10_deedsOn_19 : decode cX10_deedsOn 19 = .ok (.ixor, 1) := by decide +kernel
theorem dX10_deedsOn_20 : decode cX10_deedsOn 20 = .ok (.iand, 1) := by decide +kernel
theorem dX10_deedsOn_21 : decode cX10_deedsOn 21 = .ok (.invokestatic 11, 3) := by decide +kernel
theorem dX10_deedsOn_24 : decode cX10_deedsOn 24 = .ok (.ior, 1) := by decide +kernel
theorem dX10_deedsOn_25 : decode cX10_deedsOn 25 = .ok (.ireturn, 1) := by decide +kernel
set_option maxRecDepth 20000 in
theorem ggX10_size_X9_leave : GoodIn wsX10_size wsX9_leave := goodIn_r _ [5, 6, 7, 55, 56] (by decide +kernel) (by decide +kernel)
set_option maxRecDepth 20000 in
theorem gX10_size_X9_leave : GoodIn wsX10_size (wsV RX10 17 RX9 yX9_leave wsX9_leave) := goodIn_app (goodIn_of _ (by decide +kernel)) ggX10_size_X9_leave
set_option maxRecDepth 20000 in
theorem ggX10_size_X3_size : GoodIn wsX10_size wsX3_size := goodIn_r _ [13, 14, 2, 3, 4, 5, 6, 7, 15, 16, 17, 18, 19, 20, 21, 22, 23, 24, 25, 26, 27, 28, 29, 30, 31, 32, 12, 33, 34, 35, 36, 37, 38, 39, 40, 41, 42, 43, 44, 45, 46, 47, 48, 49, 50, 51, 52, 53, 1, 54, 10, 55, 56, 57, 58, 59, 60, 61, 62, 63, 64] (by decide +kernel) (by decide +kernel)
set_option maxRecDepth 20000 in
theorem gX10_size_X3_size_s23 : GoodIn wsX10_size (va_wsSU RX10 23 yX3_size wsX3_size) := goodIn_app (goodIn_of _ (by decide +kernel)) ggX10_size_X3_size
theorem dX10_size_0 : decode cX10_size 0 = .ok (.aload_n 3, 1) := by decide +kernel
theorem dX10_size_1 : decode cX10_size 1 = .ok (.bipush 12, 2) := by decide +kernel
theorem dX10_size_3 : decode cX10_size 3 = .ok (.invokevirtual 17, 3) := by decide +kernel
theorem dX10_size_6 : decode cX10_size 6 = .ok (.aload_n 0, 1) := by decide +kernel
theorem dX10_size_7 : decode cX10_size 7 = .ok (.aload_n 1, 1) := by decide +kernel
theorem dX10_size_8 : decode cX10_size 8 = .ok (.iload_n 2, 1) := by decide +kernel
theorem dX10_size_9 : decode cX10_size 9 = .ok (.aload_n 3, 1) := by decide +kernel
theorem dX10_size_10 : decode cX10_size 10 = .ok (.invokespecial 23, 3) := by decide +kernel
theorem dX10_size_13 : decode cX10_size 13 = .ok (.ineg, 1) := by decide +kernel
theorem dX10_size_14 : decode cX10_size 14 = .ok (.ireturn, 1) := by decide +kernel
set_option maxRecDepth 20000 in
theorem ggX10_mark_X9_leave : GoodIn wsX10_mark wsX9_leave := goodIn_r _ [5, 6, 7, 30, 31] (by decide +kernel) (by decide +kernel)
set_option maxRecDepth 20000 in
theorem gX10_mark_X9_leave : GoodIn wsX10_mark (wsV RX10 17 RX9 yX9_leave wsX9_leave) := goodIn_app (goodIn_of _ (by decide +kernel)) ggX10_mark_X9_leave
set_option maxRecDepth 20000 in
theorem ggX10_mark_X3_mark : GoodIn wsX10_mark wsX3_mark := goodIn_r _ [13, 14, 15, 2, 3, 4, 5, 6, 7, 16, 17, 18, 19, 20, 21, 22, 23, 24, 25, 26, 27, 28, 29, 32, 33, 34, 35, 36, 37, 38, 39, 30, 31] (by decide +kernel) (by decide +kernel)
set_option maxRecDepth 20000 in
theorem gX10_mark_X3_mark_s27 : GoodIn wsX10_mark (va_wsSU RX10 27 yX3_mark wsX3_mark) := goodIn_app (goodIn_of _ (by decide +kernel)) ggX10_mark_X3_mark
theorem dX10_mark_0 : decode cX10_mark 0 = .ok (.aload_n 3, 1) := by decide +kernel
theorem dX10_mark_1 : decode cX10_mark 1 = .ok (.bipush 24, 2) := by decide +kernel
theorem dX10_mark_3 : decode cX10_mark 3 = .ok (.invokevirtual 17, 3) := by decide +kernel
theorem dX10_mark_6 : decode cX10_mark 6 = .ok (.iconst 2, 1) := by decide +kernel
theorem dX10_mark_7 : decode cX10_mark 7 = .ok (.aload_n 0, 1) := by decide +kernel
theorem dX10_mark_8 : decode cX10_mark 8 = .ok (.aload_n 1, 1) := by decide +kernel
theorem dX10_mark_9 : decode cX10_mark 9 = .ok (.iload_n 2, 1) := by decide +kernel
theorem dX10_mark_10 : decode cX10_mark 10 = .ok (.aload_n 3, 1) := by decide +kernel
theorem dX10_mark_11 : decode cX10_mark 11 = .ok (.invokespecial 27, 3) := by decide +kernel
theorem dX10_mark_14 : decode cX10_mark 14 = .ok (.imul, 1) := by decide +kernel
theorem dX10_mark_15 : decode cX10_mark 15 = .ok (.ireturn, 1) := by decide +kernel
set_option maxRecDepth 20000 in
theorem ggX11_init_X4_init : GoodIn wsX11_init wsX4_init := goodIn_r _ [32, 33, 2, 3, 34, 35, 36, 37, 101, 102, 103] (by decide +kernel) (by decide +kernel)
set_option maxRecDepth 20000 in
theorem gX11_init_X4_init : GoodIn wsX11_init (wsX4_init) := ggX11_init_X4_init
set_option maxRecDepth 20000 in
theorem ggX11_init_X6_init : GoodIn wsX11_init wsX6_init := goodIn_r _ [39, 40, 2, 3, 34, 41, 42, 43, 44, 45, 115, 116, 117, 118, 119] (by decide +kernel) (by decide +kernel)
set_option maxRecDepth 20000 in
theorem gX11_init_X6_init_n18 : GoodIn wsX11_init (wsX6_init) := ggX11_init_X6_init
set_option maxRecDepth 20000 in
theorem ggX11_init_X8_init : GoodIn wsX11_init wsX8_init := goodIn_r _ [47, 48, 2, 3, 49, 50, 51, 52, 34, 53, 54, 55, 56, 120, 121, 122, 123, 124, 125, 126, 127] (by decide +kernel) (by decide +kernel)
set_option maxRecDepth 20000 in
theorem gX11_init_X8_init_n25 : GoodIn wsX11_init (wsX8_init) := ggX11_init_X8_init
set_option maxRecDepth 20000 in
theorem ggX11_init_X2_init : GoodIn wsX11_init wsX2_init := goodIn_r _ [58, 59, 2, 3, 60, 61, 62, 63, 64, 65, 66, 67, 68, 69, 70, 71, 72, 73, 74, 75, 76, 77, 78, 79, 34, 80, 81, 82, 83, 84, 85, 86, 87, 88, 89, 90, 91, 92, 93, 94, 95, 128, 129, 130, 131, 132, 133, 134] (by decide +kernel) (by decide +kernel)
set_option maxRecDepth 20000 in
theorem gX11_init_X2_init_n49 : GoodIn wsX11_init (wsX2_init) := ggX11_init_X2_init
set_option maxRecDepth 20000 in
theorem ggX11_init_X9_init : GoodIn wsX11_init wsX9_init := goodIn_r _ [97, 98, 2, 3, 34, 99, 100, 135, 136] (by decide +kernel) (by decide +kernel)
set_option maxRecDepth 20000 in
theorem gX11_init_X9_init_n56 : GoodIn wsX11_init (wsX9_init) := ggX11_init_X9_init
theorem dX11_init_0 : decode cX11_init 0 = .ok (.aload_n 0, 1) := by decide +kernel
theorem dX11_init_1 : decode cX11_init 1 = .ok (.invokespecial 3, 3) := by decide +kernel
theorem dX11_init_4 : decode cX11_init 4 = .ok (.aload_n 0, 1) := by decide +kernel
theorem dX11_init_5 : decode cX11_init 5 = .ok (.new 9, 3) := by decide +kernel
theorem dX11_init_8 : decode cX11_init 8 = .ok (.dup, 1) := by decide +kernel
theorem dX11_init_9 : decode cX11_init 9 = .ok (.invokespecial 11, 3) := by decide +kernel
theorem dX11_init_12 : decode cX11_init 12 = .ok (.putfield 12, 3) := by decide +kernel
theorem dX11_init_15 : decode cX11_init 15 = .ok (.aload_n 0, 1) := by decide +kernel
theorem dX11_init_16 : decode cX11_init 16 = .ok (.new 16, 3) := by decide +kernel
theorem dX11_init_19 : decode cX11_init 19 = .ok (.dup, 1) := by decide +kernel
theorem dX11_init_20 : decode cX11_init 20 = .ok (.invokespecial 18, 3) := by decide +kernel
theorem dX11_init_23 : decode cX11_init 23 = .ok (.putfield 19, 3) := by decide +kernel
theorem dX11_init_26 : decode cX11_init 26 = .ok (.aload_n 0, 1) := by decide +kernel
theorem dX11_init_27 : decode cX11_init 27 = .ok (.new 23, 3) := by decide +kernel
theorem dX11_init_30 : decode cX11_init 30 = .ok (.dup, 1) := by decide +kernel
theorem dX11_init_31 : decode cX11_init 31 = .ok (.invokespecial 25, 3) := by decide +kernel
theorem dX11_init_34 : decode cX11_init 34 = .ok (.putfield 26, 3) := by decide +kernel
theorem dX11_init_37 : decode cX11_init 37 = .ok (.aload_n 0, 1) := by decide +kernel
theorem dX11_init_38 : decode cX11_init 38 = .ok (.new 23, 3) := by decide +kernel
theorem dX11_init_41 : decode cX11_init 41 = .ok (.dup, 1) := by decide +kernel
theorem dX11_init_42 : decode cX11_init 42 = .ok (.invokespecial 25, 3) := by decide +kernel
theorem dX11_init_45 : decode cX11_init 45 = .ok (.putfield 30, 3) := by decide +kernel
theorem dX11_init_48 : decode cX11_init 48 = .ok (.aload_n 0, 1) := by decide +kernel
theorem dX11_init_49 : decode cX11_init 49 = .ok (.iconst 2, 1) := by decide +kernel
theorem dX11_init_50 : decode cX11_init 50 = .ok (.anewarray 23, 3) := by decide +kernel
theorem dX11_init_53 : decode cX11_init 53 = .ok (.putfield 33, 3) := by decide +kernel
theorem dX11_init_56 : decode cX11_init 56 = .ok (.aload_n 0, 1) := by decide +kernel
theorem dX11_init_57 : decode cX11_init 57 = .ok (.bipush 24, 2) := by decide +kernel
theorem dX11_init_59 : decode cX11_init 59 = .ok (.anewarray 23, 3) := by decide +kernel
theorem dX11_init_62 : decode cX11_init 62 = .ok (.putfield 37, 3) := by decide +kernel
theorem dX11_init_65 : decode cX11_init 65 = .ok (.aload_n 0, 1) := by decide +kernel
theorem dX11_init_66 : decode cX11_init 66 = .ok (.iconst 0, 1) := by decide +kernel
theorem dX11_init_67 : decode cX11_init 67 = .ok (.putfield 40, 3) := by decide +kernel
theorem dX11_init_70 : decode cX11_init 70 = .ok (.aload_n 0, 1) := by decide +kernel
theorem dX11_init_71 : decode cX11_init 71 = .ok (.iconst 0, 1) := by decide +kernel
theorem dX11_init_72 : decode cX11_init 72 = .ok (.putfield 44, 3) := by decide +kernel
theorem dX11_init_75 : decode cX11_init 75 = .ok (.aload_n 0, 1) := by decide +kernel
theorem dX11_init_76 : decode cX11_init 76 = .ok (.new 47, 3) := by decide +kernel
theorem dX11_init_79 : decode cX11_init 79 = .ok (.dup, 1) := by decide +kernel
theorem dX11_init_80 : decode cX11_init 80 = .ok (.invokespecial 49, 3) := by decide +kernel
theorem dX11_init_83 : decode cX11_init 83 = .ok (.putfield 50, 3) := by decide +kernel
theorem dX11_init_86 : decode cX11_init 86 = .ok (.aload_n 0, 1) := by decide +kernel
theorem dX11_init_87 : decode cX11_init 87 = .ok (.new 54, 3) := by decide +kernel
theorem dX11_init_90 : decode cX11_init 90 = .ok (.dup, 1) := by decide +kernel
theorem dX11_init_91 : decode cX11_init 91 = .ok (.invokespecial 56, 3) := by decide +kernel
theorem dX11_init_94 : decode cX11_init 94 = .ok (.putfield 57, 3) := by decide +kernel
theorem dX11_init_97 : decode cX11_init 97 = .ok (.aload_n 0, 1) := by decide +kernel
theorem dX11_init_98 : decode cX11_init 98 = .ok (.iconst 0, 1) := by decide +kernel
theorem dX11_init_99 : decode cX11_init 99 = .ok (.putfield 61, 3) := by decide +kernel
theorem dX11_init_102 : decode cX11_init 102 = .ok (.iconst 0, 1) := by decide +kernel
theorem dX11_init_103 : decode cX11_init 103 = .ok (.istore_n 1, 1) := by decide +kernel
theorem dX11_init_104 : decode cX11_init 104 = .ok (.iload_n 1, 1) := by decide +kernel
theorem dX11_init_105 : decode cX11_init 105 = .ok (.iconst 2, 1) := by decide +kernel
theorem dX11_init_106 : decode cX11_init 106 = .ok (.if_icmp .ge 22, 3) := by decide +kernel
theorem dX11_init_109 : decode cX11_init 109 = .ok (.aload_n 0, 1) := by decide +kernel
theorem dX11_init_110 : decode cX11_init 110 = .ok (.getfield 33, 3) := by decide +kernel
theorem dX11_init_113 : decode cX11_init 113 = .ok (.iload_n 1, 1) := by decide +kernel
theorem dX11_init_114 : decode cX11_init 114 = .ok (.new 23, 3) := by decide +kernel
theorem dX11_init_117 : decode cX11_init 117 = .ok (.dup, 1) := by decide +kernel
theorem dX11_init_118 : decode cX11_init 118 = .ok (.invokespecial 25, 3) := by decide +kernel
theorem dX11_init_121 : decode cX11_init 121 = .ok (.aastore, 1) := by decide +kernel
theorem dX11_init_122 : decode cX11_init 122 = .ok (.iinc 1 1, 3) := by decide +kernel
theorem dX11_init_125 : decode cX11_init 125 = .ok (.goto (-21), 3) := by decide +kernel
theorem dX11_init_128 : decode cX11_init 128 = .ok (.iconst 0, 1) := by decide +kernel
theorem dX11_init_129 : decode cX11_init 129 = .ok (.istore_n 1, 1) := by decide +kernel
theorem dX11_init_130 : decode cX11_init 130 = .ok (.iload_n 1, 1) := by decide +kernel
theorem dX11_init_131 : decode cX11_init 131 = .ok (.bipush 24, 2) := by decide +kernel
theorem dX11_init_133 : decode cX11_init 133 = .ok (.if_icmp .ge 22, 3) := by decide +kernel
theorem dX11_init_136 : decode cX11_init 136 = .ok (.aload_n 0, 1) := by decide +kernel
theorem dX11_init_137 : decode cX11_init 137 = .ok (.getfield 37, 3) := by decide +kernel
theorem dX11_init_140 : decode cX11_init 140 = .ok (.iload_n 1, 1) := by decide +kernel
theorem dX11_init_141 : decode cX11_init 141 = .ok (.new 23, 3) := by decide +kernel
theorem dX11_init_144 : decode cX11_init 144 = .ok (.dup, 1) := by decide +kernel
theorem dX11_init_145 : decode cX11_init 145 = .ok (.invokespecial 25, 3) := by decide +kernel
theorem dX11_init_148 : decode cX11_init 148 = .ok (.aastore, 1) := by decide +kernel
theorem dX11_init_149 : decode cX11_init 149 = .ok (.iinc 1 1, 3) := by decide +kernel
theorem dX11_init_152 : decode cX11_init 152 = .ok (.goto (-22), 3) := by decide +kernel
theorem dX11_init_155 : decode cX11_init 155 = .ok (.return_, 1) := by decide +kernel
set_option maxRecDepth 20000 in
theorem ggX11_row_X4_isRow : GoodIn wsX11_row wsX4_isRow := goodIn_r _ [6] (by decide +kernel) (by decide +kernel)
set_option maxRecDepth 20000 in
theorem gX11_row_X4_isRow : GoodIn wsX11_row (va_wsS RX11 64 yX4_isRow wsX4_isRow) := goodIn_app (goodIn_of _ (by decide +kernel)) ggX11_row_X4_isRow
set_option maxRecDepth 20000 in
theorem ggX11_row_X4_isLane : GoodIn wsX11_row wsX4_isLane := goodIn_r _ [9] (by decide +kernel) (by decide +kernel)
set_option maxRecDepth 20000 in
theorem gX11_row_X4_isLane : GoodIn wsX11_row (va_wsS RX11 68 yX4_isLane wsX4_isLane) := goodIn_app (goodIn_of _ (by decide +kernel)) ggX11_row_X4_isLane
set_option maxRecDepth 20000 in
theorem ggX11_row_X11_found : GoodIn wsX11_row wsX11_found := goodIn_r _ [14, 15, 16, 28, 29, 30, 31, 32, 33, 34, 35, 36, 37, 38] (by decide +kernel) (by decide +kernel)
set_option maxRecDepth 20000 in
theorem gX11_row_X11_found : GoodIn wsX11_row (wsV RX11 72 RX11 yX11_found wsX11_found) := goodIn_app (goodIn_of _ (by decide +kernel)) ggX11_row_X11_found
set_option maxRecDepth 20000 in
theorem ggX11_row_X4_make : GoodIn wsX11_row wsX4_make := goodIn_r _ [20, 21, 22, 23, 39, 40, 41] (by decide +kernel) (by decide +kernel)
set_option maxRecDepth 20000 in
theorem gX11_row_X4_make : GoodIn wsX11_row (wsV RX11 76 RX4 yX4_make wsX4_make) := goodIn_app (goodIn_of _ (by decide +kernel)) ggX11_row_X4_make
set_option maxRecDepth 20000 in
theorem ggX11_row_X11_well : GoodIn wsX11_row wsX11_well := goodIn_r _ [27, 15, 28, 29, 30, 31, 32, 33, 34, 35, 36, 37, 38] (by decide +kernel) (by decide +kernel)
set_option maxRecDepth 20000 in
theorem gX11_row_X11_well : GoodIn wsX11_row (wsV RX11 80 RX11 yX11_well wsX11_well) := goodIn_app (goodIn_of _ (by decide +kernel)) ggX11_row_X11_well
theorem dX11_row_0 : decode cX11_row 0 = .ok (.iload_n 1, 1) := by decide +kernel
theorem dX11_row_1 : decode cX11_row 1 = .ok (.invokestatic 64, 3) := by decide +kernel
theorem dX11_row_4 : decode cX11_row 4 = .ok (.ifCond .eq 16, 3) := by decide +kernel
theorem dX11_row_7 : decode cX11_row 7 = .ok (.iload_n 2, 1) := by decide +kernel
theorem dX11_row_8 : decode cX11_row 8 = .ok (.invokestatic 68, 3) := by decide +kernel
theorem dX11_row_11 : decode cX11_row 11 = .ok (.ifCond .eq 9, 3) := by decide +kernel
theorem dX11_row_14 : decode cX11_row 14 = .ok (.iload_n 3, 1) := by decide +kernel
theorem dX11_row_15 : decode cX11_row 15 = .ok (.bipush 40, 2) := by decide +kernel
theorem dX11_row_17 : decode cX11_row 17 = .ok (.if_icmp .le 6, 3) := by decide +kernel
theorem dX11_row_20 : decode cX11_row 20 = .ok (.ldc 71, 2) := by decide +kernel
theorem dX11_row_22 : decode cX11_row 22 = .ok (.ireturn, 1) := by decide +kernel
theorem dX11_row_23 : decode cX11_row 23 = .ok (.iload_n 3, 1) := by decide +kernel
theorem dX11_row_24 : decode cX11_row 24 = .ok (.ifCond .ge 9, 3) := by decide +kernel
theorem dX11_row_27 : decode cX11_row 27 = .ok (.aload_n 0, 1) := by decide +kernel
theorem dX11_row_28 : decode cX11_row 28 = .ok (.iconst 4, 1) := by decide +kernel
theorem dX11_row_29 : decode cX11_row 29 = .ok (.invokevirtual 72, 3) := by decide +kernel
theorem dX11_row_32 : decode cX11_row 32 = .ok (.ireturn, 1) := by decide +kernel
theorem dX11_row_33 : decode cX11_row 33 = .ok (.aload_n 0, 1) := by decide +kernel
theorem dX11_row_34 : decode cX11_row 34 = .ok (.getfield 12, 3) := by decide +kernel
theorem dX11_row_37 : decode cX11_row 37 = .ok (.iload_n 1, 1) := by decide +kernel
theorem dX11_row_38 : decode cX11_row 38 = .ok (.iload_n 2, 1) := by decide +kernel
theorem dX11_row_39 : decode cX11_row 39 = .ok (.iload_n 3, 1) := by decide +kernel
theorem dX11_row_40 : decode cX11_row 40 = .ok (.invokevirtual 76, 3) := by decide +kernel
theorem dX11_row_43 : decode cX11_row 43 = .ok (.aload_n 0, 1) := by decide +kernel
theorem dX11_row_44 : decode cX11_row 44 = .ok (.iload_n 3, 1) := by decide +kernel
theorem dX11_row_45 : decode cX11_row 45 = .ok (.invokevirtual 80, 3) := by decide +kernel
theorem dX11_row_48 : decode cX11_row 48 = .ok (.ireturn, 1) := by decide +kernel
set_option maxRecDepth 20000 in
theorem ggX11_set_X4_isRow : GoodIn wsX11_set wsX4_isRow := goodIn_r _ [6] (by decide +kernel) (by decide +kernel)
set_option maxRecDepth 20000 in
theorem gX11_set_X4_isRow : GoodIn wsX11_set (va_wsS RX11 64 yX4_isRow wsX4_isRow) := goodIn_app (goodIn_of _ (by decide +kernel)) ggX11_set_X4_isRow
set_option maxRecDepth 20000 in
theorem ggX11_set_X11_lackOf : GoodIn wsX11_set wsX11_lackOf := goodIn_r _ [11, 2, 12, 13, 14, 5, 15, 16, 17, 18, 19, 20, 21, 37, 38, 39, 40, 41, 42, 43, 44, 45, 46, 47, 48, 49, 50] (by decide +kernel) (by decide +kernel)
set_option maxRecDepth 20000 in
theorem gX11_set_X11_lackOf : GoodIn wsX11_set (wsV RX11 83 RX11 yX11_lackOf wsX11_lackOf) := goodIn_app (goodIn_of _ (by decide +kernel)) ggX11_set_X11_lackOf
set_option maxRecDepth 20000 in
theorem ggX11_set_X11_found : GoodIn wsX11_set wsX11_found := goodIn_r _ [25, 26, 27, 37, 38, 39, 40, 41, 42, 43, 44, 45, 46, 47] (by decide +kernel) (by decide +kernel)
set_option maxRecDepth 20000 in
theorem gX11_set_X11_found : GoodIn wsX11_set (wsV RX11 72 RX11 yX11_found wsX11_found) := goodIn_app (goodIn_of _ (by decide +kernel)) ggX11_set_X11_found
set_option maxRecDepth 20000 in
theorem ggX11_set_X4_put : GoodIn wsX11_set wsX4_put := goodIn_r _ [31, 16, 32, 48, 49, 50] (by decide +kernel) (by decide +kernel)
set_option maxRecDepth 20000 in
theorem gX11_set_X4_put : GoodIn wsX11_set (wsV RX11 87 RX4 yX4_put wsX4_put) := goodIn_app (goodIn_of _ (by decide +kernel)) ggX11_set_X4_put
set_option maxRecDepth 20000 in
theorem ggX11_set_X11_well : GoodIn wsX11_set wsX11_well := goodIn_r _ [36, 26, 37, 38, 39, 40, 41, 42, 43, 44, 45, 46, 47] (by decide +kernel) (by decide +kernel)
set_option maxRecDepth 20000 in
theorem gX11_set_X11_well : GoodIn wsX11_set (wsV RX11 80 RX11 yX11_well wsX11_well) := goodIn_app (goodIn_of _ (by decide +kernel)) ggX11_set_X11_well
theorem dX11_set_0 : decode cX11_set 0 = .ok (.iload_n 1, 1) := by decide +kernel
theorem dX11_set_1 : decode cX11_set 1 = .ok (.invokestatic 64, 3) := by decide +kernel
theorem dX11_set_4 : decode cX11_set 4 = .ok (.ifCond .ne 6, 3) := by decide +kernel
theorem dX11_set_7 : decode cX11_set 7 = .ok (.ldc 71, 2) := by decide +kernel
theorem dX11_set_9 : decode cX11_set 9 = .ok (.ireturn, 1) := by decide +kernel
theorem dX11_set_10 : decode cX11_set 10 = .ok (.aload_n 0, 1) := by decide +kernel
theorem dX11_set_11 : decode cX11_set 11 = .ok (.iload_n 1, 1) := by decide +kernel
theorem dX11_set_12 : decode cX11_set 12 = .ok (.iload_n 2, 1) := by decide +kernel
theorem dX11_set_13 : decode cX11_set 13 = .ok (.iconst 1, 1) := by decide +kernel
theorem dX11_set_14 : decode cX11_set 14 = .ok (.invokevirtual 83, 3) := by decide +kernel
theorem dX11_set_17 : decode cX11_set 17 = .ok (.istore 4, 2) := by decide +kernel
theorem dX11_set_19 : decode cX11_set 19 = .ok (.iload 4, 2) := by decide +kernel
theorem dX11_set_21 : decode cX11_set 21 = .ok (.ifCond .eq 10, 3) := by decide +kernel
theorem dX11_set_24 : decode cX11_set 24 = .ok (.aload_n 0, 1) := by decide +kernel
theorem dX11_set_25 : decode cX11_set 25 = .ok (.iload 4, 2) := by decide +kernel
theorem dX11_set_27 : decode cX11_set 27 = .ok (.invokevirtual 72, 3) := by decide +kernel
theorem dX11_set_30 : decode cX11_set 30 = .ok (.ireturn, 1) := by decide +kernel
theorem dX11_set_31 : decode cX11_set 31 = .ok (.aload_n 0, 1) := by decide +kernel
theorem dX11_set_32 : decode cX11_set 32 = .ok (.aload_n 0, 1) := by decide +kernel
theorem dX11_set_33 : decode cX11_set 33 = .ok (.getfield 12, 3) := by decide +kernel
theorem dX11_set_36 : decode cX11_set 36 = .ok (.iload_n 1, 1) := by decide +kernel
theorem dX11_set_37 : decode cX11_set 37 = .ok (.iload_n 2, 1) := by decide +kernel
theorem dX11_set_38 : decode cX11_set 38 = .ok (.iload_n 3, 1) := by decide +kernel
theorem dX11_set_39 : decode cX11_set 39 = .ok (.invokevirtual 87, 3) := by decide +kernel
theorem dX11_set_42 : decode cX11_set 42 = .ok (.invokevirtual 80, 3) := by decide +kernel
theorem dX11_set_45 : decode cX11_set 45 = .ok (.ireturn, 1) := by decide +kernel
set_option maxRecDepth 20000 in
theorem ggX11_copy_X4_isRow : GoodIn wsX11_copy wsX4_isRow := goodIn_r _ [6] (by decide +kernel) (by decide +kernel)
set_option maxRecDepth 20000 in
theorem gX11_copy_X4_isRow : GoodIn wsX11_copy (va_wsS RX11 64 yX4_isRow wsX4_isRow) := goodIn_app (goodIn_of _ (by decide +kernel)) ggX11_copy_X4_isRow
set_option maxRecDepth 20000 in
theorem ggX11_copy_X4_isMissing : GoodIn wsX11_copy wsX4_isMissing := goodIn_r _ [10, 11, 52, 53, 54] (by decide +kernel) (by decide +kernel)
set_option maxRecDepth 20000 in
theorem gX11_copy_X4_isMissing : GoodIn wsX11_copy (wsV RX11 90 RX4 yX4_isMissing wsX4_isMissing) := goodIn_app (goodIn_of _ (by decide +kernel)) ggX11_copy_X4_isMissing
set_option maxRecDepth 20000 in
theorem ggX11_copy_X11_found : GoodIn wsX11_copy wsX11_found := goodIn_r _ [16, 17, 18, 41, 42, 43, 44, 45, 46, 47, 48, 49, 50, 51] (by decide +kernel) (by decide +kernel)
set_option maxRecDepth 20000 in
theorem gX11_copy_X11_found : GoodIn wsX11_copy (wsV RX11 72 RX11 yX11_found wsX11_found) := goodIn_app (goodIn_of _ (by decide +kernel)) ggX11_copy_X11_found
set_option maxRecDepth 20000 in
theorem ggX11_copy_X4_laneOf : GoodIn wsX11_copy wsX4_laneOf := goodIn_r _ [22, 11, 52, 53, 54] (by decide +kernel) (by decide +kernel)
set_option maxRecDepth 20000 in
theorem gX11_copy_X4_laneOf : GoodIn wsX11_copy (wsV RX11 93 RX4 yX4_laneOf wsX4_laneOf) := goodIn_app (goodIn_of _ (by decide +kernel)) ggX11_copy_X4_laneOf
set_option maxRecDepth 20000 in
theorem ggX11_copy_X4_hasPlaces : GoodIn wsX11_copy wsX4_hasPlaces := goodIn_r _ [26, 27, 52, 53, 54] (by decide +kernel) (by decide +kernel)
set_option maxRecDepth 20000 in
theorem gX11_copy_X4_hasPlaces : GoodIn wsX11_copy (wsV RX11 96 RX4 yX4_hasPlaces wsX4_hasPlaces) := goodIn_app (goodIn_of _ (by decide +kernel)) ggX11_copy_X4_hasPlaces
set_option maxRecDepth 20000 in
theorem ggX11_copy_X4_move : GoodIn wsX11_copy wsX4_move := goodIn_r _ [31, 32, 33, 34, 35, 36, 52, 53, 54] (by decide +kernel) (by decide +kernel)
set_option maxRecDepth 20000 in
theorem gX11_copy_X4_move : GoodIn wsX11_copy (wsV RX11 100 RX4 yX4_move wsX4_move) := goodIn_app (goodIn_of _ (by decide +kernel)) ggX11_copy_X4_move
set_option maxRecDepth 20000 in
theorem ggX11_copy_X11_well : GoodIn wsX11_copy wsX11_well := goodIn_r _ [40, 17, 41, 42, 43, 44, 45, 46, 47, 48, 49, 50, 51] (by decide +kernel) (by decide +kernel)
set_option maxRecDepth 20000 in
theorem gX11_copy_X11_well : GoodIn wsX11_copy (wsV RX11 80 RX11 yX11_well wsX11_well) := goodIn_app (goodIn_of _ (by decide +kernel)) ggX11_copy_X11_well
theorem dX11_copy_0 : decode cX11_copy 0 = .ok (.iload_n 1, 1) := by decide +kernel
theorem dX11_copy_1 : decode cX11_copy 1 = .ok (.invokestatic 64, 3) := by decide +kernel
theorem dX11_copy_4 : decode cX11_copy 4 = .ok (.ifCond .eq 10, 3) := by decide +kernel
theorem dX11_copy_7 : decode cX11_copy 7 = .ok (.iload_n 3, 1) := by decide +kernel
theorem dX11_copy_8 : decode cX11_copy 8 = .ok (.invokestatic 64, 3) := by decide +kernel
theorem dX11_copy_11 : decode cX11_copy 11 = .ok (.ifCond .ne 6, 3) := by decide +kernel
theorem dX11_copy_14 : decode cX11_copy 14 = .ok (.ldc 71, 2) := by decide +kernel
theorem dX11_copy_16 : decode cX11_copy 16 = .ok (.ireturn, 1) := by decide +kernel
theorem dX11_copy_17 : decode cX11_copy 17 = .ok (.aload_n 0, 1) := by decide +kernel
theorem dX11_copy_18 : decode cX11_copy 18 = .ok (.getfield 12, 3) := by decide +kernel
theorem dX11_copy_21 : decode cX11_copy 21 = .ok (.iload_n 1, 1) := by decide +kernel
theorem dX11_copy_22 : decode cX11_copy 22 = .ok (.invokevirtual 90, 3) := by decide +kernel
theorem dX11_copy_25 : decode cX11_copy 25 = .ok (.ifCond .ne 14, 3) := by decide +kernel
theorem dX11_copy_28 : decode cX11_copy 28 = .ok (.aload_n 0, 1) := by decide +kernel
theorem dX11_copy_29 : decode cX11_copy 29 = .ok (.getfield 12, 3) := by decide +kernel
theorem dX11_copy_32 : decode cX11_copy 32 = .ok (.iload_n 3, 1) := by decide +kernel
theorem dX11_copy_33 : decode cX11_copy 33 = .ok (.invokevirtual 90, 3) := by decide +kernel
