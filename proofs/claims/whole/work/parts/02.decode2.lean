theorem dX11_copy_36 : decode cX11_copy 36 = .ok (.ifCond .eq 9, 3) := by decide +kernel
theorem dX11_copy_39 : decode cX11_copy 39 = .ok (.aload_n 0, 1) := by decide +kernel
theorem dX11_copy_40 : decode cX11_copy 40 = .ok (.iconst 1, 1) := by decide +kernel
theorem dX11_copy_41 : decode cX11_copy 41 = .ok (.invokevirtual 72, 3) := by decide +kernel
theorem dX11_copy_44 : decode cX11_copy 44 = .ok (.ireturn, 1) := by decide +kernel
theorem dX11_copy_45 : decode cX11_copy 45 = .ok (.aload_n 0, 1) := by decide +kernel
theorem dX11_copy_46 : decode cX11_copy 46 = .ok (.getfield 12, 3) := by decide +kernel
theorem dX11_copy_49 : decode cX11_copy 49 = .ok (.iload_n 1, 1) := by decide +kernel
theorem dX11_copy_50 : decode cX11_copy 50 = .ok (.invokevirtual 93, 3) := by decide +kernel
theorem dX11_copy_53 : decode cX11_copy 53 = .ok (.aload_n 0, 1) := by decide +kernel
theorem dX11_copy_54 : decode cX11_copy 54 = .ok (.getfield 12, 3) := by decide +kernel
theorem dX11_copy_57 : decode cX11_copy 57 = .ok (.iload_n 3, 1) := by decide +kernel
theorem dX11_copy_58 : decode cX11_copy 58 = .ok (.invokevirtual 93, 3) := by decide +kernel
theorem dX11_copy_61 : decode cX11_copy 61 = .ok (.if_icmp .eq 9, 3) := by decide +kernel
theorem dX11_copy_64 : decode cX11_copy 64 = .ok (.aload_n 0, 1) := by decide +kernel
theorem dX11_copy_65 : decode cX11_copy 65 = .ok (.iconst 5, 1) := by decide +kernel
theorem dX11_copy_66 : decode cX11_copy 66 = .ok (.invokevirtual 72, 3) := by decide +kernel
theorem dX11_copy_69 : decode cX11_copy 69 = .ok (.ireturn, 1) := by decide +kernel
theorem dX11_copy_70 : decode cX11_copy 70 = .ok (.aload_n 0, 1) := by decide +kernel
theorem dX11_copy_71 : decode cX11_copy 71 = .ok (.getfield 12, 3) := by decide +kernel
theorem dX11_copy_74 : decode cX11_copy 74 = .ok (.iload_n 1, 1) := by decide +kernel
theorem dX11_copy_75 : decode cX11_copy 75 = .ok (.iload_n 2, 1) := by decide +kernel
theorem dX11_copy_76 : decode cX11_copy 76 = .ok (.iload 5, 2) := by decide +kernel
theorem dX11_copy_78 : decode cX11_copy 78 = .ok (.invokevirtual 96, 3) := by decide +kernel
theorem dX11_copy_81 : decode cX11_copy 81 = .ok (.ifCond .eq 18, 3) := by decide +kernel
theorem dX11_copy_84 : decode cX11_copy 84 = .ok (.aload_n 0, 1) := by decide +kernel
theorem dX11_copy_85 : decode cX11_copy 85 = .ok (.getfield 12, 3) := by decide +kernel
theorem dX11_copy_88 : decode cX11_copy 88 = .ok (.iload_n 3, 1) := by decide +kernel
theorem dX11_copy_89 : decode cX11_copy 89 = .ok (.iload 4, 2) := by decide +kernel
theorem dX11_copy_91 : decode cX11_copy 91 = .ok (.iload 5, 2) := by decide +kernel
theorem dX11_copy_93 : decode cX11_copy 93 = .ok (.invokevirtual 96, 3) := by decide +kernel
theorem dX11_copy_96 : decode cX11_copy 96 = .ok (.ifCond .ne 9, 3) := by decide +kernel
theorem dX11_copy_99 : decode cX11_copy 99 = .ok (.aload_n 0, 1) := by decide +kernel
theorem dX11_copy_100 : decode cX11_copy 100 = .ok (.iconst 2, 1) := by decide +kernel
theorem dX11_copy_101 : decode cX11_copy 101 = .ok (.invokevirtual 72, 3) := by decide +kernel
theorem dX11_copy_104 : decode cX11_copy 104 = .ok (.ireturn, 1) := by decide +kernel
theorem dX11_copy_105 : decode cX11_copy 105 = .ok (.aload_n 0, 1) := by decide +kernel
theorem dX11_copy_106 : decode cX11_copy 106 = .ok (.getfield 12, 3) := by decide +kernel
theorem dX11_copy_109 : decode cX11_copy 109 = .ok (.iload_n 1, 1) := by decide +kernel
theorem dX11_copy_110 : decode cX11_copy 110 = .ok (.iload_n 2, 1) := by decide +kernel
theorem dX11_copy_111 : decode cX11_copy 111 = .ok (.iload_n 3, 1) := by decide +kernel
theorem dX11_copy_112 : decode cX11_copy 112 = .ok (.iload 4, 2) := by decide +kernel
theorem dX11_copy_114 : decode cX11_copy 114 = .ok (.iload 5, 2) := by decide +kernel
theorem dX11_copy_116 : decode cX11_copy 116 = .ok (.invokevirtual 100, 3) := by decide +kernel
theorem dX11_copy_119 : decode cX11_copy 119 = .ok (.aload_n 0, 1) := by decide +kernel
theorem dX11_copy_120 : decode cX11_copy 120 = .ok (.iload 5, 2) := by decide +kernel
theorem dX11_copy_122 : decode cX11_copy 122 = .ok (.invokevirtual 80, 3) := by decide +kernel
theorem dX11_copy_125 : decode cX11_copy 125 = .ok (.ireturn, 1) := by decide +kernel
set_option maxRecDepth 20000 in
theorem ggX11_drop_X4_isRow : GoodIn wsX11_drop wsX4_isRow := goodIn_r _ [6] (by decide +kernel) (by decide +kernel)
set_option maxRecDepth 20000 in
theorem gX11_drop_X4_isRow : GoodIn wsX11_drop (va_wsS RX11 64 yX4_isRow wsX4_isRow) := goodIn_app (goodIn_of _ (by decide +kernel)) ggX11_drop_X4_isRow
set_option maxRecDepth 20000 in
theorem ggX11_drop_X4_isMissing : GoodIn wsX11_drop wsX4_isMissing := goodIn_r _ [10, 11, 43, 44, 45] (by decide +kernel) (by decide +kernel)
set_option maxRecDepth 20000 in
theorem gX11_drop_X4_isMissing : GoodIn wsX11_drop (wsV RX11 90 RX4 yX4_isMissing wsX4_isMissing) := goodIn_app (goodIn_of _ (by decide +kernel)) ggX11_drop_X4_isMissing
set_option maxRecDepth 20000 in
theorem ggX11_drop_X11_found : GoodIn wsX11_drop wsX11_found := goodIn_r _ [16, 17, 18, 32, 33, 34, 35, 36, 37, 38, 39, 40, 41, 42] (by decide +kernel) (by decide +kernel)
set_option maxRecDepth 20000 in
theorem gX11_drop_X11_found : GoodIn wsX11_drop (wsV RX11 72 RX11 yX11_found wsX11_found) := goodIn_app (goodIn_of _ (by decide +kernel)) ggX11_drop_X11_found
set_option maxRecDepth 20000 in
theorem ggX11_drop_X4_sizeOf : GoodIn wsX11_drop wsX4_sizeOf := goodIn_r _ [22, 23, 43, 44, 45] (by decide +kernel) (by decide +kernel)
set_option maxRecDepth 20000 in
theorem gX11_drop_X4_sizeOf : GoodIn wsX11_drop (wsV RX11 104 RX4 yX4_sizeOf wsX4_sizeOf) := goodIn_app (goodIn_of _ (by decide +kernel)) ggX11_drop_X4_sizeOf
set_option maxRecDepth 20000 in
theorem ggX11_drop_X4_lose : GoodIn wsX11_drop wsX4_lose := goodIn_r _ [27, 11, 23, 43, 44, 45] (by decide +kernel) (by decide +kernel)
set_option maxRecDepth 20000 in
theorem gX11_drop_X4_lose : GoodIn wsX11_drop (wsV RX11 107 RX4 yX4_lose wsX4_lose) := goodIn_app (goodIn_of _ (by decide +kernel)) ggX11_drop_X4_lose
set_option maxRecDepth 20000 in
theorem ggX11_drop_X11_well : GoodIn wsX11_drop wsX11_well := goodIn_r _ [31, 17, 32, 33, 34, 35, 36, 37, 38, 39, 40, 41, 42] (by decide +kernel) (by decide +kernel)
set_option maxRecDepth 20000 in
theorem gX11_drop_X11_well : GoodIn wsX11_drop (wsV RX11 80 RX11 yX11_well wsX11_well) := goodIn_app (goodIn_of _ (by decide +kernel)) ggX11_drop_X11_well
theorem dX11_drop_0 : decode cX11_drop 0 = .ok (.iload_n 1, 1) := by decide +kernel
theorem dX11_drop_1 : decode cX11_drop 1 = .ok (.invokestatic 64, 3) := by decide +kernel
theorem dX11_drop_4 : decode cX11_drop 4 = .ok (.ifCond .ne 6, 3) := by decide +kernel
theorem dX11_drop_7 : decode cX11_drop 7 = .ok (.ldc 71, 2) := by decide +kernel
theorem dX11_drop_9 : decode cX11_drop 9 = .ok (.ireturn, 1) := by decide +kernel
theorem dX11_drop_10 : decode cX11_drop 10 = .ok (.aload_n 0, 1) := by decide +kernel
theorem dX11_drop_11 : decode cX11_drop 11 = .ok (.getfield 12, 3) := by decide +kernel
theorem dX11_drop_14 : decode cX11_drop 14 = .ok (.iload_n 1, 1) := by decide +kernel
theorem dX11_drop_15 : decode cX11_drop 15 = .ok (.invokevirtual 90, 3) := by decide +kernel
theorem dX11_drop_18 : decode cX11_drop 18 = .ok (.ifCond .eq 9, 3) := by decide +kernel
theorem dX11_drop_21 : decode cX11_drop 21 = .ok (.aload_n 0, 1) := by decide +kernel
theorem dX11_drop_22 : decode cX11_drop 22 = .ok (.iconst 1, 1) := by decide +kernel
theorem dX11_drop_23 : decode cX11_drop 23 = .ok (.invokevirtual 72, 3) := by decide +kernel
theorem dX11_drop_26 : decode cX11_drop 26 = .ok (.ireturn, 1) := by decide +kernel
theorem dX11_drop_27 : decode cX11_drop 27 = .ok (.aload_n 0, 1) := by decide +kernel
theorem dX11_drop_28 : decode cX11_drop 28 = .ok (.getfield 12, 3) := by decide +kernel
theorem dX11_drop_31 : decode cX11_drop 31 = .ok (.iload_n 1, 1) := by decide +kernel
theorem dX11_drop_32 : decode cX11_drop 32 = .ok (.invokevirtual 104, 3) := by decide +kernel
theorem dX11_drop_35 : decode cX11_drop 35 = .ok (.istore_n 2, 1) := by decide +kernel
theorem dX11_drop_36 : decode cX11_drop 36 = .ok (.aload_n 0, 1) := by decide +kernel
theorem dX11_drop_37 : decode cX11_drop 37 = .ok (.getfield 12, 3) := by decide +kernel
theorem dX11_drop_40 : decode cX11_drop 40 = .ok (.iload_n 1, 1) := by decide +kernel
theorem dX11_drop_41 : decode cX11_drop 41 = .ok (.invokevirtual 107, 3) := by decide +kernel
theorem dX11_drop_44 : decode cX11_drop 44 = .ok (.aload_n 0, 1) := by decide +kernel
theorem dX11_drop_45 : decode cX11_drop 45 = .ok (.iload_n 2, 1) := by decide +kernel
theorem dX11_drop_46 : decode cX11_drop 46 = .ok (.invokevirtual 80, 3) := by decide +kernel
theorem dX11_drop_49 : decode cX11_drop 49 = .ok (.ireturn, 1) := by decide +kernel
set_option maxRecDepth 20000 in
theorem ggX11_feed_X6_isFull : GoodIn wsX11_feed wsX6_isFull := goodIn_r _ [8, 9, 26, 27, 28, 29, 30] (by decide +kernel) (by decide +kernel)
set_option maxRecDepth 20000 in
theorem gX11_feed_X6_isFull : GoodIn wsX11_feed (wsV RX11 111 RX6 yX6_isFull wsX6_isFull) := goodIn_app (goodIn_of _ (by decide +kernel)) ggX11_feed_X6_isFull
set_option maxRecDepth 20000 in
theorem ggX11_feed_X6_append : GoodIn wsX11_feed wsX6_append := goodIn_r _ [13, 14, 9, 26, 27, 28, 29, 30] (by decide +kernel) (by decide +kernel)
set_option maxRecDepth 20000 in
theorem gX11_feed_X6_append : GoodIn wsX11_feed (wsV RX11 116 RX6 yX6_append wsX6_append) := goodIn_app (goodIn_of _ (by decide +kernel)) ggX11_feed_X6_append
theorem dX11_feed_0 : decode cX11_feed 0 = .ok (.iload_n 1, 1) := by decide +kernel
theorem dX11_feed_1 : decode cX11_feed 1 = .ok (.ifCond .lt 10, 3) := by decide +kernel
theorem dX11_feed_4 : decode cX11_feed 4 = .ok (.iload_n 1, 1) := by decide +kernel
theorem dX11_feed_5 : decode cX11_feed 5 = .ok (.sipush 255, 3) := by decide +kernel
theorem dX11_feed_8 : decode cX11_feed 8 = .ok (.if_icmp .le 6, 3) := by decide +kernel
theorem dX11_feed_11 : decode cX11_feed 11 = .ok (.ldc 71, 2) := by decide +kernel
theorem dX11_feed_13 : decode cX11_feed 13 = .ok (.ireturn, 1) := by decide +kernel
theorem dX11_feed_14 : decode cX11_feed 14 = .ok (.aload_n 0, 1) := by decide +kernel
theorem dX11_feed_15 : decode cX11_feed 15 = .ok (.getfield 19, 3) := by decide +kernel
theorem dX11_feed_18 : decode cX11_feed 18 = .ok (.invokevirtual 111, 3) := by decide +kernel
theorem dX11_feed_21 : decode cX11_feed 21 = .ok (.ifCond .eq 6, 3) := by decide +kernel
theorem dX11_feed_24 : decode cX11_feed 24 = .ok (.ldc 115, 2) := by decide +kernel
theorem dX11_feed_26 : decode cX11_feed 26 = .ok (.ireturn, 1) := by decide +kernel
theorem dX11_feed_27 : decode cX11_feed 27 = .ok (.aload_n 0, 1) := by decide +kernel
theorem dX11_feed_28 : decode cX11_feed 28 = .ok (.getfield 19, 3) := by decide +kernel
theorem dX11_feed_31 : decode cX11_feed 31 = .ok (.iload_n 1, 1) := by decide +kernel
theorem dX11_feed_32 : decode cX11_feed 32 = .ok (.invokevirtual 116, 3) := by decide +kernel
theorem dX11_feed_35 : decode cX11_feed 35 = .ok (.ireturn, 1) := by decide +kernel
set_option maxRecDepth 20000 in
theorem ggX11_town_X6_readInto : GoodIn wsX11_town wsX6_readInto := goodIn_r _ [10, 11, 12, 13, 14, 15, 16, 17, 18, 19, 20, 21, 22, 23, 24, 25, 26, 27, 9, 28, 29, 30, 31, 32, 33, 34, 35, 36, 37, 38, 39, 40, 41, 42, 43, 44, 45, 46, 47, 48, 49, 50, 51, 52, 53, 54, 55, 56, 57, 87, 88, 89, 90, 91, 79, 80, 81, 82, 83, 84, 85, 86] (by decide +kernel) (by decide +kernel)
set_option maxRecDepth 20000 in
theorem gX11_town_X6_readInto : GoodIn wsX11_town (wsV RX11 119 RX6 yX6_readInto wsX6_readInto) := goodIn_app (goodIn_of _ (by decide +kernel)) ggX11_town_X6_readInto
set_option maxRecDepth 20000 in
theorem ggX11_town_X8_become : GoodIn wsX11_town wsX8_become := goodIn_r _ [61, 21, 22, 23, 24, 54, 55, 56, 57, 79, 80, 81, 82, 83, 84, 85, 86] (by decide +kernel) (by decide +kernel)
set_option maxRecDepth 20000 in
theorem gX11_town_X8_become : GoodIn wsX11_town (wsV RX11 124 RX8 yX8_become wsX8_become) := goodIn_app (goodIn_of _ (by decide +kernel)) ggX11_town_X8_become
set_option maxRecDepth 20000 in
theorem ggX11_town_X11_forgetActs : GoodIn wsX11_town wsX11_forgetActs := goodIn_r _ [66, 67, 68, 69, 70, 71, 72, 73, 74, 75, 76, 77, 78] (by decide +kernel) (by decide +kernel)
set_option maxRecDepth 20000 in
theorem gX11_town_X11_forgetActs : GoodIn wsX11_town (wsV RX11 128 RX11 yX11_forgetActs wsX11_forgetActs) := goodIn_app (goodIn_of _ (by decide +kernel)) ggX11_town_X11_forgetActs
theorem dX11_town_0 : decode cX11_town 0 = .ok (.aload_n 0, 1) := by decide +kernel
theorem dX11_town_1 : decode cX11_town 1 = .ok (.getfield 19, 3) := by decide +kernel
theorem dX11_town_4 : decode cX11_town 4 = .ok (.aload_n 0, 1) := by decide +kernel
theorem dX11_town_5 : decode cX11_town 5 = .ok (.getfield 30, 3) := by decide +kernel
theorem dX11_town_8 : decode cX11_town 8 = .ok (.invokevirtual 119, 3) := by decide +kernel
theorem dX11_town_11 : decode cX11_town 11 = .ok (.istore_n 1, 1) := by decide +kernel
theorem dX11_town_12 : decode cX11_town 12 = .ok (.iload_n 1, 1) := by decide +kernel
theorem dX11_town_13 : decode cX11_town 13 = .ok (.iconst (-1), 1) := by decide +kernel
theorem dX11_town_14 : decode cX11_town 14 = .ok (.if_icmp .eq 8, 3) := by decide +kernel
theorem dX11_town_17 : decode cX11_town 17 = .ok (.ldc 123, 2) := by decide +kernel
theorem dX11_town_19 : decode cX11_town 19 = .ok (.iload_n 1, 1) := by decide +kernel
theorem dX11_town_20 : decode cX11_town 20 = .ok (.isub, 1) := by decide +kernel
theorem dX11_town_21 : decode cX11_town 21 = .ok (.ireturn, 1) := by decide +kernel
theorem dX11_town_22 : decode cX11_town 22 = .ok (.aload_n 0, 1) := by decide +kernel
theorem dX11_town_23 : decode cX11_town 23 = .ok (.getfield 26, 3) := by decide +kernel
theorem dX11_town_26 : decode cX11_town 26 = .ok (.aload_n 0, 1) := by decide +kernel
theorem dX11_town_27 : decode cX11_town 27 = .ok (.getfield 30, 3) := by decide +kernel
theorem dX11_town_30 : decode cX11_town 30 = .ok (.invokevirtual 124, 3) := by decide +kernel
theorem dX11_town_33 : decode cX11_town 33 = .ok (.aload_n 0, 1) := by decide +kernel
theorem dX11_town_34 : decode cX11_town 34 = .ok (.invokevirtual 128, 3) := by decide +kernel
theorem dX11_town_37 : decode cX11_town 37 = .ok (.aload_n 0, 1) := by decide +kernel
theorem dX11_town_38 : decode cX11_town 38 = .ok (.getfield 26, 3) := by decide +kernel
theorem dX11_town_41 : decode cX11_town 41 = .ok (.getfield 131, 3) := by decide +kernel
theorem dX11_town_44 : decode cX11_town 44 = .ok (.ireturn, 1) := by decide +kernel
theorem dX11_fault_0 : decode cX11_fault 0 = .ok (.aload_n 0, 1) := by decide +kernel
theorem dX11_fault_1 : decode cX11_fault 1 = .ok (.getfield 19, 3) := by decide +kernel
theorem dX11_fault_4 : decode cX11_fault 4 = .ok (.getfield 134, 3) := by decide +kernel
theorem dX11_fault_7 : decode cX11_fault 7 = .ok (.ireturn, 1) := by decide +kernel
set_option maxRecDepth 20000 in
theorem ggX11_days_X11_keepAct : GoodIn wsX11_days wsX11_keepAct := goodIn_r _ [11, 12, 13, 1, 14, 15, 16, 17, 18, 19, 20, 21, 22, 23, 24, 25, 26, 27, 28, 29, 30, 31, 110, 111, 112, 113, 114, 115, 116, 117, 118, 119, 120, 121, 122, 123, 124, 125, 126, 127, 128] (by decide +kernel) (by decide +kernel)
set_option maxRecDepth 20000 in
theorem gX11_days_X11_keepAct : GoodIn wsX11_days (wsV RX11 145 RX11 yX11_keepAct wsX11_keepAct) := goodIn_app (goodIn_of _ (by decide +kernel)) ggX11_days_X11_keepAct
set_option maxRecDepth 20000 in
theorem ggX11_days_X11_passDay : GoodIn wsX11_days wsX11_passDay := goodIn_r _ [35, 1, 36, 37, 38, 39, 5, 40, 41, 42, 22, 43, 31, 44, 45, 46, 47, 48, 49, 50, 51, 52, 53, 54, 55, 56, 57, 58, 59, 60, 61, 62, 63, 64, 65, 66, 67, 68, 69, 70, 71, 72, 73, 74, 75, 10, 76, 77, 78, 79, 80, 81, 82, 83, 84, 85, 86, 87, 88, 89, 90, 91, 92, 93, 94, 95, 96, 97, 98, 99, 100, 101, 110, 111, 112, 113, 114, 115, 116, 117, 118, 119, 120, 121, 122, 123, 124, 125, 126, 127, 128, 129, 130, 131, 132, 133, 134, 135] (by decide +kernel) (by decide +kernel)
set_option maxRecDepth 20000 in
theorem gX11_days_X11_passDay : GoodIn wsX11_days (wsV RX11 148 RX11 yX11_passDay wsX11_passDay) := goodIn_app (goodIn_of _ (by decide +kernel)) ggX11_days_X11_passDay
set_option maxRecDepth 20000 in
theorem ggX11_days_X8_living : GoodIn wsX11_days wsX8_living := goodIn_r _ [105, 27, 106, 107, 108, 22, 109, 31, 121, 122, 123, 124, 125, 126, 127, 128] (by decide +kernel) (by decide +kernel)
set_option maxRecDepth 20000 in
theorem gX11_days_X8_living : GoodIn wsX11_days (wsV RX11 151 RX8 yX8_living wsX8_living) := goodIn_app (goodIn_of _ (by decide +kernel)) ggX11_days_X8_living
theorem dX11_days_0 : decode cX11_days 0 = .ok (.aload_n 0, 1) := by decide +kernel
theorem dX11_days_1 : decode cX11_days 1 = .ok (.getfield 26, 3) := by decide +kernel
theorem dX11_days_4 : decode cX11_days 4 = .ok (.getfield 137, 3) := by decide +kernel
theorem dX11_days_7 : decode cX11_days 7 = .ok (.ifCond .ne 6, 3) := by decide +kernel
theorem dX11_days_10 : decode cX11_days 10 = .ok (.ldc 141, 2) := by decide +kernel
theorem dX11_days_12 : decode cX11_days 12 = .ok (.ireturn, 1) := by decide +kernel
theorem dX11_days_13 : decode cX11_days 13 = .ok (.iload_n 1, 1) := by decide +kernel
theorem dX11_days_14 : decode cX11_days 14 = .ok (.iconst 1, 1) := by decide +kernel
theorem dX11_days_15 : decode cX11_days 15 = .ok (.if_icmp .lt 9, 3) := by decide +kernel
theorem dX11_days_18 : decode cX11_days 18 = .ok (.iload_n 1, 1) := by decide +kernel
theorem dX11_days_19 : decode cX11_days 19 = .ok (.bipush 20, 2) := by decide +kernel
theorem dX11_days_21 : decode cX11_days 21 = .ok (.if_icmp .le 6, 3) := by decide +kernel
theorem dX11_days_24 : decode cX11_days 24 = .ok (.ldc 71, 2) := by decide +kernel
theorem dX11_days_26 : decode cX11_days 26 = .ok (.ireturn, 1) := by decide +kernel
theorem dX11_days_27 : decode cX11_days 27 = .ok (.aload_n 0, 1) := by decide +kernel
theorem dX11_days_28 : decode cX11_days 28 = .ok (.getfield 26, 3) := by decide +kernel
theorem dX11_days_31 : decode cX11_days 31 = .ok (.getfield 142, 3) := by decide +kernel
theorem dX11_days_34 : decode cX11_days 34 = .ok (.iload_n 1, 1) := by decide +kernel
theorem dX11_days_35 : decode cX11_days 35 = .ok (.iadd, 1) := by decide +kernel
theorem dX11_days_36 : decode cX11_days 36 = .ok (.sipush 999, 3) := by decide +kernel
theorem dX11_days_39 : decode cX11_days 39 = .ok (.if_icmp .le 6, 3) := by decide +kernel
theorem dX11_days_42 : decode cX11_days 42 = .ok (.ldc 115, 2) := by decide +kernel
theorem dX11_days_44 : decode cX11_days 44 = .ok (.ireturn, 1) := by decide +kernel
theorem dX11_days_45 : decode cX11_days 45 = .ok (.iconst 0, 1) := by decide +kernel
theorem dX11_days_46 : decode cX11_days 46 = .ok (.istore_n 2, 1) := by decide +kernel
theorem dX11_days_47 : decode cX11_days 47 = .ok (.iload_n 2, 1) := by decide +kernel
theorem dX11_days_48 : decode cX11_days 48 = .ok (.iload_n 1, 1) := by decide +kernel
theorem dX11_days_49 : decode cX11_days 49 = .ok (.if_icmp .ge 17, 3) := by decide +kernel
theorem dX11_days_52 : decode cX11_days 52 = .ok (.aload_n 0, 1) := by decide +kernel
theorem dX11_days_53 : decode cX11_days 53 = .ok (.invokevirtual 145, 3) := by decide +kernel
theorem dX11_days_56 : decode cX11_days 56 = .ok (.aload_n 0, 1) := by decide +kernel
theorem dX11_days_57 : decode cX11_days 57 = .ok (.invokevirtual 148, 3) := by decide +kernel
theorem dX11_days_60 : decode cX11_days 60 = .ok (.iinc 2 1, 3) := by decide +kernel
theorem dX11_days_63 : decode cX11_days 63 = .ok (.goto (-16), 3) := by decide +kernel
theorem dX11_days_66 : decode cX11_days 66 = .ok (.aload_n 0, 1) := by decide +kernel
theorem dX11_days_67 : decode cX11_days 67 = .ok (.getfield 26, 3) := by decide +kernel
theorem dX11_days_70 : decode cX11_days 70 = .ok (.invokevirtual 151, 3) := by decide +kernel
theorem dX11_days_73 : decode cX11_days 73 = .ok (.ireturn, 1) := by decide +kernel
set_option maxRecDepth 20000 in
theorem ggX11_write_X8_has : GoodIn wsX11_write wsX8_has := goodIn_r _ [9, 10, 52, 53, 54, 55, 56, 57, 58, 59] (by decide +kernel) (by decide +kernel)
set_option maxRecDepth 20000 in
theorem gX11_write_X8_has : GoodIn wsX11_write (wsV RX11 155 RX8 yX8_has wsX8_has) := goodIn_app (goodIn_of _ (by decide +kernel)) ggX11_write_X8_has
set_option maxRecDepth 20000 in
theorem ggX11_write_X11_isSetOfDeeds : GoodIn wsX11_write wsX11_isSetOfDeeds := goodIn_r _ [14] (by decide +kernel) (by decide +kernel)
set_option maxRecDepth 20000 in
theorem gX11_write_X11_isSetOfDeeds : GoodIn wsX11_write (va_wsS RX11 158 yX11_isSetOfDeeds wsX11_isSetOfDeeds) := goodIn_app (goodIn_of _ (by decide +kernel)) ggX11_write_X11_isSetOfDeeds
set_option maxRecDepth 20000 in
theorem ggX11_write_X8_lives : GoodIn wsX11_write wsX8_lives := goodIn_r _ [18, 19, 52, 53, 54, 55, 56, 57, 58, 59] (by decide +kernel) (by decide +kernel)
set_option maxRecDepth 20000 in
theorem gX11_write_X8_lives : GoodIn wsX11_write (wsV RX11 161 RX8 yX8_lives wsX8_lives) := goodIn_app (goodIn_of _ (by decide +kernel)) ggX11_write_X8_lives
set_option maxRecDepth 20000 in
theorem ggX11_write_X11_keepAct : GoodIn wsX11_write wsX11_keepAct := goodIn_r _ [23, 24, 25, 1, 26, 27, 28, 29, 30, 31, 32, 33, 8, 34, 35, 36, 37, 10, 38, 39, 40, 19, 41, 42, 43, 44, 45, 46, 47, 48, 49, 50, 51, 52, 53, 54, 55, 56, 57, 58, 59] (by decide +kernel) (by decide +kernel)
set_option maxRecDepth 20000 in
theorem gX11_write_X11_keepAct : GoodIn wsX11_write (wsV RX11 145 RX11 yX11_keepAct wsX11_keepAct) := goodIn_app (goodIn_of _ (by decide +kernel)) ggX11_write_X11_keepAct
theorem dX11_write_0 : decode cX11_write 0 = .ok (.aload_n 0, 1) := by decide +kernel
theorem dX11_write_1 : decode cX11_write 1 = .ok (.getfield 26, 3) := by decide +kernel
theorem dX11_write_4 : decode cX11_write 4 = .ok (.iload_n 1, 1) := by decide +kernel
theorem dX11_write_5 : decode cX11_write 5 = .ok (.invokevirtual 155, 3) := by decide +kernel
theorem dX11_write_8 : decode cX11_write 8 = .ok (.ifCond .eq 10, 3) := by decide +kernel
theorem dX11_write_11 : decode cX11_write 11 = .ok (.iload_n 2, 1) := by decide +kernel
theorem dX11_write_12 : decode cX11_write 12 = .ok (.invokestatic 158, 3) := by decide +kernel
theorem dX11_write_15 : decode cX11_write 15 = .ok (.ifCond .ne 6, 3) := by decide +kernel
theorem dX11_write_18 : decode cX11_write 18 = .ok (.ldc 71, 2) := by decide +kernel
theorem dX11_write_20 : decode cX11_write 20 = .ok (.ireturn, 1) := by decide +kernel
theorem dX11_write_21 : decode cX11_write 21 = .ok (.aload_n 0, 1) := by decide +kernel
theorem dX11_write_22 : decode cX11_write 22 = .ok (.getfield 26, 3) := by decide +kernel
theorem dX11_write_25 : decode cX11_write 25 = .ok (.iload_n 1, 1) := by decide +kernel
theorem dX11_write_26 : decode cX11_write 26 = .ok (.invokevirtual 161, 3) := by decide +kernel
theorem dX11_write_29 : decode cX11_write 29 = .ok (.ifCond .ne 6, 3) := by decide +kernel
theorem dX11_write_32 : decode cX11_write 32 = .ok (.ldc 141, 2) := by decide +kernel
theorem dX11_write_34 : decode cX11_write 34 = .ok (.ireturn, 1) := by decide +kernel
theorem dX11_write_35 : decode cX11_write 35 = .ok (.aload_n 0, 1) := by decide +kernel
theorem dX11_write_36 : decode cX11_write 36 = .ok (.invokevirtual 145, 3) := by decide +kernel
theorem dX11_write_39 : decode cX11_write 39 = .ok (.aload_n 0, 1) := by decide +kernel
theorem dX11_write_40 : decode cX11_write 40 = .ok (.getfield 26, 3) := by decide +kernel
theorem dX11_write_43 : decode cX11_write 43 = .ok (.getfield 164, 3) := by decide +kernel
theorem dX11_write_46 : decode cX11_write 46 = .ok (.iload_n 1, 1) := by decide +kernel
theorem dX11_write_47 : decode cX11_write 47 = .ok (.iaload, 1) := by decide +kernel
theorem dX11_write_48 : decode cX11_write 48 = .ok (.istore_n 3, 1) := by decide +kernel
theorem dX11_write_49 : decode cX11_write 49 = .ok (.aload_n 0, 1) := by decide +kernel
theorem dX11_write_50 : decode cX11_write 50 = .ok (.getfield 26, 3) := by decide +kernel
theorem dX11_write_53 : decode cX11_write 53 = .ok (.getfield 164, 3) := by decide +kernel
theorem dX11_write_56 : decode cX11_write 56 = .ok (.iload_n 1, 1) := by decide +kernel
theorem dX11_write_57 : decode cX11_write 57 = .ok (.iload_n 2, 1) := by decide +kernel
theorem dX11_write_58 : decode cX11_write 58 = .ok (.iastore, 1) := by decide +kernel
theorem dX11_write_59 : decode cX11_write 59 = .ok (.iload_n 3, 1) := by decide +kernel
theorem dX11_write_60 : decode cX11_write 60 = .ok (.ireturn, 1) := by decide +kernel
set_option maxRecDepth 20000 in
theorem ggX11_deny_X8_has : GoodIn wsX11_deny wsX8_has := goodIn_r _ [9, 10, 45, 46, 47, 48, 49, 50, 51, 52] (by decide +kernel) (by decide +kernel)
set_option maxRecDepth 20000 in
theorem gX11_deny_X8_has : GoodIn wsX11_deny (wsV RX11 155 RX8 yX8_has wsX8_has) := goodIn_app (goodIn_of _ (by decide +kernel)) ggX11_deny_X8_has
set_option maxRecDepth 20000 in
theorem ggX11_deny_X11_keepAct : GoodIn wsX11_deny wsX11_keepAct := goodIn_r _ [15, 16, 17, 1, 18, 19, 20, 21, 22, 23, 24, 25, 8, 26, 27, 28, 29, 10, 30, 31, 32, 33, 34, 35, 36, 37, 38, 39, 40, 41, 42, 43, 44, 45, 46, 47, 48, 49, 50, 51, 52] (by decide +kernel) (by decide +kernel)
set_option maxRecDepth 20000 in
theorem gX11_deny_X11_keepAct : GoodIn wsX11_deny (wsV RX11 145 RX11 yX11_keepAct wsX11_keepAct) := goodIn_app (goodIn_of _ (by decide +kernel)) ggX11_deny_X11_keepAct
theorem dX11_deny_0 : decode cX11_deny 0 = .ok (.aload_n 0, 1) := by decide +kernel
theorem dX11_deny_1 : decode cX11_deny 1 = .ok (.getfield 26, 3) := by decide +kernel
theorem dX11_deny_4 : decode cX11_deny 4 = .ok (.iload_n 1, 1) := by decide +kernel
theorem dX11_deny_5 : decode cX11_deny 5 = .ok (.invokevirtual 155, 3) := by decide +kernel
theorem dX11_deny_8 : decode cX11_deny 8 = .ok (.ifCond .eq 13, 3) := by decide +kernel
theorem dX11_deny_11 : decode cX11_deny 11 = .ok (.iload_n 2, 1) := by decide +kernel
theorem dX11_deny_12 : decode cX11_deny 12 = .ok (.ifCond .lt 9, 3) := by decide +kernel
theorem dX11_deny_15 : decode cX11_deny 15 = .ok (.iload_n 2, 1) := by decide +kernel
theorem dX11_deny_16 : decode cX11_deny 16 = .ok (.bipush 6, 2) := by decide +kernel
theorem dX11_deny_18 : decode cX11_deny 18 = .ok (.if_icmp .lt 6, 3) := by decide +kernel
theorem dX11_deny_21 : decode cX11_deny 21 = .ok (.ldc 71, 2) := by decide +kernel
theorem dX11_deny_23 : decode cX11_deny 23 = .ok (.ireturn, 1) := by decide +kernel
theorem dX11_deny_24 : decode cX11_deny 24 = .ok (.iconst 1, 1) := by decide +kernel
theorem dX11_deny_25 : decode cX11_deny 25 = .ok (.iload_n 2, 1) := by decide +kernel
theorem dX11_deny_26 : decode cX11_deny 26 = .ok (.ishl, 1) := by decide +kernel
theorem dX11_deny_27 : decode cX11_deny 27 = .ok (.istore_n 3, 1) := by decide +kernel
theorem dX11_deny_28 : decode cX11_deny 28 = .ok (.aload_n 0, 1) := by decide +kernel
theorem dX11_deny_29 : decode cX11_deny 29 = .ok (.getfield 26, 3) := by decide +kernel
theorem dX11_deny_32 : decode cX11_deny 32 = .ok (.getfield 168, 3) := by decide +kernel
theorem dX11_deny_35 : decode cX11_deny 35 = .ok (.iload_n 1, 1) := by decide +kernel
theorem dX11_deny_36 : decode cX11_deny 36 = .ok (.iaload, 1) := by decide +kernel
theorem dX11_deny_37 : decode cX11_deny 37 = .ok (.iload_n 3, 1) := by decide +kernel
theorem dX11_deny_38 : decode cX11_deny 38 = .ok (.iand, 1) := by decide +kernel
theorem dX11_deny_39 : decode cX11_deny 39 = .ok (.ifCond .ne 6, 3) := by decide +kernel
theorem dX11_deny_42 : decode cX11_deny 42 = .ok (.ldc 141, 2) := by decide +kernel
theorem dX11_deny_44 : decode cX11_deny 44 = .ok (.ireturn, 1) := by decide +kernel
theorem dX11_deny_45 : decode cX11_deny 45 = .ok (.aload_n 0, 1) := by decide +kernel
theorem dX11_deny_46 : decode cX11_deny 46 = .ok (.invokevirtual 145, 3) := by decide +kernel
theorem dX11_deny_49 : decode cX11_deny 49 = .ok (.aload_n 0, 1) := by decide +kernel
theorem dX11_deny_50 : decode cX11_deny 50 = .ok (.getfield 26, 3) := by decide +kernel
theorem dX11_deny_53 : decode cX11_deny 53 = .ok (.getfield 168, 3) := by decide +kernel
theorem dX11_deny_56 : decode cX11_deny 56 = .ok (.iload_n 1, 1) := by decide +kernel
theorem dX11_deny_57 : decode cX11_deny 57 = .ok (.dup2, 1) := by decide +kernel
theorem dX11_deny_58 : decode cX11_deny 58 = .ok (.iaload, 1) := by decide +kernel
theorem dX11_deny_59 : decode cX11_deny 59 = .ok (.iload_n 3, 1) := by decide +kernel
theorem dX11_deny_60 : decode cX11_deny 60 = .ok (.iconst (-1), 1) := by decide +kernel
theorem dX11_deny_61 : decode cX11_deny 61 = .ok (.ixor, 1) := by decide +kernel
theorem dX11_deny_62 : decode cX11_deny 62 = .ok (.iand, 1) := by decide +kernel
theorem dX11_deny_63 : decode cX11_deny 63 = .ok (.iastore, 1) := by decide +kernel
theorem dX11_deny_64 : decode cX11_deny 64 = .ok (.aload_n 0, 1) := by decide +kernel
theorem dX11_deny_65 : decode cX11_deny 65 = .ok (.getfield 26, 3) := by decide +kernel
theorem dX11_deny_68 : decode cX11_deny 68 = .ok (.getfield 168, 3) := by decide +kernel
theorem dX11_deny_71 : decode cX11_deny 71 = .ok (.iload_n 1, 1) := by decide +kernel
theorem dX11_deny_72 : decode cX11_deny 72 = .ok (.iaload, 1) := by decide +kernel
theorem dX11_deny_73 : decode cX11_deny 73 = .ok (.ireturn, 1) := by decide +kernel
set_option maxRecDepth 20000 in
theorem ggX11_spare_X8_has : GoodIn wsX11_spare wsX8_has := goodIn_r _ [13, 14, 49, 50, 51, 52, 53, 54, 55, 56] (by decide +kernel) (by decide +kernel)
set_option maxRecDepth 20000 in
theorem gX11_spare_X8_has : GoodIn wsX11_spare (wsV RX11 155 RX8 yX8_has wsX8_has) := goodIn_app (goodIn_of _ (by decide +kernel)) ggX11_spare_X8_has
set_option maxRecDepth 20000 in
theorem ggX11_spare_X8_lives : GoodIn wsX11_spare wsX8_lives := goodIn_r _ [18, 19, 49, 50, 51, 52, 53, 54, 55, 56] (by decide +kernel) (by decide +kernel)
set_option maxRecDepth 20000 in
theorem gX11_spare_X8_lives : GoodIn wsX11_spare (wsV RX11 161 RX8 yX8_lives wsX8_lives) := goodIn_app (goodIn_of _ (by decide +kernel)) ggX11_spare_X8_lives
set_option maxRecDepth 20000 in
theorem ggX11_spare_X11_keepAct : GoodIn wsX11_spare wsX11_keepAct := goodIn_r _ [24, 25, 26, 1, 27, 5, 6, 7, 8, 28, 29, 30, 12, 31, 32, 33, 34, 14, 35, 36, 37, 19, 38, 39, 40, 41, 42, 43, 44, 45, 46, 47, 48, 49, 50, 51, 52, 53, 54, 55, 56] (by decide +kernel) (by decide +kernel)
set_option maxRecDepth 20000 in
theorem gX11_spare_X11_keepAct : GoodIn wsX11_spare (wsV RX11 145 RX11 yX11_keepAct wsX11_keepAct) := goodIn_app (goodIn_of _ (by decide +kernel)) ggX11_spare_X11_keepAct
theorem dX11_spare_0 : decode cX11_spare 0 = .ok (.aload_n 0, 1) := by decide +kernel
theorem dX11_spare_1 : decode cX11_spare 1 = .ok (.getfield 26, 3) := by decide +kernel
theorem dX11_spare_4 : decode cX11_spare 4 = .ok (.iload_n 1, 1) := by decide +kernel
theorem dX11_spare_5 : decode cX11_spare 5 = .ok (.invokevirtual 155, 3) := by decide +kernel
theorem dX11_spare_8 : decode cX11_spare 8 = .ok (.ifCond .eq 14, 3) := by decide +kernel
theorem dX11_spare_11 : decode cX11_spare 11 = .ok (.iload_n 2, 1) := by decide +kernel
theorem dX11_spare_12 : decode cX11_spare 12 = .ok (.iconst 1, 1) := by decide +kernel
theorem dX11_spare_13 : decode cX11_spare 13 = .ok (.if_icmp .lt 9, 3) := by decide +kernel
theorem dX11_spare_16 : decode cX11_spare 16 = .ok (.iload_n 2, 1) := by decide +kernel
theorem dX11_spare_17 : decode cX11_spare 17 = .ok (.bipush 60, 2) := by decide +kernel
theorem dX11_spare_19 : decode cX11_spare 19 = .ok (.if_icmp .le 6, 3) := by decide +kernel
theorem dX11_spare_22 : decode cX11_spare 22 = .ok (.ldc 71, 2) := by decide +kernel
theorem dX11_spare_24 : decode cX11_spare 24 = .ok (.ireturn, 1) := by decide +kernel
theorem dX11_spare_25 : decode cX11_spare 25 = .ok (.aload_n 0, 1) := by decide +kernel
theorem dX11_spare_26 : decode cX11_spare 26 = .ok (.getfield 26, 3) := by decide +kernel
theorem dX11_spare_29 : decode cX11_spare 29 = .ok (.iload_n 1, 1) := by decide +kernel
theorem dX11_spare_30 : decode cX11_spare 30 = .ok (.invokevirtual 161, 3) := by decide +kernel
theorem dX11_spare_33 : decode cX11_spare 33 = .ok (.ifCond .ne 6, 3) := by decide +kernel
theorem dX11_spare_36 : decode cX11_spare 36 = .ok (.ldc 141, 2) := by decide +kernel
theorem dX11_spare_38 : decode cX11_spare 38 = .ok (.ireturn, 1) := by decide +kernel
theorem dX11_spare_39 : decode cX11_spare 39 = .ok (.aload_n 0, 1) := by decide +kernel
theorem dX11_spare_40 : decode cX11_spare 40 = .ok (.invokevirtual 145, 3) := by decide +kernel
theorem dX11_spare_43 : decode cX11_spare 43 = .ok (.aload_n 0, 1) := by decide +kernel
theorem dX11_spare_44 : decode cX11_spare 44 = .ok (.getfield 26, 3) := by decide +kernel
theorem dX11_spare_47 : decode cX11_spare 47 = .ok (.getfield 171, 3) := by decide +kernel
theorem dX11_spare_50 : decode cX11_spare 50 = .ok (.iload_n 1, 1) := by decide +kernel
theorem dX11_spare_51 : decode cX11_spare 51 = .ok (.bipush 60, 2) := by decide +kernel
theorem dX11_spare_53 : decode cX11_spare 53 = .ok (.aload_n 0, 1) := by decide +kernel
theorem dX11_spare_54 : decode cX11_spare 54 = .ok (.getfield 26, 3) := by decide +kernel
theorem dX11_spare_57 : decode cX11_spare 57 = .ok (.getfield 171, 3) := by decide +kernel
theorem dX11_spare_60 : decode cX11_spare 60 = .ok (.iload_n 1, 1) := by decide +kernel
theorem dX11_spare_61 : decode cX11_spare 61 = .ok (.iaload, 1) := by decide +kernel
theorem dX11_spare_62 : decode cX11_spare 62 = .ok (.iload_n 2, 1) := by decide +kernel
theorem dX11_spare_63 : decode cX11_spare 63 = .ok (.iadd, 1) := by decide +kernel
theorem dX11_spare_64 : decode cX11_spare 64 = .ok (.invokestatic 174, 3) := by decide +kernel
theorem dX11_spare_67 : decode cX11_spare 67 = .ok (.iastore, 1) := by decide +kernel
theorem dX11_spare_68 : decode cX11_spare 68 = .ok (.aload_n 0, 1) := by decide +kernel
theorem dX11_spare_69 : decode cX11_spare 69 = .ok (.getfield 26, 3) := by decide +kernel
theorem dX11_spare_72 : decode cX11_spare 72 = .ok (.getfield 171, 3) := by decide +kernel
theorem dX11_spare_75 : decode cX11_spare 75 = .ok (.iload_n 1, 1) := by decide +kernel
theorem dX11_spare_76 : decode cX11_spare 76 = .ok (.iaload, 1) := by decide +kernel
theorem dX11_spare_77 : decode cX11_spare 77 = .ok (.ireturn, 1) := by decide +kernel
set_option maxRecDepth 20000 in
theorem ggX11_undo_X8_become : GoodIn wsX11_undo wsX8_become := goodIn_r _ [10, 11, 12, 13, 14, 15, 16, 17, 18, 30, 31, 32, 33, 34, 35, 36, 37] (by decide +kernel) (by decide +kernel)
set_option maxRecDepth 20000 in
theorem gX11_undo_X8_become : GoodIn wsX11_undo (wsV RX11 124 RX8 yX8_become wsX8_become) := goodIn_app (goodIn_of _ (by decide +kernel)) ggX11_undo_X8_become
theorem dX11_undo_0 : decode cX11_undo 0 = .ok (.aload_n 0, 1) := by decide +kernel
theorem dX11_undo_1 : decode cX11_undo 1 = .ok (.getfield 40, 3) := by decide +kernel
theorem dX11_undo_4 : decode cX11_undo 4 = .ok (.ifCond .ne 6, 3) := by decide +kernel
theorem dX11_undo_7 : decode cX11_undo 7 = .ok (.ldc 141, 2) := by decide +kernel
theorem dX11_undo_9 : decode cX11_undo 9 = .ok (.ireturn, 1) := by decide +kernel
theorem dX11_undo_10 : decode cX11_undo 10 = .ok (.aload_n 0, 1) := by decide +kernel
theorem dX11_undo_11 : decode cX11_undo 11 = .ok (.aload_n 0, 1) := by decide +kernel
theorem dX11_undo_12 : decode cX11_undo 12 = .ok (.getfield 44, 3) := by decide +kernel
theorem dX11_undo_15 : decode cX11_undo 15 = .ok (.bipush 24, 2) := by decide +kernel
theorem dX11_undo_17 : decode cX11_undo 17 = .ok (.iadd, 1) := by decide +kernel
theorem dX11_undo_18 : decode cX11_undo 18 = .ok (.iconst 1, 1) := by decide +kernel
theorem dX11_undo_19 : decode cX11_undo 19 = .ok (.isub, 1) := by decide +kernel
theorem dX11_undo_20 : decode cX11_undo 20 = .ok (.bipush 24, 2) := by decide +kernel
theorem dX11_undo_22 : decode cX11_undo 22 = .ok (.irem, 1) := by decide +kernel
theorem dX11_undo_23 : decode cX11_undo 23 = .ok (.putfield 44, 3) := by decide +kernel
theorem dX11_undo_26 : decode cX11_undo 26 = .ok (.aload_n 0, 1) := by decide +kernel
theorem dX11_undo_27 : decode cX11_undo 27 = .ok (.dup, 1) := by decide +kernel
theorem dX11_undo_28 : decode cX11_undo 28 = .ok (.getfield 40, 3) := by decide +kernel
theorem dX11_undo_31 : decode cX11_undo 31 = .ok (.iconst 1, 1) := by decide +kernel
theorem dX11_undo_32 : decode cX11_undo 32 = .ok (.isub, 1) := by decide +kernel
theorem dX11_undo_33 : decode cX11_undo 33 = .ok (.putfield 40, 3) := by decide +kernel
theorem dX11_undo_36 : decode cX11_undo 36 = .ok (.aload_n 0, 1) := by decide +kernel
theorem dX11_undo_37 : decode cX11_undo 37 = .ok (.getfield 26, 3) := by decide +kernel
theorem dX11_undo_40 : decode cX11_undo 40 = .ok (.aload_n 0, 1) := by decide +kernel
theorem dX11_undo_41 : decode cX11_undo 41 = .ok (.getfield 37, 3) := by decide +kernel
theorem dX11_undo_44 : decode cX11_undo 44 = .ok (.aload_n 0, 1) := by decide +kernel
theorem dX11_undo_45 : decode cX11_undo 45 = .ok (.getfield 44, 3) := by decide +kernel
theorem dX11_undo_48 : decode cX11_undo 48 = .ok (.aaload, 1) := by decide +kernel
theorem dX11_undo_49 : decode cX11_undo 49 = .ok (.invokevirtual 124, 3) := by decide +kernel
theorem dX11_undo_52 : decode cX11_undo 52 = .ok (.aload_n 0, 1) := by decide +kernel
theorem dX11_undo_53 : decode cX11_undo 53 = .ok (.getfield 40, 3) := by decide +kernel
theorem dX11_undo_56 : decode cX11_undo 56 = .ok (.ireturn, 1) := by decide +kernel
set_option maxRecDepth 20000 in
theorem ggX11_reader_X8_has : GoodIn wsX11_reader wsX8_has := goodIn_r _ [11, 12, 96, 97, 98, 99, 100, 101, 102, 103] (by decide +kernel) (by decide +kernel)
set_option maxRecDepth 20000 in
theorem gX11_reader_X8_has : GoodIn wsX11_reader (wsV RX11 155 RX8 yX8_has wsX8_has) := goodIn_app (goodIn_of _ (by decide +kernel)) ggX11_reader_X8_has
set_option maxRecDepth 20000 in
theorem ggX11_reader_X8_falseLinesNow : GoodIn wsX11_reader wsX8_falseLinesNow := goodIn_r _ [16, 17, 18, 19, 20, 21, 22, 23, 24, 25, 26, 27, 28, 96, 97, 98, 99, 100, 101, 102, 103] (by decide +kernel) (by decide +kernel)
set_option maxRecDepth 20000 in
theorem gX11_reader_X8_falseLinesNow : GoodIn wsX11_reader (wsV RX11 180 RX8 yX8_falseLinesNow wsX8_falseLinesNow) := goodIn_app (goodIn_of _ (by decide +kernel)) ggX11_reader_X8_falseLinesNow
set_option maxRecDepth 20000 in
theorem ggX11_reader_X2_doesToday : GoodIn wsX11_reader wsX2_doesToday := goodIn_r _ [33, 34, 35, 36, 37, 38, 39, 40, 10, 41, 42, 43, 44, 45, 32, 46, 47, 48, 49, 50, 51, 52, 53, 54, 55, 56, 57, 58, 59, 60, 61, 62, 63, 64, 20, 65, 66, 67, 68, 69, 70, 71, 72, 73, 74, 75, 23, 24, 25, 26, 27, 28, 76, 77, 78, 79, 80, 81, 82, 83, 84, 96, 97, 98, 99, 100, 101, 102, 103, 104, 105, 106, 107, 108, 109, 110] (by decide +kernel) (by decide +kernel)
set_option maxRecDepth 20000 in
theorem gX11_reader_X2_doesToday : GoodIn wsX11_reader (wsV RX11 183 RX2 yX2_doesToday wsX2_doesToday) := goodIn_app (goodIn_of _ (by decide +kernel)) ggX11_reader_X2_doesToday
theorem dX11_reader_0 : decode cX11_reader 0 = .ok (.aload_n 0, 1) := by decide +kernel
theorem dX11_reader_1 : decode cX11_reader 1 = .ok (.getfield 26, 3) := by decide +kernel
theorem dX11_reader_4 : decode cX11_reader 4 = .ok (.iload_n 1, 1) := by decide +kernel
theorem dX11_reader_5 : decode cX11_reader 5 = .ok (.invokevirtual 155, 3) := by decide +kernel
theorem dX11_reader_8 : decode cX11_reader 8 = .ok (.ifCond .ne 6, 3) := by decide +kernel
theorem dX11_reader_11 : decode cX11_reader 11 = .ok (.ldc 71, 2) := by decide +kernel
theorem dX11_reader_13 : decode cX11_reader 13 = .ok (.ireturn, 1) := by decide +kernel
theorem dX11_reader_14 : decode cX11_reader 14 = .ok (.iload_n 2, 1) := by decide +kernel
theorem dX11_reader_15 : decode cX11_reader 15 = .ok (.tableswitch 85 0 4 #[33, 43, 53, 63, 72], 33) := by decide +kernel
theorem dX11_reader_48 : decode cX11_reader 48 = .ok (.aload_n 0, 1) := by decide +kernel
theorem dX11_reader_49 : decode cX11_reader 49 = .ok (.getfield 26, 3) := by decide +kernel
theorem dX11_reader_52 : decode cX11_reader 52 = .ok (.getfield 168, 3) := by decide +kernel
theorem dX11_reader_55 : decode cX11_reader 55 = .ok (.iload_n 1, 1) := by decide +kernel
theorem dX11_reader_56 : decode cX11_reader 56 = .ok (.iaload, 1) := by decide +kernel
theorem dX11_reader_57 : decode cX11_reader 57 = .ok (.ireturn, 1) := by decide +kernel
theorem dX11_reader_58 : decode cX11_reader 58 = .ok (.aload_n 0, 1) := by decide +kernel
theorem dX11_reader_59 : decode cX11_reader 59 = .ok (.getfield 26, 3) := by decide +kernel
theorem dX11_reader_62 : decode cX11_reader 62 = .ok (.getfield 164, 3) := by decide +kernel
theorem dX11_reader_65 : decode cX11_reader 65 = .ok (.iload_n 1, 1) := by decide +kernel
theorem dX11_reader_66 : decode cX11_reader 66 = .ok (.iaload, 1) := by decide +kernel
theorem dX11_reader_67 : decode cX11_reader 67 = .ok (.ireturn, 1) := by decide +kernel
theorem dX11_reader_68 : decode cX11_reader 68 = .ok (.aload_n 0, 1) := by decide +kernel
theorem dX11_reader_69 : decode cX11_reader 69 = .ok (.getfield 26, 3) := by decide +kernel
theorem dX11_reader_72 : decode cX11_reader 72 = .ok (.getfield 171, 3) := by decide +kernel
theorem dX11_reader_75 : decode cX11_reader 75 = .ok (.iload_n 1, 1) := by decide +kernel
theorem dX11_reader_76 : decode cX11_reader 76 = .ok (.iaload, 1) := by decide +kernel
theorem dX11_reader_77 : decode cX11_reader 77 = .ok (.ireturn, 1) := by decide +kernel
theorem dX11_reader_78 : decode cX11_reader 78 = .ok (.aload_n 0, 1) := by decide +kernel
theorem dX11_reader_79 : decode cX11_reader 79 = .ok (.getfield 26, 3) := by decide +kernel
theorem dX11_reader_82 : decode cX11_reader 82 = .ok (.iload_n 1, 1) := by decide +kernel
theorem dX11_reader_83 : decode cX11_reader 83 = .ok (.invokevirtual 180, 3) := by decide +kernel
theorem dX11_reader_86 : decode cX11_reader 86 = .ok (.ireturn, 1) := by decide +kernel
theorem dX11_reader_87 : decode cX11_reader 87 = .ok (.aload_n 0, 1) := by decide +kernel
theorem dX11_reader_88 : decode cX11_reader 88 = .ok (.getfield 50, 3) := by decide +kernel
theorem dX11_reader_91 : decode cX11_reader 91 = .ok (.aload_n 0, 1) := by decide +kernel
theorem dX11_reader_92 : decode cX11_reader 92 = .ok (.getfield 26, 3) := by decide +kernel
theorem dX11_reader_95 : decode cX11_reader 95 = .ok (.iload_n 1, 1) := by decide +kernel
theorem dX11_reader_96 : decode cX11_reader 96 = .ok (.invokevirtual 183, 3) := by decide +kernel
theorem dX11_reader_99 : decode cX11_reader 99 = .ok (.ireturn, 1) := by decide +kernel
theorem dX11_reader_100 : decode cX11_reader 100 = .ok (.ldc 71, 2) := by decide +kernel
theorem dX11_reader_102 : decode cX11_reader 102 = .ok (.ireturn, 1) := by decide +kernel
set_option maxRecDepth 20000 in
theorem ggX11_deeds_X8_has : GoodIn wsX11_deeds wsX8_has := goodIn_r _ [10, 11, 87, 88, 89, 90, 91, 92, 93, 94] (by decide +kernel) (by decide +kernel)
set_option maxRecDepth 20000 in
theorem gX11_deeds_X8_has : GoodIn wsX11_deeds (wsV RX11 155 RX8 yX8_has wsX8_has) := goodIn_app (goodIn_of _ (by decide +kernel)) ggX11_deeds_X8_has
set_option maxRecDepth 20000 in
theorem ggX11_deeds_X11_isDaysAhead : GoodIn wsX11_deeds wsX11_isDaysAhead := goodIn_r _ [15] (by decide +kernel) (by decide +kernel)
set_option maxRecDepth 20000 in
theorem gX11_deeds_X11_isDaysAhead : GoodIn wsX11_deeds (va_wsS RX11 187 yX11_isDaysAhead wsX11_isDaysAhead) := goodIn_app (goodIn_of _ (by decide +kernel)) ggX11_deeds_X11_isDaysAhead
set_option maxRecDepth 20000 in
theorem ggX11_deeds_X2_doneBehind : GoodIn wsX11_deeds wsX2_doneBehind := goodIn_r _ [20, 21, 22, 23, 24, 25, 26, 27, 28, 29, 30, 19, 31, 32, 33, 34, 35, 36, 37, 38, 39, 40, 41, 42, 43, 44, 45, 46, 47, 48, 49, 14, 50, 51, 52, 53, 54, 55, 56, 57, 58, 59, 60, 61, 62, 63, 64, 65, 66, 67, 68, 69, 70, 71, 72, 73, 74, 75, 87, 88, 89, 90, 91, 92, 93, 94, 95, 96, 97, 98, 99, 100, 101] (by decide +kernel) (by decide +kernel)
set_option maxRecDepth 20000 in
theorem gX11_deeds_X2_doneBehind : GoodIn wsX11_deeds (wsV RX11 190 RX2 yX2_doneBehind wsX2_doneBehind) := goodIn_app (goodIn_of _ (by decide +kernel)) ggX11_deeds_X2_doneBehind
theorem dX11_deeds_0 : decode cX11_deeds 0 = .ok (.aload_n 0, 1) := by decide +kernel
theorem dX11_deeds_1 : decode cX11_deeds 1 = .ok (.getfield 26, 3) := by decide +kernel
theorem dX11_deeds_4 : decode cX11_deeds 4 = .ok (.iload_n 1, 1) := by decide +kernel
theorem dX11_deeds_5 : decode cX11_deeds 5 = .ok (.invokevirtual 155, 3) := by decide +kernel
theorem dX11_deeds_8 : decode cX11_deeds 8 = .ok (.ifCond .eq 10, 3) := by decide +kernel
theorem dX11_deeds_11 : decode cX11_deeds 11 = .ok (.iload_n 2, 1) := by decide +kernel
theorem dX11_deeds_12 : decode cX11_deeds 12 = .ok (.invokestatic 187, 3) := by decide +kernel
theorem dX11_deeds_15 : decode cX11_deeds 15 = .ok (.ifCond .ne 6, 3) := by decide +kernel
theorem dX11_deeds_18 : decode cX11_deeds 18 = .ok (.ldc 71, 2) := by decide +kernel
theorem dX11_deeds_20 : decode cX11_deeds 20 = .ok (.ireturn, 1) := by decide +kernel
theorem dX11_deeds_21 : decode cX11_deeds 21 = .ok (.aload_n 0, 1) := by decide +kernel
theorem dX11_deeds_22 : decode cX11_deeds 22 = .ok (.getfield 50, 3) := by decide +kernel
theorem dX11_deeds_25 : decode cX11_deeds 25 = .ok (.aload_n 0, 1) := by decide +kernel
theorem dX11_deeds_26 : decode cX11_deeds 26 = .ok (.getfield 26, 3) := by decide +kernel
theorem dX11_deeds_29 : decode cX11_deeds 29 = .ok (.iload_n 1, 1) := by decide +kernel
theorem dX11_deeds_30 : decode cX11_deeds 30 = .ok (.iload_n 2, 1) := by decide +kernel
theorem dX11_deeds_31 : decode cX11_deeds 31 = .ok (.aload_n 0, 1) := by decide +kernel
theorem dX11_deeds_32 : decode cX11_deeds 32 = .ok (.getfield 26, 3) := by decide +kernel
theorem dX11_deeds_35 : decode cX11_deeds 35 = .ok (.getfield 168, 3) := by decide +kernel
theorem dX11_deeds_38 : decode cX11_deeds 38 = .ok (.iload_n 1, 1) := by decide +kernel
theorem dX11_deeds_39 : decode cX11_deeds 39 = .ok (.iaload, 1) := by decide +kernel
theorem dX11_deeds_40 : decode cX11_deeds 40 = .ok (.aload_n 0, 1) := by decide +kernel
theorem dX11_deeds_41 : decode cX11_deeds 41 = .ok (.getfield 26, 3) := by decide +kernel
theorem dX11_deeds_44 : decode cX11_deeds 44 = .ok (.getfield 164, 3) := by decide +kernel
theorem dX11_deeds_47 : decode cX11_deeds 47 = .ok (.iload_n 1, 1) := by decide +kernel
theorem dX11_deeds_48 : decode cX11_deeds 48 = .ok (.iaload, 1) := by decide +kernel
theorem dX11_deeds_49 : decode cX11_deeds 49 = .ok (.invokevirtual 190, 3) := by decide +kernel
theorem dX11_deeds_52 : decode cX11_deeds 52 = .ok (.ireturn, 1) := by decide +kernel
set_option maxRecDepth 20000 in
theorem ggX11_lines_X8_has : GoodIn wsX11_lines wsX8_has := goodIn_r _ [8, 9, 94, 95, 96, 97, 98, 99, 100, 101] (by decide +kernel) (by decide +kernel)
set_option maxRecDepth 20000 in
theorem gX11_lines_X8_has : GoodIn wsX11_lines (wsV RX11 155 RX8 yX8_has wsX8_has) := goodIn_app (goodIn_of _ (by decide +kernel)) ggX11_lines_X8_has
set_option maxRecDepth 20000 in
theorem ggX11_lines_X11_isDaysAhead : GoodIn wsX11_lines wsX11_isDaysAhead := goodIn_r _ [13] (by decide +kernel) (by decide +kernel)
set_option maxRecDepth 20000 in
theorem gX11_lines_X11_isDaysAhead : GoodIn wsX11_lines (va_wsS RX11 187 yX11_isDaysAhead wsX11_isDaysAhead) := goodIn_app (goodIn_of _ (by decide +kernel)) ggX11_lines_X11_isDaysAhead
set_option maxRecDepth 20000 in
theorem ggX11_lines_X2_falseLinesBehind : GoodIn wsX11_lines wsX2_falseLinesBehind := goodIn_r _ [18, 19, 20, 21, 22, 23, 17, 24, 25, 26, 27, 28, 29, 30, 31, 32, 33, 34, 35, 36, 37, 38, 39, 40, 41, 42, 43, 44, 45, 46, 47, 48, 49, 50, 51, 52, 53, 12, 54, 55, 56, 57, 58, 59, 60, 61, 62, 63, 64, 65, 66, 67, 68, 69, 70, 71, 72, 73, 74, 75, 76, 77, 78, 79, 80, 81, 82, 94, 95, 96, 97, 98, 99, 100, 101, 102, 103, 104, 105, 106, 107, 108] (by decide +kernel) (by decide +kernel)
set_option maxRecDepth 20000 in
theorem gX11_lines_X2_falseLinesBehind : GoodIn wsX11_lines (wsV RX11 194 RX2 yX2_falseLinesBehind wsX2_falseLinesBehind) := goodIn_app (goodIn_of _ (by decide +kernel)) ggX11_lines_X2_falseLinesBehind
theorem dX11_lines_0 : decode cX11_lines 0 = .ok (.aload_n 0, 1) := by decide +kernel
theorem dX11_lines_1 : decode cX11_lines 1 = .ok (.getfield 26, 3) := by decide +kernel
theorem dX11_lines_4 : decode cX11_lines 4 = .ok (.iload_n 1, 1) := by decide +kernel
theorem dX11_lines_5 : decode cX11_lines 5 = .ok (.invokevirtual 155, 3) := by decide +kernel
theorem dX11_lines_8 : decode cX11_lines 8 = .ok (.ifCond .eq 10, 3) := by decide +kernel
theorem dX11_lines_11 : decode cX11_lines 11 = .ok (.iload_n 2, 1) := by decide +kernel
theorem dX11_lines_12 : decode cX11_lines 12 = .ok (.invokestatic 187, 3) := by decide +kernel
theorem dX11_lines_15 : decode cX11_lines 15 = .ok (.ifCond .ne 6, 3) := by decide +kernel
theorem dX11_lines_18 : decode cX11_lines 18 = .ok (.ldc 71, 2) := by decide +kernel
theorem dX11_lines_20 : decode cX11_lines 20 = .ok (.ireturn, 1) := by decide +kernel
theorem dX11_lines_21 : decode cX11_lines 21 = .ok (.aload_n 0, 1) := by decide +kernel
theorem dX11_lines_22 : decode cX11_lines 22 = .ok (.getfield 50, 3) := by decide +kernel
theorem dX11_lines_25 : decode cX11_lines 25 = .ok (.aload_n 0, 1) := by decide +kernel
theorem dX11_lines_26 : decode cX11_lines 26 = .ok (.getfield 26, 3) := by decide +kernel
theorem dX11_lines_29 : decode cX11_lines 29 = .ok (.iload_n 1, 1) := by decide +kernel
theorem dX11_lines_30 : decode cX11_lines 30 = .ok (.iload_n 2, 1) := by decide +kernel
theorem dX11_lines_31 : decode cX11_lines 31 = .ok (.invokevirtual 194, 3) := by decide +kernel
theorem dX11_lines_34 : decode cX11_lines 34 = .ok (.ireturn, 1) := by decide +kernel
set_option maxRecDepth 20000 in
theorem ggX11_dead_X11_isDaysAhead : GoodIn wsX11_dead wsX11_isDaysAhead := goodIn_r _ [8] (by decide +kernel) (by decide +kernel)
set_option maxRecDepth 20000 in
theorem gX11_dead_X11_isDaysAhead : GoodIn wsX11_dead (va_wsS RX11 187 yX11_isDaysAhead wsX11_isDaysAhead) := goodIn_app (goodIn_of _ (by decide +kernel)) ggX11_dead_X11_isDaysAhead
set_option maxRecDepth 20000 in
theorem ggX11_dead_X8_deadBehind : GoodIn wsX11_dead wsX8_deadBehind := goodIn_r _ [13, 14, 15, 27, 28, 29, 30, 31, 32, 33, 34] (by decide +kernel) (by decide +kernel)
set_option maxRecDepth 20000 in
theorem gX11_dead_X8_deadBehind : GoodIn wsX11_dead (wsV RX11 198 RX8 yX8_deadBehind wsX8_deadBehind) := goodIn_app (goodIn_of _ (by decide +kernel)) ggX11_dead_X8_deadBehind
theorem dX11_dead_0 : decode cX11_dead 0 = .ok (.aload_n 0, 1) := by decide +kernel
theorem dX11_dead_1 : decode cX11_dead 1 = .ok (.getfield 26, 3) := by decide +kernel
theorem dX11_dead_4 : decode cX11_dead 4 = .ok (.getfield 137, 3) := by decide +kernel
theorem dX11_dead_7 : decode cX11_dead 7 = .ok (.ifCond .ne 6, 3) := by decide +kernel
theorem dX11_dead_10 : decode cX11_dead 10 = .ok (.ldc 141, 2) := by decide +kernel
theorem dX11_dead_12 : decode cX11_dead 12 = .ok (.ireturn, 1) := by decide +kernel
theorem dX11_dead_13 : decode cX11_dead 13 = .ok (.iload_n 1, 1) := by decide +kernel
theorem dX11_dead_14 : decode cX11_dead 14 = .ok (.invokestatic 187, 3) := by decide +kernel
theorem dX11_dead_17 : decode cX11_dead 17 = .ok (.ifCond .ne 6, 3) := by decide +kernel
theorem dX11_dead_20 : decode cX11_dead 20 = .ok (.ldc 71, 2) := by decide +kernel
theorem dX11_dead_22 : decode cX11_dead 22 = .ok (.ireturn, 1) := by decide +kernel
theorem dX11_dead_23 : decode cX11_dead 23 = .ok (.aload_n 0, 1) := by decide +kernel
theorem dX11_dead_24 : decode cX11_dead 24 = .ok (.getfield 26, 3) := by decide +kernel
theorem dX11_dead_27 : decode cX11_dead 27 = .ok (.iload_n 1, 1) := by decide +kernel
theorem dX11_dead_28 : decode cX11_dead 28 = .ok (.invokevirtual 198, 3) := by decide +kernel
theorem dX11_dead_31 : decode cX11_dead 31 = .ok (.ireturn, 1) := by decide +kernel
set_option maxRecDepth 20000 in
theorem ggX11_ends_X8_has : GoodIn wsX11_ends wsX8_has := goodIn_r _ [8, 9, 91, 92, 93, 94, 95, 96, 97, 98] (by decide +kernel) (by decide +kernel)
set_option maxRecDepth 20000 in
theorem gX11_ends_X8_has : GoodIn wsX11_ends (wsV RX11 155 RX8 yX8_has wsX8_has) := goodIn_app (goodIn_of _ (by decide +kernel)) ggX11_ends_X8_has
set_option maxRecDepth 20000 in
theorem ggX11_ends_X2_falseLinesBehind : GoodIn wsX11_ends wsX2_falseLinesBehind := goodIn_r _ [14, 15, 16, 17, 18, 19, 13, 20, 21, 22, 23, 24, 25, 26, 27, 28, 29, 30, 31, 32, 33, 34, 35, 36, 37, 38, 39, 40, 41, 42, 43, 44, 45, 46, 47, 48, 49, 50, 51, 52, 53, 54, 55, 56, 57, 58, 59, 60, 61, 62, 63, 64, 65, 66, 67, 68, 69, 70, 71, 72, 73, 74, 75, 76, 77, 78, 79, 91, 92, 93, 94, 95, 96, 97, 98, 99, 100, 101, 102, 103, 104, 105] (by decide +kernel) (by decide +kernel)
set_option maxRecDepth 20000 in
theorem gX11_ends_X2_falseLinesBehind : GoodIn wsX11_ends (wsV RX11 194 RX2 yX2_falseLinesBehind wsX2_falseLinesBehind) := goodIn_app (goodIn_of _ (by decide +kernel)) ggX11_ends_X2_falseLinesBehind
theorem dX11_ends_0 : decode cX11_ends 0 = .ok (.aload_n 0, 1) := by decide +kernel
theorem dX11_ends_1 : decode cX11_ends 1 = .ok (.getfield 26, 3) := by decide +kernel
theorem dX11_ends_4 : decode cX11_ends 4 = .ok (.iload_n 1, 1) := by decide +kernel
theorem dX11_ends_5 : decode cX11_ends 5 = .ok (.invokevirtual 155, 3) := by decide +kernel
theorem dX11_ends_8 : decode cX11_ends 8 = .ok (.ifCond .ne 6, 3) := by decide +kernel
theorem dX11_ends_11 : decode cX11_ends 11 = .ok (.ldc 71, 2) := by decide +kernel
theorem dX11_ends_13 : decode cX11_ends 13 = .ok (.ireturn, 1) := by decide +kernel
theorem dX11_ends_14 : decode cX11_ends 14 = .ok (.aload_n 0, 1) := by decide +kernel
theorem dX11_ends_15 : decode cX11_ends 15 = .ok (.getfield 50, 3) := by decide +kernel
theorem dX11_ends_18 : decode cX11_ends 18 = .ok (.aload_n 0, 1) := by decide +kernel
theorem dX11_ends_19 : decode cX11_ends 19 = .ok (.getfield 26, 3) := by decide +kernel
theorem dX11_ends_22 : decode cX11_ends 22 = .ok (.iload_n 1, 1) := by decide +kernel
theorem dX11_ends_23 : decode cX11_ends 23 = .ok (.bipush 60, 2) := by decide +kernel
theorem dX11_ends_25 : decode cX11_ends 25 = .ok (.invokevirtual 194, 3) := by decide +kernel
theorem dX11_ends_28 : decode cX11_ends 28 = .ok (.ireturn, 1) := by decide +kernel
set_option maxRecDepth 20000 in
theorem ggX11_first_X11_isChoice : GoodIn wsX11_first wsX11_isChoice := goodIn_r _ [11] (by decide +kernel) (by decide +kernel)
set_option maxRecDepth 20000 in
theorem gX11_first_X11_isChoice : GoodIn wsX11_first (va_wsS RX11 201 yX11_isChoice wsX11_isChoice) := goodIn_app (goodIn_of _ (by decide +kernel)) ggX11_first_X11_isChoice
set_option maxRecDepth 20000 in
theorem ggX11_first_X2_firstUntrue : GoodIn wsX11_first wsX2_firstUntrue := goodIn_r _ [16, 17, 18, 19, 20, 21, 22, 23, 24, 25, 26, 27, 28, 15, 29, 30, 31, 32, 33, 34, 35, 36, 37, 38, 39, 40, 41, 42, 43, 44, 45, 46, 47, 48, 49, 50, 51, 52, 53, 54, 55, 56, 57, 58, 59, 60, 61, 62, 63, 10, 64, 65, 66, 67, 68, 69, 70, 71, 72, 73, 74, 75, 76, 77, 78, 79, 80, 81, 82, 83, 84, 85, 86, 87, 88, 89, 90, 91, 92, 104, 105, 106, 107, 108, 109, 110, 111, 112, 113, 114, 115, 116, 117, 118] (by decide +kernel) (by decide +kernel)
set_option maxRecDepth 20000 in
theorem gX11_first_X2_firstUntrue : GoodIn wsX11_first (wsV RX11 204 RX2 yX2_firstUntrue wsX2_firstUntrue) := goodIn_app (goodIn_of _ (by decide +kernel)) ggX11_first_X2_firstUntrue
theorem dX11_first_0 : decode cX11_first 0 = .ok (.aload_n 0, 1) := by decide +kernel
theorem dX11_first_1 : decode cX11_first 1 = .ok (.getfield 26, 3) := by decide +kernel
theorem dX11_first_4 : decode cX11_first 4 = .ok (.getfield 137, 3) := by decide +kernel
theorem dX11_first_7 : decode cX11_first 7 = .ok (.ifCond .ne 6, 3) := by decide +kernel
theorem dX11_first_10 : decode cX11_first 10 = .ok (.ldc 141, 2) := by decide +kernel
theorem dX11_first_12 : decode cX11_first 12 = .ok (.ireturn, 1) := by decide +kernel
theorem dX11_first_13 : decode cX11_first 13 = .ok (.iload_n 1, 1) := by decide +kernel
theorem dX11_first_14 : decode cX11_first 14 = .ok (.invokestatic 201, 3) := by decide +kernel
theorem dX11_first_17 : decode cX11_first 17 = .ok (.ifCond .ne 6, 3) := by decide +kernel
theorem dX11_first_20 : decode cX11_first 20 = .ok (.ldc 71, 2) := by decide +kernel
theorem dX11_first_22 : decode cX11_first 22 = .ok (.ireturn, 1) := by decide +kernel
theorem dX11_first_23 : decode cX11_first 23 = .ok (.aload_n 0, 1) := by decide +kernel
theorem dX11_first_24 : decode cX11_first 24 = .ok (.getfield 50, 3) := by decide +kernel
theorem dX11_first_27 : decode cX11_first 27 = .ok (.aload_n 0, 1) := by decide +kernel
theorem dX11_first_28 : decode cX11_first 28 = .ok (.getfield 26, 3) := by decide +kernel
theorem dX11_first_31 : decode cX11_first 31 = .ok (.invokevirtual 204, 3) := by decide +kernel
theorem dX11_first_34 : decode cX11_first 34 = .ok (.istore_n 2, 1) := by decide +kernel
theorem dX11_first_35 : decode cX11_first 35 = .ok (.iload_n 2, 1) := by decide +kernel
theorem dX11_first_36 : decode cX11_first 36 = .ok (.ldc 207, 2) := by decide +kernel
theorem dX11_first_38 : decode cX11_first 38 = .ok (.if_icmp .eq 7, 3) := by decide +kernel
theorem dX11_first_41 : decode cX11_first 41 = .ok (.iload_n 1, 1) := by decide +kernel
theorem dX11_first_42 : decode cX11_first 42 = .ok (.ifCond .ne 7, 3) := by decide +kernel
theorem dX11_first_45 : decode cX11_first 45 = .ok (.iload_n 2, 1) := by decide +kernel
theorem dX11_first_46 : decode cX11_first 46 = .ok (.goto 12, 3) := by decide +kernel
theorem dX11_first_49 : decode cX11_first 49 = .ok (.aload_n 0, 1) := by decide +kernel
theorem dX11_first_50 : decode cX11_first 50 = .ok (.getfield 26, 3) := by decide +kernel
theorem dX11_first_53 : decode cX11_first 53 = .ok (.getfield 171, 3) := by decide +kernel
theorem dX11_first_56 : decode cX11_first 56 = .ok (.iload_n 2, 1) := by decide +kernel
theorem dX11_first_57 : decode cX11_first 57 = .ok (.iaload, 1) := by decide +kernel
theorem dX11_first_58 : decode cX11_first 58 = .ok (.ireturn, 1) := by decide +kernel
set_option maxRecDepth 20000 in
theorem ggX11_toWrite_X8_has : GoodIn wsX11_toWrite wsX8_has := goodIn_r _ [11, 12, 107, 108, 109, 110, 111, 112, 113, 114] (by decide +kernel) (by decide +kernel)
set_option maxRecDepth 20000 in
theorem gX11_toWrite_X8_has : GoodIn wsX11_toWrite (wsV RX11 155 RX8 yX8_has wsX8_has) := goodIn_app (goodIn_of _ (by decide +kernel)) ggX11_toWrite_X8_has
set_option maxRecDepth 20000 in
theorem ggX11_toWrite_X11_isSetOfDeeds : GoodIn wsX11_toWrite wsX11_isSetOfDeeds := goodIn_r _ [16] (by decide +kernel) (by decide +kernel)
set_option maxRecDepth 20000 in
theorem gX11_toWrite_X11_isSetOfDeeds : GoodIn wsX11_toWrite (va_wsS RX11 158 yX11_isSetOfDeeds wsX11_isSetOfDeeds) := goodIn_app (goodIn_of _ (by decide +kernel)) ggX11_toWrite_X11_isSetOfDeeds
set_option maxRecDepth 20000 in
theorem ggX11_toWrite_X11_isChoice : GoodIn wsX11_toWrite wsX11_isChoice := goodIn_r _ [19] (by decide +kernel) (by decide +kernel)
set_option maxRecDepth 20000 in
theorem gX11_toWrite_X11_isChoice : GoodIn wsX11_toWrite (va_wsS RX11 201 yX11_isChoice wsX11_isChoice) := goodIn_app (goodIn_of _ (by decide +kernel)) ggX11_toWrite_X11_isChoice
set_option maxRecDepth 20000 in
theorem ggX11_toWrite_X8_lives : GoodIn wsX11_toWrite wsX8_lives := goodIn_r _ [23, 24, 107, 108, 109, 110, 111, 112, 113, 114] (by decide +kernel) (by decide +kernel)
set_option maxRecDepth 20000 in
theorem gX11_toWrite_X8_lives : GoodIn wsX11_toWrite (wsV RX11 161 RX8 yX8_lives wsX8_lives) := goodIn_app (goodIn_of _ (by decide +kernel)) ggX11_toWrite_X8_lives
set_option maxRecDepth 20000 in
theorem ggX11_toWrite_X2_noticeToWrite : GoodIn wsX11_toWrite wsX2_noticeToWrite := goodIn_r _ [29, 30, 31, 32, 33, 34, 28, 35, 36, 37, 38, 39, 40, 41, 42, 43, 44, 45, 46, 47, 48, 49, 50, 51, 52, 53, 54, 55, 56, 57, 58, 59, 60, 61, 62, 63, 64, 15, 65, 66, 67, 68, 69, 70, 71, 72, 73, 74, 75, 76, 77, 78, 79, 80, 81, 82, 83, 84, 85, 86, 87, 88, 89, 90, 91, 92, 93, 107, 108, 109, 110, 111, 112, 113, 114, 115, 116, 117, 118, 119, 120, 121] (by decide +kernel) (by decide +kernel)
set_option maxRecDepth 20000 in
theorem gX11_toWrite_X2_noticeToWrite : GoodIn wsX11_toWrite (wsV RX11 208 RX2 yX2_noticeToWrite wsX2_noticeToWrite) := goodIn_app (goodIn_of _ (by decide +kernel)) ggX11_toWrite_X2_noticeToWrite
set_option maxRecDepth 20000 in
theorem ggX11_toWrite_X2_doneBehind : GoodIn wsX11_toWrite wsX2_doneBehind := goodIn_r _ [35, 36, 37, 38, 39, 40, 41, 42, 43, 44, 45, 28, 46, 47, 48, 49, 50, 51, 52, 53, 54, 55, 56, 57, 58, 59, 60, 61, 62, 63, 64, 15, 65, 66, 67, 68, 69, 70, 71, 72, 73, 74, 75, 76, 77, 78, 79, 80, 81, 82, 83, 84, 85, 86, 87, 88, 89, 90, 107, 108, 109, 110, 111, 112, 113, 114, 115, 116, 117, 118, 119, 120, 121] (by decide +kernel) (by decide +kernel)
set_option maxRecDepth 20000 in
theorem gX11_toWrite_X2_doneBehind : GoodIn wsX11_toWrite (wsV RX11 190 RX2 yX2_doneBehind wsX2_doneBehind) := goodIn_app (goodIn_of _ (by decide +kernel)) ggX11_toWrite_X2_doneBehind
set_option maxRecDepth 20000 in
theorem ggX11_toWrite_X11_falseLines : GoodIn wsX11_toWrite wsX11_falseLines := goodIn_r _ [92, 93, 76, 77, 78, 79, 80, 81] (by decide +kernel) (by decide +kernel)
set_option maxRecDepth 20000 in
theorem gX11_toWrite_X11_falseLines : GoodIn wsX11_toWrite (va_wsS RX11 211 yX11_falseLines wsX11_falseLines) := goodIn_app (goodIn_of _ (by decide +kernel)) ggX11_toWrite_X11_falseLines
theorem dX11_toWrite_0 : decode cX11_toWrite 0 = .ok (.aload_n 0, 1) := by decide +kernel
theorem dX11_toWrite_1 : decode cX11_toWrite 1 = .ok (.getfield 26, 3) := by decide +kernel
theorem dX11_toWrite_4 : decode cX11_toWrite 4 = .ok (.iload_n 1, 1) := by decide +kernel
theorem dX11_toWrite_5 : decode cX11_toWrite 5 = .ok (.invokevirtual 155, 3) := by decide +kernel
theorem dX11_toWrite_8 : decode cX11_toWrite 8 = .ok (.ifCond .eq 17, 3) := by decide +kernel
theorem dX11_toWrite_11 : decode cX11_toWrite 11 = .ok (.iload_n 2, 1) := by decide +kernel
theorem dX11_toWrite_12 : decode cX11_toWrite 12 = .ok (.invokestatic 158, 3) := by decide +kernel
theorem dX11_toWrite_15 : decode cX11_toWrite 15 = .ok (.ifCond .eq 10, 3) := by decide +kernel
theorem dX11_toWrite_18 : decode cX11_toWrite 18 = .ok (.iload_n 3, 1) := by decide +kernel
theorem dX11_toWrite_19 : decode cX11_toWrite 19 = .ok (.invokestatic 201, 3) := by decide +kernel
theorem dX11_toWrite_22 : decode cX11_toWrite 22 = .ok (.ifCond .ne 6, 3) := by decide +kernel
theorem dX11_toWrite_25 : decode cX11_toWrite 25 = .ok (.ldc 71, 2) := by decide +kernel
theorem dX11_toWrite_27 : decode cX11_toWrite 27 = .ok (.ireturn, 1) := by decide +kernel
theorem dX11_toWrite_28 : decode cX11_toWrite 28 = .ok (.aload_n 0, 1) := by decide +kernel
theorem dX11_toWrite_29 : decode cX11_toWrite 29 = .ok (.getfield 26, 3) := by decide +kernel
theorem dX11_toWrite_32 : decode cX11_toWrite 32 = .ok (.iload_n 1, 1) := by decide +kernel
theorem dX11_toWrite_33 : decode cX11_toWrite 33 = .ok (.invokevirtual 161, 3) := by decide +kernel
theorem dX11_toWrite_36 : decode cX11_toWrite 36 = .ok (.ifCond .ne 6, 3) := by decide +kernel
theorem dX11_toWrite_39 : decode cX11_toWrite 39 = .ok (.ldc 141, 2) := by decide +kernel
theorem dX11_toWrite_41 : decode cX11_toWrite 41 = .ok (.ireturn, 1) := by decide +kernel
theorem dX11_toWrite_42 : decode cX11_toWrite 42 = .ok (.aload_n 0, 1) := by decide +kernel
theorem dX11_toWrite_43 : decode cX11_toWrite 43 = .ok (.getfield 50, 3) := by decide +kernel
theorem dX11_toWrite_46 : decode cX11_toWrite 46 = .ok (.aload_n 0, 1) := by decide +kernel
theorem dX11_toWrite_47 : decode cX11_toWrite 47 = .ok (.getfield 26, 3) := by decide +kernel
theorem dX11_toWrite_50 : decode cX11_toWrite 50 = .ok (.iload_n 1, 1) := by decide +kernel
theorem dX11_toWrite_51 : decode cX11_toWrite 51 = .ok (.iload_n 2, 1) := by decide +kernel
theorem dX11_toWrite_52 : decode cX11_toWrite 52 = .ok (.invokevirtual 208, 3) := by decide +kernel
theorem dX11_toWrite_55 : decode cX11_toWrite 55 = .ok (.istore 4, 2) := by decide +kernel
theorem dX11_toWrite_57 : decode cX11_toWrite 57 = .ok (.iload 4, 2) := by decide +kernel
theorem dX11_toWrite_59 : decode cX11_toWrite 59 = .ok (.ldc 207, 2) := by decide +kernel
theorem dX11_toWrite_61 : decode cX11_toWrite 61 = .ok (.if_icmp .eq 8, 3) := by decide +kernel
theorem dX11_toWrite_64 : decode cX11_toWrite 64 = .ok (.iload_n 3, 1) := by decide +kernel
theorem dX11_toWrite_65 : decode cX11_toWrite 65 = .ok (.iconst 1, 1) := by decide +kernel
theorem dX11_toWrite_66 : decode cX11_toWrite 66 = .ok (.if_icmp .ne 6, 3) := by decide +kernel
theorem dX11_toWrite_69 : decode cX11_toWrite 69 = .ok (.iload 4, 2) := by decide +kernel
theorem dX11_toWrite_71 : decode cX11_toWrite 71 = .ok (.ireturn, 1) := by decide +kernel
theorem dX11_toWrite_72 : decode cX11_toWrite 72 = .ok (.aload_n 0, 1) := by decide +kernel
theorem dX11_toWrite_73 : decode cX11_toWrite 73 = .ok (.getfield 50, 3) := by decide +kernel
theorem dX11_toWrite_76 : decode cX11_toWrite 76 = .ok (.aload_n 0, 1) := by decide +kernel
theorem dX11_toWrite_77 : decode cX11_toWrite 77 = .ok (.getfield 26, 3) := by decide +kernel
theorem dX11_toWrite_80 : decode cX11_toWrite 80 = .ok (.iload_n 1, 1) := by decide +kernel
theorem dX11_toWrite_81 : decode cX11_toWrite 81 = .ok (.bipush 60, 2) := by decide +kernel
theorem dX11_toWrite_83 : decode cX11_toWrite 83 = .ok (.aload_n 0, 1) := by decide +kernel
theorem dX11_toWrite_84 : decode cX11_toWrite 84 = .ok (.getfield 26, 3) := by decide +kernel
theorem dX11_toWrite_87 : decode cX11_toWrite 87 = .ok (.getfield 168, 3) := by decide +kernel
theorem dX11_toWrite_90 : decode cX11_toWrite 90 = .ok (.iload_n 1, 1) := by decide +kernel
theorem dX11_toWrite_91 : decode cX11_toWrite 91 = .ok (.iaload, 1) := by decide +kernel
theorem dX11_toWrite_92 : decode cX11_toWrite 92 = .ok (.iload 4, 2) := by decide +kernel
theorem dX11_toWrite_94 : decode cX11_toWrite 94 = .ok (.invokevirtual 190, 3) := by decide +kernel
theorem dX11_toWrite_97 : decode cX11_toWrite 97 = .ok (.iload 4, 2) := by decide +kernel
theorem dX11_toWrite_99 : decode cX11_toWrite 99 = .ok (.invokestatic 211, 3) := by decide +kernel
theorem dX11_toWrite_102 : decode cX11_toWrite 102 = .ok (.ireturn, 1) := by decide +kernel
set_option maxRecDepth 20000 in
theorem ggX11_toDeny_X8_has : GoodIn wsX11_toDeny wsX8_has := goodIn_r _ [9, 10, 95, 96, 97, 98, 99, 100, 101, 102] (by decide +kernel) (by decide +kernel)
set_option maxRecDepth 20000 in
theorem gX11_toDeny_X8_has : GoodIn wsX11_toDeny (wsV RX11 155 RX8 yX8_has wsX8_has) := goodIn_app (goodIn_of _ (by decide +kernel)) ggX11_toDeny_X8_has
set_option maxRecDepth 20000 in
theorem ggX11_toDeny_X11_isChoice : GoodIn wsX11_toDeny wsX11_isChoice := goodIn_r _ [14] (by decide +kernel) (by decide +kernel)
set_option maxRecDepth 20000 in
theorem gX11_toDeny_X11_isChoice : GoodIn wsX11_toDeny (va_wsS RX11 201 yX11_isChoice wsX11_isChoice) := goodIn_app (goodIn_of _ (by decide +kernel)) ggX11_toDeny_X11_isChoice
set_option maxRecDepth 20000 in
theorem ggX11_toDeny_X2_deedsToDeny : GoodIn wsX11_toDeny wsX2_deedsToDeny := goodIn_r _ [19, 20, 21, 22, 23, 24, 25, 26, 27, 28, 29, 30, 31, 32, 18, 33, 34, 35, 36, 37, 38, 39, 40, 41, 42, 43, 44, 45, 46, 47, 48, 49, 50, 51, 52, 53, 54, 55, 56, 57, 58, 59, 60, 61, 62, 13, 63, 64, 65, 66, 67, 68, 69, 70, 71, 72, 73, 74, 75, 76, 77, 78, 79, 80, 81, 82, 95, 96, 97, 98, 99, 100, 101, 102, 103, 104, 105, 106, 107, 108, 109] (by decide +kernel) (by decide +kernel)
set_option maxRecDepth 20000 in
theorem gX11_toDeny_X2_deedsToDeny : GoodIn wsX11_toDeny (wsV RX11 214 RX2 yX2_deedsToDeny wsX2_deedsToDeny) := goodIn_app (goodIn_of _ (by decide +kernel)) ggX11_toDeny_X2_deedsToDeny
set_option maxRecDepth 20000 in
theorem ggX11_toDeny_J6_bitCount_0f7a4 : GoodIn wsX11_toDeny wsJ6_bitCount_0f7a4 := goodIn_r _ [26, 27, 28, 29] (by decide +kernel) (by decide +kernel)
set_option maxRecDepth 20000 in
theorem gX11_toDeny_J6_bitCount_0f7a4 : GoodIn wsX11_toDeny (va_wsS RX11 217 yJ6_bitCount_0f7a4 wsJ6_bitCount_0f7a4) := goodIn_app (goodIn_of _ (by decide +kernel)) ggX11_toDeny_J6_bitCount_0f7a4
theorem dX11_toDeny_0 : decode cX11_toDeny 0 = .ok (.aload_n 0, 1) := by decide +kernel
theorem dX11_toDeny_1 : decode cX11_toDeny 1 = .ok (.getfield 26, 3) := by decide +kernel
theorem dX11_toDeny_4 : decode cX11_toDeny 4 = .ok (.iload_n 1, 1) := by decide +kernel
theorem dX11_toDeny_5 : decode cX11_toDeny 5 = .ok (.invokevirtual 155, 3) := by decide +kernel
theorem dX11_toDeny_8 : decode cX11_toDeny 8 = .ok (.ifCond .eq 10, 3) := by decide +kernel
theorem dX11_toDeny_11 : decode cX11_toDeny 11 = .ok (.iload_n 2, 1) := by decide +kernel
theorem dX11_toDeny_12 : decode cX11_toDeny 12 = .ok (.invokestatic 201, 3) := by decide +kernel
theorem dX11_toDeny_15 : decode cX11_toDeny 15 = .ok (.ifCond .ne 6, 3) := by decide +kernel
theorem dX11_toDeny_18 : decode cX11_toDeny 18 = .ok (.ldc 71, 2) := by decide +kernel
theorem dX11_toDeny_20 : decode cX11_toDeny 20 = .ok (.ireturn, 1) := by decide +kernel
theorem dX11_toDeny_21 : decode cX11_toDeny 21 = .ok (.aload_n 0, 1) := by decide +kernel
theorem dX11_toDeny_22 : decode cX11_toDeny 22 = .ok (.getfield 50, 3) := by decide +kernel
theorem dX11_toDeny_25 : decode cX11_toDeny 25 = .ok (.aload_n 0, 1) := by decide +kernel
theorem dX11_toDeny_26 : decode cX11_toDeny 26 = .ok (.getfield 26, 3) := by decide +kernel
theorem dX11_toDeny_29 : decode cX11_toDeny 29 = .ok (.iload_n 1, 1) := by decide +kernel
theorem dX11_toDeny_30 : decode cX11_toDeny 30 = .ok (.invokevirtual 214, 3) := by decide +kernel
theorem dX11_toDeny_33 : decode cX11_toDeny 33 = .ok (.istore_n 3, 1) := by decide +kernel
theorem dX11_toDeny_34 : decode cX11_toDeny 34 = .ok (.iload_n 3, 1) := by decide +kernel
theorem dX11_toDeny_35 : decode cX11_toDeny 35 = .ok (.ldc 207, 2) := by decide +kernel
theorem dX11_toDeny_37 : decode cX11_toDeny 37 = .ok (.if_icmp .eq 8, 3) := by decide +kernel
theorem dX11_toDeny_40 : decode cX11_toDeny 40 = .ok (.iload_n 2, 1) := by decide +kernel
theorem dX11_toDeny_41 : decode cX11_toDeny 41 = .ok (.iconst 1, 1) := by decide +kernel
theorem dX11_toDeny_42 : decode cX11_toDeny 42 = .ok (.if_icmp .ne 7, 3) := by decide +kernel
theorem dX11_toDeny_45 : decode cX11_toDeny 45 = .ok (.iload_n 3, 1) := by decide +kernel
theorem dX11_toDeny_46 : decode cX11_toDeny 46 = .ok (.goto 7, 3) := by decide +kernel
theorem dX11_toDeny_49 : decode cX11_toDeny 49 = .ok (.iload_n 3, 1) := by decide +kernel
theorem dX11_toDeny_50 : decode cX11_toDeny 50 = .ok (.invokestatic 217, 3) := by decide +kernel
theorem dX11_toDeny_53 : decode cX11_toDeny 53 = .ok (.ireturn, 1) := by decide +kernel
set_option maxRecDepth 20000 in
theorem ggX11_print_X11_isChoice : GoodIn wsX11_print wsX11_isChoice := goodIn_r _ [8] (by decide +kernel) (by decide +kernel)
set_option maxRecDepth 20000 in
theorem gX11_print_X11_isChoice : GoodIn wsX11_print (va_wsS RX11 201 yX11_isChoice wsX11_isChoice) := goodIn_app (goodIn_of _ (by decide +kernel)) ggX11_print_X11_isChoice
set_option maxRecDepth 20000 in
theorem ggX11_print_X8_readersToPrint : GoodIn wsX11_print wsX8_readersToPrint := goodIn_r _ [13, 14, 15, 16, 17, 18, 12, 19, 20, 21, 22, 23, 24, 25, 26, 27, 28, 29, 30, 31, 32, 33, 34, 35, 36, 49, 50, 51, 52, 53, 54, 55, 56] (by decide +kernel) (by decide +kernel)
set_option maxRecDepth 20000 in
theorem gX11_print_X8_readersToPrint : GoodIn wsX11_print (wsV RX11 222 RX8 yX8_readersToPrint wsX8_readersToPrint) := goodIn_app (goodIn_of _ (by decide +kernel)) ggX11_print_X8_readersToPrint
set_option maxRecDepth 20000 in
theorem ggX11_print_X8_deedsPrinted : GoodIn wsX11_print wsX8_deedsPrinted := goodIn_r _ [35, 14, 20, 36, 21, 22, 23, 24, 25, 26, 27, 49, 50, 51, 52, 53, 54, 55, 56] (by decide +kernel) (by decide +kernel)
set_option maxRecDepth 20000 in
theorem gX11_print_X8_deedsPrinted : GoodIn wsX11_print (wsV RX11 225 RX8 yX8_deedsPrinted wsX8_deedsPrinted) := goodIn_app (goodIn_of _ (by decide +kernel)) ggX11_print_X8_deedsPrinted
theorem dX11_print_0 : decode cX11_print 0 = .ok (.aload_n 0, 1) := by decide +kernel
theorem dX11_print_1 : decode cX11_print 1 = .ok (.getfield 26, 3) := by decide +kernel
theorem dX11_print_4 : decode cX11_print 4 = .ok (.getfield 137, 3) := by decide +kernel
theorem dX11_print_7 : decode cX11_print 7 = .ok (.ifCond .ne 6, 3) := by decide +kernel
theorem dX11_print_10 : decode cX11_print 10 = .ok (.ldc 141, 2) := by decide +kernel
theorem dX11_print_12 : decode cX11_print 12 = .ok (.ireturn, 1) := by decide +kernel
theorem dX11_print_13 : decode cX11_print 13 = .ok (.iload_n 1, 1) := by decide +kernel
theorem dX11_print_14 : decode cX11_print 14 = .ok (.invokestatic 201, 3) := by decide +kernel
theorem dX11_print_17 : decode cX11_print 17 = .ok (.ifCond .ne 6, 3) := by decide +kernel
theorem dX11_print_20 : decode cX11_print 20 = .ok (.ldc 71, 2) := by decide +kernel
theorem dX11_print_22 : decode cX11_print 22 = .ok (.ireturn, 1) := by decide +kernel
theorem dX11_print_23 : decode cX11_print 23 = .ok (.aload_n 0, 1) := by decide +kernel
theorem dX11_print_24 : decode cX11_print 24 = .ok (.getfield 26, 3) := by decide +kernel
theorem dX11_print_27 : decode cX11_print 27 = .ok (.invokevirtual 222, 3) := by decide +kernel
theorem dX11_print_30 : decode cX11_print 30 = .ok (.istore_n 2, 1) := by decide +kernel
theorem dX11_print_31 : decode cX11_print 31 = .ok (.iload_n 1, 1) := by decide +kernel
theorem dX11_print_32 : decode cX11_print 32 = .ok (.iconst 1, 1) := by decide +kernel
theorem dX11_print_33 : decode cX11_print 33 = .ok (.if_icmp .ne 7, 3) := by decide +kernel
theorem dX11_print_36 : decode cX11_print 36 = .ok (.iload_n 2, 1) := by decide +kernel
theorem dX11_print_37 : decode cX11_print 37 = .ok (.goto 11, 3) := by decide +kernel
theorem dX11_print_40 : decode cX11_print 40 = .ok (.aload_n 0, 1) := by decide +kernel
theorem dX11_print_41 : decode cX11_print 41 = .ok (.getfield 26, 3) := by decide +kernel
theorem dX11_print_44 : decode cX11_print 44 = .ok (.iload_n 2, 1) := by decide +kernel
theorem dX11_print_45 : decode cX11_print 45 = .ok (.invokevirtual 225, 3) := by decide +kernel
theorem dX11_print_48 : decode cX11_print 48 = .ok (.ireturn, 1) := by decide +kernel
set_option maxRecDepth 20000 in
theorem ggX11_temper_X8_has : GoodIn wsX11_temper wsX8_has := goodIn_r _ [11, 12, 118, 119, 120, 121, 122, 123, 124, 125] (by decide +kernel) (by decide +kernel)
set_option maxRecDepth 20000 in
theorem gX11_temper_X8_has : GoodIn wsX11_temper (wsV RX11 155 RX8 yX8_has wsX8_has) := goodIn_app (goodIn_of _ (by decide +kernel)) ggX11_temper_X8_has
set_option maxRecDepth 20000 in
theorem ggX11_temper_X4_isRow : GoodIn wsX11_temper wsX4_isRow := goodIn_r _ [16] (by decide +kernel) (by decide +kernel)
set_option maxRecDepth 20000 in
theorem gX11_temper_X4_isRow : GoodIn wsX11_temper (va_wsS RX11 64 yX4_isRow wsX4_isRow) := goodIn_app (goodIn_of _ (by decide +kernel)) ggX11_temper_X4_isRow
set_option maxRecDepth 20000 in
theorem ggX11_temper_X11_isToldDays : GoodIn wsX11_temper wsX11_isToldDays := goodIn_r _ [20] (by decide +kernel) (by decide +kernel)
set_option maxRecDepth 20000 in
theorem gX11_temper_X11_isToldDays : GoodIn wsX11_temper (va_wsS RX11 228 yX11_isToldDays wsX11_isToldDays) := goodIn_app (goodIn_of _ (by decide +kernel)) ggX11_temper_X11_isToldDays
set_option maxRecDepth 20000 in
theorem ggX11_temper_X11_lackOf : GoodIn wsX11_temper wsX11_lackOf := goodIn_r _ [24, 5, 25, 26, 27, 15, 28, 29, 30, 31, 32, 33, 34, 107, 108, 109, 110, 111, 112, 113, 114, 115, 116, 117, 133, 134, 135] (by decide +kernel) (by decide +kernel)
set_option maxRecDepth 20000 in
theorem gX11_temper_X11_lackOf : GoodIn wsX11_temper (wsV RX11 83 RX11 yX11_lackOf wsX11_lackOf) := goodIn_app (goodIn_of _ (by decide +kernel)) ggX11_temper_X11_lackOf
set_option maxRecDepth 20000 in
theorem ggX11_temper_X11_found : GoodIn wsX11_temper wsX11_found := goodIn_r _ [38, 39, 40, 107, 108, 109, 110, 111, 112, 113, 114, 115, 116, 117] (by decide +kernel) (by decide +kernel)
set_option maxRecDepth 20000 in
theorem gX11_temper_X11_found : GoodIn wsX11_temper (wsV RX11 72 RX11 yX11_found wsX11_found) := goodIn_app (goodIn_of _ (by decide +kernel)) ggX11_temper_X11_found
set_option maxRecDepth 20000 in
theorem ggX11_temper_X2_layCourse : GoodIn wsX11_temper wsX2_layCourse := goodIn_r _ [45, 46, 47, 48, 49, 50, 51, 52, 44, 53, 54, 55, 56, 57, 58, 59, 60, 61, 62, 63, 64, 65, 66, 67, 68, 69, 70, 71, 19, 72, 73, 74, 75, 76, 77, 78, 79, 80, 81, 82, 83, 84, 85, 86, 87, 88, 89, 90, 91, 92, 93, 94, 95, 96, 97, 118, 119, 120, 121, 122, 123, 124, 125, 126, 127, 128, 129, 130, 131, 132] (by decide +kernel) (by decide +kernel)
set_option maxRecDepth 20000 in
theorem gX11_temper_X2_layCourse : GoodIn wsX11_temper (wsV RX11 231 RX2 yX2_layCourse wsX2_layCourse) := goodIn_app (goodIn_of _ (by decide +kernel)) ggX11_temper_X2_layCourse
set_option maxRecDepth 20000 in
theorem ggX11_temper_X4_tell : GoodIn wsX11_temper wsX4_tell := goodIn_r _ [101, 102, 133, 134, 135] (by decide +kernel) (by decide +kernel)
set_option maxRecDepth 20000 in
theorem gX11_temper_X4_tell : GoodIn wsX11_temper (wsV RX11 238 RX4 yX4_tell wsX4_tell) := goodIn_app (goodIn_of _ (by decide +kernel)) ggX11_temper_X4_tell
set_option maxRecDepth 20000 in
theorem ggX11_temper_X11_well : GoodIn wsX11_temper wsX11_well := goodIn_r _ [106, 39, 107, 108, 109, 110, 111, 112, 113, 114, 115, 116, 117] (by decide +kernel) (by decide +kernel)
set_option maxRecDepth 20000 in
theorem gX11_temper_X11_well : GoodIn wsX11_temper (wsV RX11 80 RX11 yX11_well wsX11_well) := goodIn_app (goodIn_of _ (by decide +kernel)) ggX11_temper_X11_well
theorem dX11_temper_0 : decode cX11_temper 0 = .ok (.aload_n 0, 1) := by decide +kernel
theorem dX11_temper_1 : decode cX11_temper 1 = .ok (.getfield 26, 3) := by decide +kernel
theorem dX11_temper_4 : decode cX11_temper 4 = .ok (.iload_n 1, 1) := by decide +kernel
theorem dX11_temper_5 : decode cX11_temper 5 = .ok (.invokevirtual 155, 3) := by decide +kernel
theorem dX11_temper_8 : decode cX11_temper 8 = .ok (.ifCond .eq 18, 3) := by decide +kernel
theorem dX11_temper_11 : decode cX11_temper 11 = .ok (.iload_n 2, 1) := by decide +kernel
theorem dX11_temper_12 : decode cX11_temper 12 = .ok (.invokestatic 64, 3) := by decide +kernel
theorem dX11_temper_15 : decode cX11_temper 15 = .ok (.ifCond .eq 11, 3) := by decide +kernel
theorem dX11_temper_18 : decode cX11_temper 18 = .ok (.iload 4, 2) := by decide +kernel
theorem dX11_temper_20 : decode cX11_temper 20 = .ok (.invokestatic 228, 3) := by decide +kernel
theorem dX11_temper_23 : decode cX11_temper 23 = .ok (.ifCond .ne 6, 3) := by decide +kernel
theorem dX11_temper_26 : decode cX11_temper 26 = .ok (.ldc 71, 2) := by decide +kernel
theorem dX11_temper_28 : decode cX11_temper 28 = .ok (.ireturn, 1) := by decide +kernel
theorem dX11_temper_29 : decode cX11_temper 29 = .ok (.aload_n 0, 1) := by decide +kernel
theorem dX11_temper_30 : decode cX11_temper 30 = .ok (.iload_n 2, 1) := by decide +kernel
theorem dX11_temper_31 : decode cX11_temper 31 = .ok (.iload_n 3, 1) := by decide +kernel
theorem dX11_temper_32 : decode cX11_temper 32 = .ok (.iload 4, 2) := by decide +kernel
theorem dX11_temper_34 : decode cX11_temper 34 = .ok (.invokevirtual 83, 3) := by decide +kernel
theorem dX11_temper_37 : decode cX11_temper 37 = .ok (.istore 5, 2) := by decide +kernel
theorem dX11_temper_39 : decode cX11_temper 39 = .ok (.iload 5, 2) := by decide +kernel
theorem dX11_temper_41 : decode cX11_temper 41 = .ok (.ifCond .eq 10, 3) := by decide +kernel
theorem dX11_temper_44 : decode cX11_temper 44 = .ok (.aload_n 0, 1) := by decide +kernel
theorem dX11_temper_45 : decode cX11_temper 45 = .ok (.iload 5, 2) := by decide +kernel
theorem dX11_temper_47 : decode cX11_temper 47 = .ok (.invokevirtual 72, 3) := by decide +kernel
theorem dX11_temper_50 : decode cX11_temper 50 = .ok (.ireturn, 1) := by decide +kernel
theorem dX11_temper_51 : decode cX11_temper 51 = .ok (.iconst 0, 1) := by decide +kernel
theorem dX11_temper_52 : decode cX11_temper 52 = .ok (.istore 6, 2) := by decide +kernel
theorem dX11_temper_54 : decode cX11_temper 54 = .ok (.iconst 1, 1) := by decide +kernel
theorem dX11_temper_55 : decode cX11_temper 55 = .ok (.istore 7, 2) := by decide +kernel
theorem dX11_temper_57 : decode cX11_temper 57 = .ok (.iload 7, 2) := by decide +kernel
theorem dX11_temper_59 : decode cX11_temper 59 = .ok (.iconst 5, 1) := by decide +kernel
theorem dX11_temper_60 : decode cX11_temper 60 = .ok (.if_icmp .gt 62, 3) := by decide +kernel
theorem dX11_temper_63 : decode cX11_temper 63 = .ok (.aload_n 0, 1) := by decide +kernel
theorem dX11_temper_64 : decode cX11_temper 64 = .ok (.getfield 50, 3) := by decide +kernel
theorem dX11_temper_67 : decode cX11_temper 67 = .ok (.aload_n 0, 1) := by decide +kernel
theorem dX11_temper_68 : decode cX11_temper 68 = .ok (.getfield 26, 3) := by decide +kernel
theorem dX11_temper_71 : decode cX11_temper 71 = .ok (.iload_n 1, 1) := by decide +kernel
theorem dX11_temper_72 : decode cX11_temper 72 = .ok (.iload 7, 2) := by decide +kernel
theorem dX11_temper_74 : decode cX11_temper 74 = .ok (.aload_n 0, 1) := by decide +kernel
theorem dX11_temper_75 : decode cX11_temper 75 = .ok (.getfield 26, 3) := by decide +kernel
theorem dX11_temper_78 : decode cX11_temper 78 = .ok (.getfield 164, 3) := by decide +kernel
theorem dX11_temper_81 : decode cX11_temper 81 = .ok (.iload_n 1, 1) := by decide +kernel
theorem dX11_temper_82 : decode cX11_temper 82 = .ok (.iaload, 1) := by decide +kernel
theorem dX11_temper_83 : decode cX11_temper 83 = .ok (.invokevirtual 231, 3) := by decide +kernel
theorem dX11_temper_86 : decode cX11_temper 86 = .ok (.aload_n 0, 1) := by decide +kernel
theorem dX11_temper_87 : decode cX11_temper 87 = .ok (.getfield 12, 3) := by decide +kernel
theorem dX11_temper_90 : decode cX11_temper 90 = .ok (.iload_n 2, 1) := by decide +kernel
theorem dX11_temper_91 : decode cX11_temper 91 = .ok (.iload_n 3, 1) := by decide +kernel
theorem dX11_temper_92 : decode cX11_temper 92 = .ok (.iload 4, 2) := by decide +kernel
theorem dX11_temper_94 : decode cX11_temper 94 = .ok (.aload_n 0, 1) := by decide +kernel
theorem dX11_temper_95 : decode cX11_temper 95 = .ok (.getfield 50, 3) := by decide +kernel
theorem dX11_temper_98 : decode cX11_temper 98 = .ok (.getfield 235, 3) := by decide +kernel
theorem dX11_temper_101 : decode cX11_temper 101 = .ok (.invokevirtual 238, 3) := by decide +kernel
theorem dX11_temper_104 : decode cX11_temper 104 = .ok (.ifCond .eq 12, 3) := by decide +kernel
theorem dX11_temper_107 : decode cX11_temper 107 = .ok (.iload 6, 2) := by decide +kernel
theorem dX11_temper_109 : decode cX11_temper 109 = .ok (.iconst 1, 1) := by decide +kernel
theorem dX11_temper_110 : decode cX11_temper 110 = .ok (.iload 7, 2) := by decide +kernel
theorem dX11_temper_112 : decode cX11_temper 112 = .ok (.ishl, 1) := by decide +kernel
theorem dX11_temper_113 : decode cX11_temper 113 = .ok (.ior, 1) := by decide +kernel
theorem dX11_temper_114 : decode cX11_temper 114 = .ok (.istore 6, 2) := by decide +kernel
theorem dX11_temper_116 : decode cX11_temper 116 = .ok (.iinc 7 1, 3) := by decide +kernel
theorem dX11_temper_119 : decode cX11_temper 119 = .ok (.goto (-62), 3) := by decide +kernel
theorem dX11_temper_122 : decode cX11_temper 122 = .ok (.aload_n 0, 1) := by decide +kernel
theorem dX11_temper_123 : decode cX11_temper 123 = .ok (.iload 6, 2) := by decide +kernel
theorem dX11_temper_125 : decode cX11_temper 125 = .ok (.invokevirtual 80, 3) := by decide +kernel
theorem dX11_temper_128 : decode cX11_temper 128 = .ok (.ireturn, 1) := by decide +kernel
set_option maxRecDepth 20000 in
theorem ggX11_told_X8_has : GoodIn wsX11_told wsX8_has := goodIn_r _ [12, 13, 122, 123, 124, 125, 126, 127, 128, 129] (by decide +kernel) (by decide +kernel)
set_option maxRecDepth 20000 in
theorem gX11_told_X8_has : GoodIn wsX11_told (wsV RX11 155 RX8 yX8_has wsX8_has) := goodIn_app (goodIn_of _ (by decide +kernel)) ggX11_told_X8_has
set_option maxRecDepth 20000 in
theorem ggX11_told_X4_isRow : GoodIn wsX11_told wsX4_isRow := goodIn_r _ [17] (by decide +kernel) (by decide +kernel)
set_option maxRecDepth 20000 in
theorem gX11_told_X4_isRow : GoodIn wsX11_told (va_wsS RX11 64 yX4_isRow wsX4_isRow) := goodIn_app (goodIn_of _ (by decide +kernel)) ggX11_told_X4_isRow
set_option maxRecDepth 20000 in
theorem ggX11_told_X11_isToldDays : GoodIn wsX11_told wsX11_isToldDays := goodIn_r _ [21] (by decide +kernel) (by decide +kernel)
set_option maxRecDepth 20000 in
theorem gX11_told_X11_isToldDays : GoodIn wsX11_told (va_wsS RX11 228 yX11_isToldDays wsX11_isToldDays) := goodIn_app (goodIn_of _ (by decide +kernel)) ggX11_told_X11_isToldDays
set_option maxRecDepth 20000 in
theorem ggX11_told_X11_isChoice : GoodIn wsX11_told wsX11_isChoice := goodIn_r _ [24] (by decide +kernel) (by decide +kernel)
set_option maxRecDepth 20000 in
theorem gX11_told_X11_isChoice : GoodIn wsX11_told (va_wsS RX11 201 yX11_isChoice wsX11_isChoice) := goodIn_app (goodIn_of _ (by decide +kernel)) ggX11_told_X11_isChoice
set_option maxRecDepth 20000 in
theorem ggX11_told_X11_lackOf : GoodIn wsX11_told wsX11_lackOf := goodIn_r _ [28, 6, 29, 30, 31, 16, 32, 33, 34, 35, 36, 37, 38, 111, 112, 113, 114, 115, 116, 117, 118, 119, 120, 121, 137, 138, 139] (by decide +kernel) (by decide +kernel)
set_option maxRecDepth 20000 in
theorem gX11_told_X11_lackOf : GoodIn wsX11_told (wsV RX11 83 RX11 yX11_lackOf wsX11_lackOf) := goodIn_app (goodIn_of _ (by decide +kernel)) ggX11_told_X11_lackOf
set_option maxRecDepth 20000 in
theorem ggX11_told_X11_found : GoodIn wsX11_told wsX11_found := goodIn_r _ [42, 43, 44, 111, 112, 113, 114, 115, 116, 117, 118, 119, 120, 121] (by decide +kernel) (by decide +kernel)
set_option maxRecDepth 20000 in
theorem gX11_told_X11_found : GoodIn wsX11_told (wsV RX11 72 RX11 yX11_found wsX11_found) := goodIn_app (goodIn_of _ (by decide +kernel)) ggX11_told_X11_found
set_option maxRecDepth 20000 in
theorem ggX11_told_X2_layCourse : GoodIn wsX11_told wsX2_layCourse := goodIn_r _ [49, 50, 51, 52, 53, 54, 55, 56, 48, 57, 58, 59, 60, 61, 62, 63, 64, 65, 66, 67, 68, 69, 70, 71, 72, 73, 74, 75, 20, 76, 77, 78, 79, 80, 81, 82, 83, 84, 85, 86, 87, 88, 89, 90, 91, 92, 93, 94, 95, 96, 97, 98, 99, 100, 101, 122, 123, 124, 125, 126, 127, 128, 129, 130, 131, 132, 133, 134, 135, 136] (by decide +kernel) (by decide +kernel)
set_option maxRecDepth 20000 in
theorem gX11_told_X2_layCourse : GoodIn wsX11_told (wsV RX11 231 RX2 yX2_layCourse wsX2_layCourse) := goodIn_app (goodIn_of _ (by decide +kernel)) ggX11_told_X2_layCourse
set_option maxRecDepth 20000 in
theorem ggX11_told_X4_tell : GoodIn wsX11_told wsX4_tell := goodIn_r _ [105, 106, 137, 138, 139] (by decide +kernel) (by decide +kernel)
set_option maxRecDepth 20000 in
theorem gX11_told_X4_tell : GoodIn wsX11_told (wsV RX11 238 RX4 yX4_tell wsX4_tell) := goodIn_app (goodIn_of _ (by decide +kernel)) ggX11_told_X4_tell
set_option maxRecDepth 20000 in
theorem ggX11_told_X11_well : GoodIn wsX11_told wsX11_well := goodIn_r _ [110, 43, 111, 112, 113, 114, 115, 116, 117, 118, 119, 120, 121] (by decide +kernel) (by decide +kernel)
set_option maxRecDepth 20000 in
theorem gX11_told_X11_well : GoodIn wsX11_told (wsV RX11 80 RX11 yX11_well wsX11_well) := goodIn_app (goodIn_of _ (by decide +kernel)) ggX11_told_X11_well
theorem dX11_told_0 : decode cX11_told 0 = .ok (.aload_n 0, 1) := by decide +kernel
theorem dX11_told_1 : decode cX11_told 1 = .ok (.getfield 26, 3) := by decide +kernel
theorem dX11_told_4 : decode cX11_told 4 = .ok (.iload_n 1, 1) := by decide +kernel
theorem dX11_told_5 : decode cX11_told 5 = .ok (.invokevirtual 155, 3) := by decide +kernel
theorem dX11_told_8 : decode cX11_told 8 = .ok (.ifCond .eq 26, 3) := by decide +kernel
theorem dX11_told_11 : decode cX11_told 11 = .ok (.iload_n 2, 1) := by decide +kernel
theorem dX11_told_12 : decode cX11_told 12 = .ok (.invokestatic 64, 3) := by decide +kernel
theorem dX11_told_15 : decode cX11_told 15 = .ok (.ifCond .eq 19, 3) := by decide +kernel
theorem dX11_told_18 : decode cX11_told 18 = .ok (.iload 4, 2) := by decide +kernel
theorem dX11_told_20 : decode cX11_told 20 = .ok (.invokestatic 228, 3) := by decide +kernel
theorem dX11_told_23 : decode cX11_told 23 = .ok (.ifCond .eq 11, 3) := by decide +kernel
theorem dX11_told_26 : decode cX11_told 26 = .ok (.iload 5, 2) := by decide +kernel
theorem dX11_told_28 : decode cX11_told 28 = .ok (.invokestatic 201, 3) := by decide +kernel
theorem dX11_told_31 : decode cX11_told 31 = .ok (.ifCond .ne 6, 3) := by decide +kernel
theorem dX11_told_34 : decode cX11_told 34 = .ok (.ldc 71, 2) := by decide +kernel
theorem dX11_told_36 : decode cX11_told 36 = .ok (.ireturn, 1) := by decide +kernel
theorem dX11_told_37 : decode cX11_told 37 = .ok (.aload_n 0, 1) := by decide +kernel
theorem dX11_told_38 : decode cX11_told 38 = .ok (.iload_n 2, 1) := by decide +kernel
theorem dX11_told_39 : decode cX11_told 39 = .ok (.iload_n 3, 1) := by decide +kernel
theorem dX11_told_40 : decode cX11_told 40 = .ok (.iload 4, 2) := by decide +kernel
theorem dX11_told_42 : decode cX11_told 42 = .ok (.invokevirtual 83, 3) := by decide +kernel
theorem dX11_told_45 : decode cX11_told 45 = .ok (.istore 6, 2) := by decide +kernel
theorem dX11_told_47 : decode cX11_told 47 = .ok (.iload 6, 2) := by decide +kernel
theorem dX11_told_49 : decode cX11_told 49 = .ok (.ifCond .eq 10, 3) := by decide +kernel
theorem dX11_told_52 : decode cX11_told 52 = .ok (.aload_n 0, 1) := by decide +kernel
theorem dX11_told_53 : decode cX11_told 53 = .ok (.iload 6, 2) := by decide +kernel
theorem dX11_told_55 : decode cX11_told 55 = .ok (.invokevirtual 72, 3) := by decide +kernel
theorem dX11_told_58 : decode cX11_told 58 = .ok (.ireturn, 1) := by decide +kernel
theorem dX11_told_59 : decode cX11_told 59 = .ok (.iconst 0, 1) := by decide +kernel
theorem dX11_told_60 : decode cX11_told 60 = .ok (.istore 7, 2) := by decide +kernel
theorem dX11_told_62 : decode cX11_told 62 = .ok (.ldc 207, 2) := by decide +kernel
theorem dX11_told_64 : decode cX11_told 64 = .ok (.istore 8, 2) := by decide +kernel
theorem dX11_told_66 : decode cX11_told 66 = .ok (.bipush 63, 2) := by decide +kernel
theorem dX11_told_68 : decode cX11_told 68 = .ok (.istore 9, 2) := by decide +kernel
theorem dX11_told_70 : decode cX11_told 70 = .ok (.iload 9, 2) := by decide +kernel
theorem dX11_told_72 : decode cX11_told 72 = .ok (.ifCond .lt 60, 3) := by decide +kernel
theorem dX11_told_75 : decode cX11_told 75 = .ok (.aload_n 0, 1) := by decide +kernel
theorem dX11_told_76 : decode cX11_told 76 = .ok (.getfield 50, 3) := by decide +kernel
theorem dX11_told_79 : decode cX11_told 79 = .ok (.aload_n 0, 1) := by decide +kernel
theorem dX11_told_80 : decode cX11_told 80 = .ok (.getfield 26, 3) := by decide +kernel
theorem dX11_told_83 : decode cX11_told 83 = .ok (.iload_n 1, 1) := by decide +kernel
theorem dX11_told_84 : decode cX11_told 84 = .ok (.aload_n 0, 1) := by decide +kernel
theorem dX11_told_85 : decode cX11_told 85 = .ok (.getfield 26, 3) := by decide +kernel
theorem dX11_told_88 : decode cX11_told 88 = .ok (.getfield 242, 3) := by decide +kernel
theorem dX11_told_91 : decode cX11_told 91 = .ok (.iload_n 1, 1) := by decide +kernel
theorem dX11_told_92 : decode cX11_told 92 = .ok (.iaload, 1) := by decide +kernel
theorem dX11_told_93 : decode cX11_told 93 = .ok (.iload 9, 2) := by decide +kernel
theorem dX11_told_95 : decode cX11_told 95 = .ok (.invokevirtual 231, 3) := by decide +kernel
theorem dX11_told_98 : decode cX11_told 98 = .ok (.aload_n 0, 1) := by decide +kernel
theorem dX11_told_99 : decode cX11_told 99 = .ok (.getfield 12, 3) := by decide +kernel
theorem dX11_told_102 : decode cX11_told 102 = .ok (.iload_n 2, 1) := by decide +kernel
theorem dX11_told_103 : decode cX11_told 103 = .ok (.iload_n 3, 1) := by decide +kernel
theorem dX11_told_104 : decode cX11_told 104 = .ok (.iload 4, 2) := by decide +kernel
theorem dX11_told_106 : decode cX11_told 106 = .ok (.aload_n 0, 1) := by decide +kernel
theorem dX11_told_107 : decode cX11_told 107 = .ok (.getfield 50, 3) := by decide +kernel
theorem dX11_told_110 : decode cX11_told 110 = .ok (.getfield 235, 3) := by decide +kernel
theorem dX11_told_113 : decode cX11_told 113 = .ok (.invokevirtual 238, 3) := by decide +kernel
theorem dX11_told_116 : decode cX11_told 116 = .ok (.ifCond .eq 10, 3) := by decide +kernel
theorem dX11_told_119 : decode cX11_told 119 = .ok (.iinc 7 1, 3) := by decide +kernel
theorem dX11_told_122 : decode cX11_told 122 = .ok (.iload 9, 2) := by decide +kernel
theorem dX11_told_124 : decode cX11_told 124 = .ok (.istore 8, 2) := by decide +kernel
theorem dX11_told_126 : decode cX11_told 126 = .ok (.iinc 9 (-1), 3) := by decide +kernel
theorem dX11_told_129 : decode cX11_told 129 = .ok (.goto (-59), 3) := by decide +kernel
theorem dX11_told_132 : decode cX11_told 132 = .ok (.aload_n 0, 1) := by decide +kernel
theorem dX11_told_133 : decode cX11_told 133 = .ok (.iload 5, 2) := by decide +kernel
theorem dX11_told_135 : decode cX11_told 135 = .ok (.ifCond .ne 8, 3) := by decide +kernel
theorem dX11_told_138 : decode cX11_told 138 = .ok (.iload 7, 2) := by decide +kernel
theorem dX11_told_140 : decode cX11_told 140 = .ok (.goto 5, 3) := by decide +kernel
theorem dX11_told_143 : decode cX11_told 143 = .ok (.iload 8, 2) := by decide +kernel
theorem dX11_told_145 : decode cX11_told 145 = .ok (.invokevirtual 80, 3) := by decide +kernel
theorem dX11_told_148 : decode cX11_told 148 = .ok (.ireturn, 1) := by decide +kernel
set_option maxRecDepth 20000 in
theorem ggX11_odds_X11_isChoice : GoodIn wsX11_odds wsX11_isChoice := goodIn_r _ [10] (by decide +kernel) (by decide +kernel)
set_option maxRecDepth 20000 in
theorem gX11_odds_X11_isChoice : GoodIn wsX11_odds (va_wsS RX11 201 yX11_isChoice wsX11_isChoice) := goodIn_app (goodIn_of _ (by decide +kernel)) ggX11_odds_X11_isChoice
set_option maxRecDepth 20000 in
theorem ggX11_odds_X11_tenToThe : GoodIn wsX11_odds wsX11_tenToThe := goodIn_r _ [13] (by decide +kernel) (by decide +kernel)
set_option maxRecDepth 20000 in
theorem gX11_odds_X11_tenToThe : GoodIn wsX11_odds (va_wsS RX11 245 yX11_tenToThe wsX11_tenToThe) := goodIn_app (goodIn_of _ (by decide +kernel)) ggX11_odds_X11_tenToThe
set_option maxRecDepth 20000 in
theorem ggX11_odds_X2_waysToBeTrue : GoodIn wsX11_odds wsX2_waysToBeTrue := goodIn_r _ [18, 19, 20, 21, 22, 23, 17, 24, 25, 26, 27, 28, 29, 30, 31, 32, 33, 34, 35, 36, 37, 38, 39, 40, 41, 42, 43, 44, 45, 46, 47, 48, 49, 50, 51, 52, 53, 54, 55, 56, 57, 58, 59, 9, 60, 61, 62, 63, 64, 65, 66, 67, 68, 69, 70, 71, 72, 73, 74, 75, 76, 77, 78, 79, 80, 81, 82, 83, 84, 85, 86, 87, 88, 89, 112, 113, 114, 115, 116, 117, 118, 104, 105, 106, 107, 108, 109, 110, 111] (by decide +kernel) (by decide +kernel)
set_option maxRecDepth 20000 in
theorem gX11_odds_X2_waysToBeTrue : GoodIn wsX11_odds (wsV RX11 248 RX2 yX2_waysToBeTrue wsX2_waysToBeTrue) := goodIn_app (goodIn_of _ (by decide +kernel)) ggX11_odds_X2_waysToBeTrue
set_option maxRecDepth 20000 in
theorem ggX11_odds_X11_greatestDivisor : GoodIn wsX11_odds wsX11_greatestDivisor := goodIn_r _ [92] (by decide +kernel) (by decide +kernel)
set_option maxRecDepth 20000 in
theorem gX11_odds_X11_greatestDivisor : GoodIn wsX11_odds (va_wsS RX11 251 yX11_greatestDivisor wsX11_greatestDivisor) := goodIn_app (goodIn_of _ (by decide +kernel)) ggX11_odds_X11_greatestDivisor
theorem dX11_odds_0 : decode cX11_odds 0 = .ok (.aload_n 0, 1) := by decide +kernel
theorem dX11_odds_1 : decode cX11_odds 1 = .ok (.getfield 26, 3) := by decide +kernel
theorem dX11_odds_4 : decode cX11_odds 4 = .ok (.getfield 137, 3) := by decide +kernel
theorem dX11_odds_7 : decode cX11_odds 7 = .ok (.ifCond .ne 6, 3) := by decide +kernel
theorem dX11_odds_10 : decode cX11_odds 10 = .ok (.ldc 141, 2) := by decide +kernel
theorem dX11_odds_12 : decode cX11_odds 12 = .ok (.ireturn, 1) := by decide +kernel
theorem dX11_odds_13 : decode cX11_odds 13 = .ok (.iload_n 1, 1) := by decide +kernel
theorem dX11_odds_14 : decode cX11_odds 14 = .ok (.ifCond .lt 26, 3) := by decide +kernel
theorem dX11_odds_17 : decode cX11_odds 17 = .ok (.iload_n 1, 1) := by decide +kernel
theorem dX11_odds_18 : decode cX11_odds 18 = .ok (.bipush 6, 2) := by decide +kernel
theorem dX11_odds_20 : decode cX11_odds 20 = .ok (.if_icmp .gt 20, 3) := by decide +kernel
theorem dX11_odds_23 : decode cX11_odds 23 = .ok (.iload_n 2, 1) := by decide +kernel
theorem dX11_odds_24 : decode cX11_odds 24 = .ok (.ifCond .lt 16, 3) := by decide +kernel
theorem dX11_odds_27 : decode cX11_odds 27 = .ok (.iload_n 2, 1) := by decide +kernel
theorem dX11_odds_28 : decode cX11_odds 28 = .ok (.bipush 10, 2) := by decide +kernel
theorem dX11_odds_30 : decode cX11_odds 30 = .ok (.if_icmp .gt 10, 3) := by decide +kernel
theorem dX11_odds_33 : decode cX11_odds 33 = .ok (.iload_n 3, 1) := by decide +kernel
theorem dX11_odds_34 : decode cX11_odds 34 = .ok (.invokestatic 201, 3) := by decide +kernel
theorem dX11_odds_37 : decode cX11_odds 37 = .ok (.ifCond .ne 6, 3) := by decide +kernel
theorem dX11_odds_40 : decode cX11_odds 40 = .ok (.ldc 71, 2) := by decide +kernel
theorem dX11_odds_42 : decode cX11_odds 42 = .ok (.ireturn, 1) := by decide +kernel
theorem dX11_odds_43 : decode cX11_odds 43 = .ok (.aload_n 0, 1) := by decide +kernel
theorem dX11_odds_44 : decode cX11_odds 44 = .ok (.getfield 26, 3) := by decide +kernel
theorem dX11_odds_47 : decode cX11_odds 47 = .ok (.getfield 131, 3) := by decide +kernel
theorem dX11_odds_50 : decode cX11_odds 50 = .ok (.invokestatic 245, 3) := by decide +kernel
theorem dX11_odds_53 : decode cX11_odds 53 = .ok (.istore 4, 2) := by decide +kernel
theorem dX11_odds_55 : decode cX11_odds 55 = .ok (.aload_n 0, 1) := by decide +kernel
theorem dX11_odds_56 : decode cX11_odds 56 = .ok (.getfield 50, 3) := by decide +kernel
theorem dX11_odds_59 : decode cX11_odds 59 = .ok (.aload_n 0, 1) := by decide +kernel
theorem dX11_odds_60 : decode cX11_odds 60 = .ok (.getfield 26, 3) := by decide +kernel
theorem dX11_odds_63 : decode cX11_odds 63 = .ok (.iload_n 1, 1) := by decide +kernel
theorem dX11_odds_64 : decode cX11_odds 64 = .ok (.iload_n 2, 1) := by decide +kernel
theorem dX11_odds_65 : decode cX11_odds 65 = .ok (.invokevirtual 248, 3) := by decide +kernel
theorem dX11_odds_68 : decode cX11_odds 68 = .ok (.istore 5, 2) := by decide +kernel
theorem dX11_odds_70 : decode cX11_odds 70 = .ok (.iload 5, 2) := by decide +kernel
theorem dX11_odds_72 : decode cX11_odds 72 = .ok (.iload 4, 2) := by decide +kernel
theorem dX11_odds_74 : decode cX11_odds 74 = .ok (.invokestatic 251, 3) := by decide +kernel
theorem dX11_odds_77 : decode cX11_odds 77 = .ok (.istore 6, 2) := by decide +kernel
theorem dX11_odds_79 : decode cX11_odds 79 = .ok (.iload_n 3, 1) := by decide +kernel
theorem dX11_odds_80 : decode cX11_odds 80 = .ok (.ifCond .ne 8, 3) := by decide +kernel
theorem dX11_odds_83 : decode cX11_odds 83 = .ok (.iload 5, 2) := by decide +kernel
theorem dX11_odds_85 : decode cX11_odds 85 = .ok (.goto 5, 3) := by decide +kernel
theorem dX11_odds_88 : decode cX11_odds 88 = .ok (.iload 4, 2) := by decide +kernel
theorem dX11_odds_90 : decode cX11_odds 90 = .ok (.istore 7, 2) := by decide +kernel
theorem dX11_odds_92 : decode cX11_odds 92 = .ok (.iload 6, 2) := by decide +kernel
theorem dX11_odds_94 : decode cX11_odds 94 = .ok (.iconst 1, 1) := by decide +kernel
theorem dX11_odds_95 : decode cX11_odds 95 = .ok (.if_icmp .le 11, 3) := by decide +kernel
theorem dX11_odds_98 : decode cX11_odds 98 = .ok (.iload 7, 2) := by decide +kernel
theorem dX11_odds_100 : decode cX11_odds 100 = .ok (.iload 6, 2) := by decide +kernel
theorem dX11_odds_102 : decode cX11_odds 102 = .ok (.idiv, 1) := by decide +kernel
theorem dX11_odds_103 : decode cX11_odds 103 = .ok (.goto 5, 3) := by decide +kernel
theorem dX11_odds_106 : decode cX11_odds 106 = .ok (.iload 7, 2) := by decide +kernel
theorem dX11_odds_108 : decode cX11_odds 108 = .ok (.ireturn, 1) := by decide +kernel
set_option maxRecDepth 20000 in
theorem ggX11_image_X11_isImage : GoodIn wsX11_image wsX11_isImage := goodIn_r _ [9] (by decide +kernel) (by decide +kernel)
set_option maxRecDepth 20000 in
theorem gX11_image_X11_isImage : GoodIn wsX11_image (va_wsS RX11 254 yX11_isImage wsX11_isImage) := goodIn_app (goodIn_of _ (by decide +kernel)) ggX11_image_X11_isImage
set_option maxRecDepth 20000 in
theorem ggX11_image_X8_become : GoodIn wsX11_image wsX8_become := goodIn_r _ [14, 15, 16, 17, 18, 19, 20, 21, 22, 34, 35, 36, 37, 38, 39, 40, 41] (by decide +kernel) (by decide +kernel)
set_option maxRecDepth 20000 in
theorem gX11_image_X8_become : GoodIn wsX11_image (wsV RX11 124 RX8 yX8_become wsX8_become) := goodIn_app (goodIn_of _ (by decide +kernel)) ggX11_image_X8_become
theorem dX11_image_0 : decode cX11_image 0 = .ok (.iload_n 1, 1) := by decide +kernel
theorem dX11_image_1 : decode cX11_image 1 = .ok (.invokestatic 254, 3) := by decide +kernel
theorem dX11_image_4 : decode cX11_image 4 = .ok (.ifCond .ne 6, 3) := by decide +kernel
theorem dX11_image_7 : decode cX11_image 7 = .ok (.ldc 71, 2) := by decide +kernel
theorem dX11_image_9 : decode cX11_image 9 = .ok (.ireturn, 1) := by decide +kernel
theorem dX11_image_10 : decode cX11_image 10 = .ok (.aload_n 0, 1) := by decide +kernel
theorem dX11_image_11 : decode cX11_image 11 = .ok (.getfield 26, 3) := by decide +kernel
theorem dX11_image_14 : decode cX11_image 14 = .ok (.getfield 137, 3) := by decide +kernel
theorem dX11_image_17 : decode cX11_image 17 = .ok (.ifCond .ne 6, 3) := by decide +kernel
theorem dX11_image_20 : decode cX11_image 20 = .ok (.ldc 141, 2) := by decide +kernel
theorem dX11_image_22 : decode cX11_image 22 = .ok (.ireturn, 1) := by decide +kernel
theorem dX11_image_23 : decode cX11_image 23 = .ok (.aload_n 0, 1) := by decide +kernel
theorem dX11_image_24 : decode cX11_image 24 = .ok (.getfield 33, 3) := by decide +kernel
theorem dX11_image_27 : decode cX11_image 27 = .ok (.iload_n 1, 1) := by decide +kernel
theorem dX11_image_28 : decode cX11_image 28 = .ok (.aaload, 1) := by decide +kernel
theorem dX11_image_29 : decode cX11_image 29 = .ok (.aload_n 0, 1) := by decide +kernel
theorem dX11_image_30 : decode cX11_image 30 = .ok (.getfield 26, 3) := by decide +kernel
theorem dX11_image_33 : decode cX11_image 33 = .ok (.invokevirtual 124, 3) := by decide +kernel
theorem dX11_image_36 : decode cX11_image 36 = .ok (.iconst 1, 1) := by decide +kernel
theorem dX11_image_37 : decode cX11_image 37 = .ok (.ireturn, 1) := by decide +kernel
set_option maxRecDepth 20000 in
theorem ggX11_restore_X11_isImage : GoodIn wsX11_restore wsX11_isImage := goodIn_r _ [9] (by decide +kernel) (by decide +kernel)
set_option maxRecDepth 20000 in
theorem gX11_restore_X11_isImage : GoodIn wsX11_restore (va_wsS RX11 254 yX11_isImage wsX11_isImage) := goodIn_app (goodIn_of _ (by decide +kernel)) ggX11_restore_X11_isImage
set_option maxRecDepth 20000 in
theorem ggX11_restore_X8_become : GoodIn wsX11_restore wsX8_become := goodIn_r _ [14, 15, 16, 17, 18, 19, 20, 21, 22, 39, 40, 41, 42, 43, 44, 45, 46] (by decide +kernel) (by decide +kernel)
set_option maxRecDepth 20000 in
theorem gX11_restore_X8_become : GoodIn wsX11_restore (wsV RX11 124 RX8 yX8_become wsX8_become) := goodIn_app (goodIn_of _ (by decide +kernel)) ggX11_restore_X8_become
set_option maxRecDepth 20000 in
theorem ggX11_restore_X11_forgetActs : GoodIn wsX11_restore wsX11_forgetActs := goodIn_r _ [26, 27, 28, 29, 30, 31, 32, 33, 34, 35, 36, 37, 38] (by decide +kernel) (by decide +kernel)
set_option maxRecDepth 20000 in
theorem gX11_restore_X11_forgetActs : GoodIn wsX11_restore (wsV RX11 128 RX11 yX11_forgetActs wsX11_forgetActs) := goodIn_app (goodIn_of _ (by decide +kernel)) ggX11_restore_X11_forgetActs
theorem dX11_restore_0 : decode cX11_restore 0 = .ok (.iload_n 1, 1) := by decide +kernel
theorem dX11_restore_1 : decode cX11_restore 1 = .ok (.invokestatic 254, 3) := by decide +kernel
theorem dX11_restore_4 : decode cX11_restore 4 = .ok (.ifCond .ne 6, 3) := by decide +kernel
theorem dX11_restore_7 : decode cX11_restore 7 = .ok (.ldc 71, 2) := by decide +kernel
theorem dX11_restore_9 : decode cX11_restore 9 = .ok (.ireturn, 1) := by decide +kernel
theorem dX11_restore_10 : decode cX11_restore 10 = .ok (.aload_n 0, 1) := by decide +kernel
theorem dX11_restore_11 : decode cX11_restore 11 = .ok (.getfield 33, 3) := by decide +kernel
theorem dX11_restore_14 : decode cX11_restore 14 = .ok (.iload_n 1, 1) := by decide +kernel
theorem dX11_restore_15 : decode cX11_restore 15 = .ok (.aaload, 1) := by decide +kernel
theorem dX11_restore_16 : decode cX11_restore 16 = .ok (.getfield 137, 3) := by decide +kernel
theorem dX11_restore_19 : decode cX11_restore 19 = .ok (.ifCond .ne 6, 3) := by decide +kernel
theorem dX11_restore_22 : decode cX11_restore 22 = .ok (.ldc 141, 2) := by decide +kernel
theorem dX11_restore_24 : decode cX11_restore 24 = .ok (.ireturn, 1) := by decide +kernel
theorem dX11_restore_25 : decode cX11_restore 25 = .ok (.aload_n 0, 1) := by decide +kernel
theorem dX11_restore_26 : decode cX11_restore 26 = .ok (.getfield 26, 3) := by decide +kernel
theorem dX11_restore_29 : decode cX11_restore 29 = .ok (.aload_n 0, 1) := by decide +kernel
theorem dX11_restore_30 : decode cX11_restore 30 = .ok (.getfield 33, 3) := by decide +kernel
theorem dX11_restore_33 : decode cX11_restore 33 = .ok (.iload_n 1, 1) := by decide +kernel
theorem dX11_restore_34 : decode cX11_restore 34 = .ok (.aaload, 1) := by decide +kernel
theorem dX11_restore_35 : decode cX11_restore 35 = .ok (.invokevirtual 124, 3) := by decide +kernel
theorem dX11_restore_38 : decode cX11_restore 38 = .ok (.aload_n 0, 1) := by decide +kernel
theorem dX11_restore_39 : decode cX11_restore 39 = .ok (.invokevirtual 128, 3) := by decide +kernel
theorem dX11_restore_42 : decode cX11_restore 42 = .ok (.iconst 1, 1) := by decide +kernel
theorem dX11_restore_43 : decode cX11_restore 43 = .ok (.ireturn, 1) := by decide +kernel
set_option maxRecDepth 20000 in
theorem ggX11_kind_X8_has : GoodIn wsX11_kind wsX8_has := goodIn_r _ [8, 9, 21, 22, 23, 24, 25, 26, 27, 28] (by decide +kernel) (by decide +kernel)
set_option maxRecDepth 20000 in
theorem gX11_kind_X8_has : GoodIn wsX11_kind (wsV RX11 155 RX8 yX8_has wsX8_has) := goodIn_app (goodIn_of _ (by decide +kernel)) ggX11_kind_X8_has
theorem dX11_kind_0 : decode cX11_kind 0 = .ok (.aload_n 0, 1) := by decide +kernel
theorem dX11_kind_1 : decode cX11_kind 1 = .ok (.getfield 26, 3) := by decide +kernel
theorem dX11_kind_4 : decode cX11_kind 4 = .ok (.iload_n 1, 1) := by decide +kernel
theorem dX11_kind_5 : decode cX11_kind 5 = .ok (.invokevirtual 155, 3) := by decide +kernel
theorem dX11_kind_8 : decode cX11_kind 8 = .ok (.ifCond .eq 15, 3) := by decide +kernel
theorem dX11_kind_11 : decode cX11_kind 11 = .ok (.aload_n 0, 1) := by decide +kernel
theorem dX11_kind_12 : decode cX11_kind 12 = .ok (.getfield 26, 3) := by decide +kernel
theorem dX11_kind_15 : decode cX11_kind 15 = .ok (.getfield 242, 3) := by decide +kernel
theorem dX11_kind_18 : decode cX11_kind 18 = .ok (.iload_n 1, 1) := by decide +kernel
theorem dX11_kind_19 : decode cX11_kind 19 = .ok (.iaload, 1) := by decide +kernel
theorem dX11_kind_20 : decode cX11_kind 20 = .ok (.goto 5, 3) := by decide +kernel
theorem dX11_kind_23 : decode cX11_kind 23 = .ok (.ldc 71, 2) := by decide +kernel
theorem dX11_kind_25 : decode cX11_kind 25 = .ok (.ireturn, 1) := by decide +kernel
set_option maxRecDepth 20000 in
theorem ggX11_as_X8_has : GoodIn wsX11_as wsX8_has := goodIn_r _ [9, 10, 51, 52, 53, 54, 55, 56, 57, 58] (by decide +kernel) (by decide +kernel)
set_option maxRecDepth 20000 in
theorem gX11_as_X8_has : GoodIn wsX11_as (wsV RX11 155 RX8 yX8_has wsX8_has) := goodIn_app (goodIn_of _ (by decide +kernel)) ggX11_as_X8_has
set_option maxRecDepth 20000 in
theorem ggX11_as_X2_temperOf : GoodIn wsX11_as wsX2_temperOf := goodIn_r _ [15, 16, 17, 18, 19, 20, 59, 60, 61, 62, 63, 64, 65] (by decide +kernel) (by decide +kernel)
set_option maxRecDepth 20000 in
theorem gX11_as_X2_temperOf : GoodIn wsX11_as (wsV RX11 257 RX2 yX2_temperOf wsX2_temperOf) := goodIn_app (goodIn_of _ (by decide +kernel)) ggX11_as_X2_temperOf
set_option maxRecDepth 20000 in
theorem ggX11_as_X11_isOfKind : GoodIn wsX11_as wsX11_isOfKind := goodIn_r _ [24, 25, 26, 27, 28, 29] (by decide +kernel) (by decide +kernel)
set_option maxRecDepth 20000 in
theorem gX11_as_X11_isOfKind : GoodIn wsX11_as (va_wsS RX11 261 yX11_isOfKind wsX11_isOfKind) := goodIn_app (goodIn_of _ (by decide +kernel)) ggX11_as_X11_isOfKind
set_option maxRecDepth 20000 in
theorem ggX11_as_X11_found : GoodIn wsX11_as wsX11_found := goodIn_r _ [33, 34, 35, 40, 41, 42, 43, 44, 45, 46, 47, 48, 49, 50] (by decide +kernel) (by decide +kernel)
set_option maxRecDepth 20000 in
theorem gX11_as_X11_found : GoodIn wsX11_as (wsV RX11 72 RX11 yX11_found wsX11_found) := goodIn_app (goodIn_of _ (by decide +kernel)) ggX11_as_X11_found
set_option maxRecDepth 20000 in
theorem ggX11_as_X11_well : GoodIn wsX11_as wsX11_well := goodIn_r _ [39, 34, 40, 41, 42, 43, 44, 45, 46, 47, 48, 49, 50] (by decide +kernel) (by decide +kernel)
set_option maxRecDepth 20000 in
theorem gX11_as_X11_well : GoodIn wsX11_as (wsV RX11 80 RX11 yX11_well wsX11_well) := goodIn_app (goodIn_of _ (by decide +kernel)) ggX11_as_X11_well
theorem dX11_as_0 : decode cX11_as 0 = .ok (.aload_n 0, 1) := by decide +kernel
theorem dX11_as_1 : decode cX11_as 1 = .ok (.getfield 26, 3) := by decide +kernel
theorem dX11_as_4 : decode cX11_as 4 = .ok (.iload_n 1, 1) := by decide +kernel
theorem dX11_as_5 : decode cX11_as 5 = .ok (.invokevirtual 155, 3) := by decide +kernel
theorem dX11_as_8 : decode cX11_as 8 = .ok (.ifCond .eq 12, 3) := by decide +kernel
theorem dX11_as_11 : decode cX11_as 11 = .ok (.iload_n 2, 1) := by decide +kernel
theorem dX11_as_12 : decode cX11_as 12 = .ok (.ifCond .lt 8, 3) := by decide +kernel
theorem dX11_as_15 : decode cX11_as 15 = .ok (.iload_n 2, 1) := by decide +kernel
theorem dX11_as_16 : decode cX11_as 16 = .ok (.iconst 5, 1) := by decide +kernel
theorem dX11_as_17 : decode cX11_as 17 = .ok (.if_icmp .le 6, 3) := by decide +kernel
theorem dX11_as_20 : decode cX11_as 20 = .ok (.ldc 71, 2) := by decide +kernel
theorem dX11_as_22 : decode cX11_as 22 = .ok (.ireturn, 1) := by decide +kernel
theorem dX11_as_23 : decode cX11_as 23 = .ok (.aload_n 0, 1) := by decide +kernel
theorem dX11_as_24 : decode cX11_as 24 = .ok (.getfield 50, 3) := by decide +kernel
theorem dX11_as_27 : decode cX11_as 27 = .ok (.aload_n 0, 1) := by decide +kernel
theorem dX11_as_28 : decode cX11_as 28 = .ok (.getfield 26, 3) := by decide +kernel
theorem dX11_as_31 : decode cX11_as 31 = .ok (.getfield 242, 3) := by decide +kernel
theorem dX11_as_34 : decode cX11_as 34 = .ok (.iload_n 1, 1) := by decide +kernel
theorem dX11_as_35 : decode cX11_as 35 = .ok (.iaload, 1) := by decide +kernel
theorem dX11_as_36 : decode cX11_as 36 = .ok (.invokevirtual 257, 3) := by decide +kernel
theorem dX11_as_39 : decode cX11_as 39 = .ok (.iload_n 2, 1) := by decide +kernel
theorem dX11_as_40 : decode cX11_as 40 = .ok (.invokestatic 261, 3) := by decide +kernel
theorem dX11_as_43 : decode cX11_as 43 = .ok (.ifCond .ne 9, 3) := by decide +kernel
theorem dX11_as_46 : decode cX11_as 46 = .ok (.aload_n 0, 1) := by decide +kernel
theorem dX11_as_47 : decode cX11_as 47 = .ok (.iconst 3, 1) := by decide +kernel
theorem dX11_as_48 : decode cX11_as 48 = .ok (.invokevirtual 72, 3) := by decide +kernel
theorem dX11_as_51 : decode cX11_as 51 = .ok (.ireturn, 1) := by decide +kernel
theorem dX11_as_52 : decode cX11_as 52 = .ok (.aload_n 0, 1) := by decide +kernel
theorem dX11_as_53 : decode cX11_as 53 = .ok (.iload_n 1, 1) := by decide +kernel
theorem dX11_as_54 : decode cX11_as 54 = .ok (.invokevirtual 80, 3) := by decide +kernel
theorem dX11_as_57 : decode cX11_as 57 = .ok (.ireturn, 1) := by decide +kernel
set_option maxRecDepth 20000 in
theorem ggX11_ask_X8_has : GoodIn wsX11_ask wsX8_has := goodIn_r _ [10, 11, 132, 133, 134, 135, 136, 137, 138, 139] (by decide +kernel) (by decide +kernel)
set_option maxRecDepth 20000 in
theorem gX11_ask_X8_has : GoodIn wsX11_ask (wsV RX11 155 RX8 yX8_has wsX8_has) := goodIn_app (goodIn_of _ (by decide +kernel)) ggX11_ask_X8_has
set_option maxRecDepth 20000 in
theorem ggX11_ask_X11_isChoice : GoodIn wsX11_ask wsX11_isChoice := goodIn_r _ [15] (by decide +kernel) (by decide +kernel)
set_option maxRecDepth 20000 in
theorem gX11_ask_X11_isChoice : GoodIn wsX11_ask (va_wsS RX11 201 yX11_isChoice wsX11_isChoice) := goodIn_app (goodIn_of _ (by decide +kernel)) ggX11_ask_X11_isChoice
set_option maxRecDepth 20000 in
theorem ggX11_ask_X9_clear : GoodIn wsX11_ask wsX9_clear := goodIn_r _ [20, 21, 140, 141] (by decide +kernel) (by decide +kernel)
set_option maxRecDepth 20000 in
theorem gX11_ask_X9_clear : GoodIn wsX11_ask (wsV RX11 265 RX9 yX9_clear wsX9_clear) := goodIn_app (goodIn_of _ (by decide +kernel)) ggX11_ask_X9_clear
set_option maxRecDepth 20000 in
theorem ggX11_ask_X2_temperOf : GoodIn wsX11_ask wsX2_temperOf := goodIn_r _ [26, 27, 28, 29, 30, 31, 142, 143, 144, 145, 146, 147, 148] (by decide +kernel) (by decide +kernel)
set_option maxRecDepth 20000 in
theorem gX11_ask_X2_temperOf : GoodIn wsX11_ask (wsV RX11 257 RX2 yX2_temperOf wsX2_temperOf) := goodIn_app (goodIn_of _ (by decide +kernel)) ggX11_ask_X2_temperOf
set_option maxRecDepth 20000 in
theorem ggX11_ask_X0_size : GoodIn wsX11_ask wsX0_size := goodIn_r _ [38, 39, 40, 41, 19, 42, 21, 43, 44, 45, 46, 47, 48, 49, 50, 51, 33, 52, 53, 54, 55, 56, 57, 58, 59, 60, 61, 62, 63, 64, 140, 141, 132, 133, 134, 135, 136, 137, 138, 139] (by decide +kernel) (by decide +kernel)
set_option maxRecDepth 20000 in
theorem gX11_ask_X0_size_u268X0 : GoodIn wsX11_ask (va_wsO RX11 268 RX0 "NoticeWeek$Temper" ⟨"NoticeWeek$Temper", "size", "(LNoticeWeek$Town;ILNoticeWeek$Trace;)I"⟩ yX0_size wsX0_size) := goodIn_app (goodIn_of _ (by decide +kernel)) ggX11_ask_X0_size
set_option maxRecDepth 20000 in
theorem ggX11_ask_X1_size : GoodIn wsX11_ask wsX1_size := goodIn_r _ [49, 50, 40, 41, 19, 42, 21, 43, 51, 33, 52, 53, 54, 55, 56, 57, 58, 59, 60, 61, 62, 63, 64, 140, 141, 132, 133, 134, 135, 136, 137, 138, 139] (by decide +kernel) (by decide +kernel)
set_option maxRecDepth 20000 in
theorem gX11_ask_X1_size_u268X1 : GoodIn wsX11_ask (va_wsO RX11 268 RX1 "NoticeWeek$Temper" ⟨"NoticeWeek$Temper", "size", "(LNoticeWeek$Town;ILNoticeWeek$Trace;)I"⟩ yX1_size wsX1_size) := goodIn_app (goodIn_of _ (by decide +kernel)) ggX11_ask_X1_size
set_option maxRecDepth 20000 in
theorem ggX11_ask_X3_size : GoodIn wsX11_ask wsX3_size := goodIn_r _ [69, 70, 40, 41, 19, 42, 21, 43, 71, 33, 72, 53, 54, 55, 56, 57, 58, 59, 60, 61, 62, 63, 64, 73, 74, 75, 68, 76, 77, 78, 79, 80, 81, 82, 83, 84, 85, 86, 87, 88, 89, 90, 91, 92, 93, 94, 95, 96, 97, 98, 99, 140, 141, 132, 133, 134, 135, 136, 137, 138, 139] (by decide +kernel) (by decide +kernel)
set_option maxRecDepth 20000 in
theorem gX11_ask_X3_size_u268X3 : GoodIn wsX11_ask (va_wsO RX11 268 RX3 "NoticeWeek$Temper" ⟨"NoticeWeek$Temper", "size", "(LNoticeWeek$Town;ILNoticeWeek$Trace;)I"⟩ yX3_size wsX3_size) := goodIn_app (goodIn_of _ (by decide +kernel)) ggX11_ask_X3_size
set_option maxRecDepth 20000 in
theorem gX11_ask_X3_size_u268X5 : GoodIn wsX11_ask (va_wsO RX11 268 RX5 "NoticeWeek$Temper" ⟨"NoticeWeek$Temper", "size", "(LNoticeWeek$Town;ILNoticeWeek$Trace;)I"⟩ yX3_size wsX3_size) := goodIn_app (goodIn_of _ (by decide +kernel)) ggX11_ask_X3_size
set_option maxRecDepth 20000 in
theorem ggX11_ask_X10_size : GoodIn wsX11_ask wsX10_size := goodIn_r _ [103, 97, 40, 41, 19, 42, 21, 43, 104, 105, 99, 67, 68, 69, 70, 71, 33, 72, 53, 54, 55, 56, 57, 58, 59, 60, 61, 62, 63, 64, 73, 74, 75, 76, 77, 78, 79, 80, 81, 82, 83, 84, 85, 86, 87, 88, 89, 90, 91, 92, 93, 94, 95, 96, 98, 140, 141, 132, 133, 134, 135, 136, 137, 138, 139] (by decide +kernel) (by decide +kernel)
set_option maxRecDepth 20000 in
theorem gX11_ask_X10_size_u268X10 : GoodIn wsX11_ask (va_wsO RX11 268 RX10 "NoticeWeek$Temper" ⟨"NoticeWeek$Temper", "size", "(LNoticeWeek$Town;ILNoticeWeek$Trace;)I"⟩ yX10_size wsX10_size) := goodIn_app (goodIn_of _ (by decide +kernel)) ggX11_ask_X10_size
set_option maxRecDepth 20000 in
theorem ggX11_ask_X1_mark : GoodIn wsX11_ask wsX1_mark := goodIn_r _ [110, 50, 40, 41, 19, 42, 21, 43, 111, 79, 52, 80, 54, 81, 57, 112, 45, 113, 114, 36, 37, 38, 39, 44, 46, 47, 48, 49, 51, 33, 53, 55, 56, 58, 59, 60, 61, 62, 63, 64, 115, 116, 140, 141, 132, 133, 134, 135, 136, 137, 138, 139] (by decide +kernel) (by decide +kernel)
set_option maxRecDepth 20000 in
theorem gX11_ask_X1_mark_u274X0 : GoodIn wsX11_ask (va_wsO RX11 274 RX0 "NoticeWeek$Temper" ⟨"NoticeWeek$Temper", "mark", "(LNoticeWeek$Town;ILNoticeWeek$Trace;)I"⟩ yX1_mark wsX1_mark) := goodIn_app (goodIn_of _ (by decide +kernel)) ggX11_ask_X1_mark
set_option maxRecDepth 20000 in
theorem gX11_ask_X1_mark_u274X1 : GoodIn wsX11_ask (va_wsO RX11 274 RX1 "NoticeWeek$Temper" ⟨"NoticeWeek$Temper", "mark", "(LNoticeWeek$Town;ILNoticeWeek$Trace;)I"⟩ yX1_mark wsX1_mark) := goodIn_app (goodIn_of _ (by decide +kernel)) ggX11_ask_X1_mark
set_option maxRecDepth 20000 in
theorem ggX11_ask_X3_mark : GoodIn wsX11_ask wsX3_mark := goodIn_r _ [76, 77, 70, 40, 41, 19, 42, 21, 43, 78, 79, 72, 80, 54, 81, 57, 82, 59, 60, 61, 62, 63, 64, 132, 133, 134, 135, 136, 137, 138, 139, 140, 141] (by decide +kernel) (by decide +kernel)
set_option maxRecDepth 20000 in
theorem gX11_ask_X3_mark_u274X3 : GoodIn wsX11_ask (va_wsO RX11 274 RX3 "NoticeWeek$Temper" ⟨"NoticeWeek$Temper", "mark", "(LNoticeWeek$Town;ILNoticeWeek$Trace;)I"⟩ yX3_mark wsX3_mark) := goodIn_app (goodIn_of _ (by decide +kernel)) ggX11_ask_X3_mark
set_option maxRecDepth 20000 in
theorem ggX11_ask_X5_mark : GoodIn wsX11_ask wsX5_mark := goodIn_r _ [89, 90, 40, 41, 19, 42, 21, 43, 91, 84, 92, 74, 68, 76, 77, 70, 78, 79, 72, 80, 54, 81, 57, 82, 59, 60, 61, 62, 63, 64, 140, 141, 132, 133, 134, 135, 136, 137, 138, 139] (by decide +kernel) (by decide +kernel)
set_option maxRecDepth 20000 in
theorem gX11_ask_X5_mark_u274X5 : GoodIn wsX11_ask (va_wsO RX11 274 RX5 "NoticeWeek$Temper" ⟨"NoticeWeek$Temper", "mark", "(LNoticeWeek$Town;ILNoticeWeek$Trace;)I"⟩ yX5_mark wsX5_mark) := goodIn_app (goodIn_of _ (by decide +kernel)) ggX11_ask_X5_mark
set_option maxRecDepth 20000 in
theorem ggX11_ask_X10_mark : GoodIn wsX11_ask wsX10_mark := goodIn_r _ [96, 97, 40, 41, 19, 42, 21, 43, 98, 84, 99, 74, 68, 76, 77, 70, 78, 79, 72, 80, 54, 81, 57, 82, 59, 60, 61, 62, 63, 64, 140, 141, 132, 133, 134, 135, 136, 137, 138, 139] (by decide +kernel) (by decide +kernel)
set_option maxRecDepth 20000 in
theorem gX11_ask_X10_mark_u274X10 : GoodIn wsX11_ask (va_wsO RX11 274 RX10 "NoticeWeek$Temper" ⟨"NoticeWeek$Temper", "mark", "(LNoticeWeek$Town;ILNoticeWeek$Trace;)I"⟩ yX10_mark wsX10_mark) := goodIn_app (goodIn_of _ (by decide +kernel)) ggX11_ask_X10_mark
theorem dX11_ask_0 : decode cX11_ask 0 = .ok (.aload_n 0, 1) := by decide +kernel
theorem dX11_ask_1 : decode cX11_ask 1 = .ok (.getfield 26, 3) := by decide +kernel
theorem dX11_ask_4 : decode cX11_ask 4 = .ok (.iload_n 1, 1) := by decide +kernel
theorem dX11_ask_5 : decode cX11_ask 5 = .ok (.invokevirtual 155, 3) := by decide +kernel
theorem dX11_ask_8 : decode cX11_ask 8 = .ok (.ifCond .eq 10, 3) := by decide +kernel
theorem dX11_ask_11 : decode cX11_ask 11 = .ok (.iload_n 2, 1) := by decide +kernel
theorem dX11_ask_12 : decode cX11_ask 12 = .ok (.invokestatic 201, 3) := by decide +kernel
theorem dX11_ask_15 : decode cX11_ask 15 = .ok (.ifCond .ne 6, 3) := by decide +kernel
theorem dX11_ask_18 : decode cX11_ask 18 = .ok (.ldc 71, 2) := by decide +kernel
theorem dX11_ask_20 : decode cX11_ask 20 = .ok (.ireturn, 1) := by decide +kernel
theorem dX11_ask_21 : decode cX11_ask 21 = .ok (.aload_n 0, 1) := by decide +kernel
theorem dX11_ask_22 : decode cX11_ask 22 = .ok (.getfield 57, 3) := by decide +kernel
theorem dX11_ask_25 : decode cX11_ask 25 = .ok (.invokevirtual 265, 3) := by decide +kernel
theorem dX11_ask_28 : decode cX11_ask 28 = .ok (.aload_n 0, 1) := by decide +kernel
theorem dX11_ask_29 : decode cX11_ask 29 = .ok (.getfield 50, 3) := by decide +kernel
theorem dX11_ask_32 : decode cX11_ask 32 = .ok (.aload_n 0, 1) := by decide +kernel
theorem dX11_ask_33 : decode cX11_ask 33 = .ok (.getfield 26, 3) := by decide +kernel
theorem dX11_ask_36 : decode cX11_ask 36 = .ok (.getfield 242, 3) := by decide +kernel
theorem dX11_ask_39 : decode cX11_ask 39 = .ok (.iload_n 1, 1) := by decide +kernel
theorem dX11_ask_40 : decode cX11_ask 40 = .ok (.iaload, 1) := by decide +kernel
theorem dX11_ask_41 : decode cX11_ask 41 = .ok (.invokevirtual 257, 3) := by decide +kernel
theorem dX11_ask_44 : decode cX11_ask 44 = .ok (.astore_n 3, 1) := by decide +kernel
theorem dX11_ask_45 : decode cX11_ask 45 = .ok (.iload_n 2, 1) := by decide +kernel
theorem dX11_ask_46 : decode cX11_ask 46 = .ok (.ifCond .ne 19, 3) := by decide +kernel
theorem dX11_ask_49 : decode cX11_ask 49 = .ok (.aload_n 3, 1) := by decide +kernel
theorem dX11_ask_50 : decode cX11_ask 50 = .ok (.aload_n 0, 1) := by decide +kernel
theorem dX11_ask_51 : decode cX11_ask 51 = .ok (.getfield 26, 3) := by decide +kernel
theorem dX11_ask_54 : decode cX11_ask 54 = .ok (.iload_n 1, 1) := by decide +kernel
theorem dX11_ask_55 : decode cX11_ask 55 = .ok (.aload_n 0, 1) := by decide +kernel
theorem dX11_ask_56 : decode cX11_ask 56 = .ok (.getfield 57, 3) := by decide +kernel
theorem dX11_ask_59 : decode cX11_ask 59 = .ok (.invokevirtual 268, 3) := by decide +kernel
theorem dX11_ask_62 : decode cX11_ask 62 = .ok (.goto 16, 3) := by decide +kernel
theorem dX11_ask_65 : decode cX11_ask 65 = .ok (.aload_n 3, 1) := by decide +kernel
theorem dX11_ask_66 : decode cX11_ask 66 = .ok (.aload_n 0, 1) := by decide +kernel
theorem dX11_ask_67 : decode cX11_ask 67 = .ok (.getfield 26, 3) := by decide +kernel
theorem dX11_ask_70 : decode cX11_ask 70 = .ok (.iload_n 1, 1) := by decide +kernel
theorem dX11_ask_71 : decode cX11_ask 71 = .ok (.aload_n 0, 1) := by decide +kernel
theorem dX11_ask_72 : decode cX11_ask 72 = .ok (.getfield 57, 3) := by decide +kernel
theorem dX11_ask_75 : decode cX11_ask 75 = .ok (.invokevirtual 274, 3) := by decide +kernel
theorem dX11_ask_78 : decode cX11_ask 78 = .ok (.ireturn, 1) := by decide +kernel
set_option maxRecDepth 20000 in
theorem ggX11_trace_X9_numberAt : GoodIn wsX11_trace wsX9_numberAt := goodIn_r _ [6, 7, 8, 9, 21, 22] (by decide +kernel) (by decide +kernel)
set_option maxRecDepth 20000 in
theorem gX11_trace_X9_numberAt : GoodIn wsX11_trace (wsV RX11 277 RX9 yX9_numberAt wsX9_numberAt) := goodIn_app (goodIn_of _ (by decide +kernel)) ggX11_trace_X9_numberAt
theorem dX11_trace_0 : decode cX11_trace 0 = .ok (.aload_n 0, 1) := by decide +kernel
theorem dX11_trace_1 : decode cX11_trace 1 = .ok (.getfield 57, 3) := by decide +kernel
theorem dX11_trace_4 : decode cX11_trace 4 = .ok (.iload_n 1, 1) := by decide +kernel
theorem dX11_trace_5 : decode cX11_trace 5 = .ok (.invokevirtual 277, 3) := by decide +kernel
theorem dX11_trace_8 : decode cX11_trace 8 = .ok (.ireturn, 1) := by decide +kernel
set_option maxRecDepth 20000 in
theorem ggX11_count_X4_present : GoodIn wsX11_count wsX4_present := goodIn_r _ [14, 15, 71, 72, 73] (by decide +kernel) (by decide +kernel)
set_option maxRecDepth 20000 in
theorem gX11_count_X4_present : GoodIn wsX11_count (wsV RX11 280 RX4 yX4_present wsX4_present) := goodIn_app (goodIn_of _ (by decide +kernel)) ggX11_count_X4_present
set_option maxRecDepth 20000 in
theorem ggX11_count_X8_living : GoodIn wsX11_count wsX8_living := goodIn_r _ [20, 21, 22, 23, 24, 19, 25, 26, 58, 59, 60, 61, 62, 63, 64, 65] (by decide +kernel) (by decide +kernel)
set_option maxRecDepth 20000 in
theorem gX11_count_X8_living : GoodIn wsX11_count (wsV RX11 151 RX8 yX8_living wsX8_living) := goodIn_app (goodIn_of _ (by decide +kernel)) ggX11_count_X8_living
set_option maxRecDepth 20000 in
theorem ggX11_count_J6_bitCount_0f7a4 : GoodIn wsX11_count wsJ6_bitCount_0f7a4 := goodIn_r _ [30, 31, 32, 33] (by decide +kernel) (by decide +kernel)
set_option maxRecDepth 20000 in
theorem gX11_count_J6_bitCount_0f7a4 : GoodIn wsX11_count (va_wsS RX11 217 yJ6_bitCount_0f7a4 wsJ6_bitCount_0f7a4) := goodIn_app (goodIn_of _ (by decide +kernel)) ggX11_count_J6_bitCount_0f7a4
set_option maxRecDepth 20000 in
theorem ggX11_count_X8_trueNow : GoodIn wsX11_count wsX8_trueNow := goodIn_r _ [37, 21, 38, 39, 40, 19, 41, 42, 43, 44, 45, 46, 27, 28, 29, 30, 31, 32, 33, 58, 59, 60, 61, 62, 63, 64, 65] (by decide +kernel) (by decide +kernel)
set_option maxRecDepth 20000 in
theorem gX11_count_X8_trueNow : GoodIn wsX11_count (wsV RX11 286 RX8 yX8_trueNow wsX8_trueNow) := goodIn_app (goodIn_of _ (by decide +kernel)) ggX11_count_X8_trueNow
theorem dX11_count_0 : decode cX11_count 0 = .ok (.iload_n 1, 1) := by decide +kernel
theorem dX11_count_1 : decode cX11_count 1 = .ok (.tableswitch 111 0 7 #[47, 55, 63, 74, 82, 90, 98, 103], 47) := by decide +kernel
theorem dX11_count_48 : decode cX11_count 48 = .ok (.aload_n 0, 1) := by decide +kernel
theorem dX11_count_49 : decode cX11_count 49 = .ok (.getfield 12, 3) := by decide +kernel
theorem dX11_count_52 : decode cX11_count 52 = .ok (.invokevirtual 280, 3) := by decide +kernel
theorem dX11_count_55 : decode cX11_count 55 = .ok (.ireturn, 1) := by decide +kernel
theorem dX11_count_56 : decode cX11_count 56 = .ok (.aload_n 0, 1) := by decide +kernel
theorem dX11_count_57 : decode cX11_count 57 = .ok (.getfield 26, 3) := by decide +kernel
theorem dX11_count_60 : decode cX11_count 60 = .ok (.getfield 131, 3) := by decide +kernel
theorem dX11_count_63 : decode cX11_count 63 = .ok (.ireturn, 1) := by decide +kernel
theorem dX11_count_64 : decode cX11_count 64 = .ok (.aload_n 0, 1) := by decide +kernel
theorem dX11_count_65 : decode cX11_count 65 = .ok (.getfield 26, 3) := by decide +kernel
theorem dX11_count_68 : decode cX11_count 68 = .ok (.invokevirtual 151, 3) := by decide +kernel
theorem dX11_count_71 : decode cX11_count 71 = .ok (.invokestatic 217, 3) := by decide +kernel
theorem dX11_count_74 : decode cX11_count 74 = .ok (.ireturn, 1) := by decide +kernel
theorem dX11_count_75 : decode cX11_count 75 = .ok (.aload_n 0, 1) := by decide +kernel
theorem dX11_count_76 : decode cX11_count 76 = .ok (.getfield 26, 3) := by decide +kernel
theorem dX11_count_79 : decode cX11_count 79 = .ok (.getfield 142, 3) := by decide +kernel
theorem dX11_count_82 : decode cX11_count 82 = .ok (.ireturn, 1) := by decide +kernel
theorem dX11_count_83 : decode cX11_count 83 = .ok (.aload_n 0, 1) := by decide +kernel
theorem dX11_count_84 : decode cX11_count 84 = .ok (.getfield 26, 3) := by decide +kernel
theorem dX11_count_87 : decode cX11_count 87 = .ok (.getfield 283, 3) := by decide +kernel
theorem dX11_count_90 : decode cX11_count 90 = .ok (.ireturn, 1) := by decide +kernel
theorem dX11_count_91 : decode cX11_count 91 = .ok (.aload_n 0, 1) := by decide +kernel
theorem dX11_count_92 : decode cX11_count 92 = .ok (.getfield 26, 3) := by decide +kernel
theorem dX11_count_95 : decode cX11_count 95 = .ok (.invokevirtual 286, 3) := by decide +kernel
theorem dX11_count_98 : decode cX11_count 98 = .ok (.ireturn, 1) := by decide +kernel
theorem dX11_count_99 : decode cX11_count 99 = .ok (.aload_n 0, 1) := by decide +kernel
theorem dX11_count_100 : decode cX11_count 100 = .ok (.getfield 40, 3) := by decide +kernel
theorem dX11_count_103 : decode cX11_count 103 = .ok (.ireturn, 1) := by decide +kernel
theorem dX11_count_104 : decode cX11_count 104 = .ok (.aload_n 0, 1) := by decide +kernel
theorem dX11_count_105 : decode cX11_count 105 = .ok (.getfield 19, 3) := by decide +kernel
theorem dX11_count_108 : decode cX11_count 108 = .ok (.getfield 289, 3) := by decide +kernel
theorem dX11_count_111 : decode cX11_count 111 = .ok (.ireturn, 1) := by decide +kernel
theorem dX11_count_112 : decode cX11_count 112 = .ok (.ldc 71, 2) := by decide +kernel
theorem dX11_count_114 : decode cX11_count 114 = .ok (.ireturn, 1) := by decide +kernel
theorem dX11_status_0 : decode cX11_status 0 = .ok (.aload_n 0, 1) := by decide +kernel
theorem dX11_status_1 : decode cX11_status 1 = .ok (.getfield 61, 3) := by decide +kernel
theorem dX11_status_4 : decode cX11_status 4 = .ok (.ireturn, 1) := by decide +kernel
theorem dX11_found_0 : decode cX11_found 0 = .ok (.aload_n 0, 1) := by decide +kernel
theorem dX11_found_1 : decode cX11_found 1 = .ok (.iload_n 1, 1) := by decide +kernel
theorem dX11_found_2 : decode cX11_found 2 = .ok (.putfield 61, 3) := by decide +kernel
theorem dX11_found_5 : decode cX11_found 5 = .ok (.ldc_w 292, 3) := by decide +kernel
theorem dX11_found_8 : decode cX11_found 8 = .ok (.iload_n 1, 1) := by decide +kernel
theorem dX11_found_9 : decode cX11_found 9 = .ok (.isub, 1) := by decide +kernel
theorem dX11_found_10 : decode cX11_found 10 = .ok (.ireturn, 1) := by decide +kernel
theorem dX11_well_0 : decode cX11_well 0 = .ok (.aload_n 0, 1) := by decide +kernel
theorem dX11_well_1 : decode cX11_well 1 = .ok (.iconst 0, 1) := by decide +kernel
theorem dX11_well_2 : decode cX11_well 2 = .ok (.putfield 61, 3) := by decide +kernel
theorem dX11_well_5 : decode cX11_well 5 = .ok (.iload_n 1, 1) := by decide +kernel
theorem dX11_well_6 : decode cX11_well 6 = .ok (.ireturn, 1) := by decide +kernel
set_option maxRecDepth 20000 in
theorem ggX11_lackOf_X4_isMissing : GoodIn wsX11_lackOf wsX4_isMissing := goodIn_r _ [6, 7, 24, 25, 26] (by decide +kernel) (by decide +kernel)
set_option maxRecDepth 20000 in
theorem gX11_lackOf_X4_isMissing : GoodIn wsX11_lackOf (wsV RX11 90 RX4 yX4_isMissing wsX4_isMissing) := goodIn_app (goodIn_of _ (by decide +kernel)) ggX11_lackOf_X4_isMissing
set_option maxRecDepth 20000 in
theorem ggX11_lackOf_X4_hasPlaces : GoodIn wsX11_lackOf wsX4_hasPlaces := goodIn_r _ [11, 12, 24, 25, 26] (by decide +kernel) (by decide +kernel)
set_option maxRecDepth 20000 in
theorem gX11_lackOf_X4_hasPlaces : GoodIn wsX11_lackOf (wsV RX11 96 RX4 yX4_hasPlaces wsX4_hasPlaces) := goodIn_app (goodIn_of _ (by decide +kernel)) ggX11_lackOf_X4_hasPlaces
theorem dX11_lackOf_0 : decode cX11_lackOf 0 = .ok (.aload_n 0, 1) := by decide +kernel
theorem dX11_lackOf_1 : decode cX11_lackOf 1 = .ok (.getfield 12, 3) := by decide +kernel
theorem dX11_lackOf_4 : decode cX11_lackOf 4 = .ok (.iload_n 1, 1) := by decide +kernel
theorem dX11_lackOf_5 : decode cX11_lackOf 5 = .ok (.invokevirtual 90, 3) := by decide +kernel
theorem dX11_lackOf_8 : decode cX11_lackOf 8 = .ok (.ifCond .eq 5, 3) := by decide +kernel
theorem dX11_lackOf_11 : decode cX11_lackOf 11 = .ok (.iconst 1, 1) := by decide +kernel
theorem dX11_lackOf_12 : decode cX11_lackOf 12 = .ok (.ireturn, 1) := by decide +kernel
theorem dX11_lackOf_13 : decode cX11_lackOf 13 = .ok (.aload_n 0, 1) := by decide +kernel
theorem dX11_lackOf_14 : decode cX11_lackOf 14 = .ok (.getfield 12, 3) := by decide +kernel
theorem dX11_lackOf_17 : decode cX11_lackOf 17 = .ok (.iload_n 1, 1) := by decide +kernel
theorem dX11_lackOf_18 : decode cX11_lackOf 18 = .ok (.iload_n 2, 1) := by decide +kernel
theorem dX11_lackOf_19 : decode cX11_lackOf 19 = .ok (.iload_n 3, 1) := by decide +kernel
theorem dX11_lackOf_20 : decode cX11_lackOf 20 = .ok (.invokevirtual 96, 3) := by decide +kernel
theorem dX11_lackOf_23 : decode cX11_lackOf 23 = .ok (.ifCond .eq 7, 3) := by decide +kernel
theorem dX11_lackOf_26 : decode cX11_lackOf 26 = .ok (.iconst 0, 1) := by decide +kernel
theorem dX11_lackOf_27 : decode cX11_lackOf 27 = .ok (.goto 4, 3) := by decide +kernel
theorem dX11_lackOf_30 : decode cX11_lackOf 30 = .ok (.iconst 2, 1) := by decide +kernel
theorem dX11_lackOf_31 : decode cX11_lackOf 31 = .ok (.ireturn, 1) := by decide +kernel
set_option maxRecDepth 20000 in
theorem ggX11_keepAct_X8_become : GoodIn wsX11_keepAct wsX8_become := goodIn_r _ [13, 14, 15, 16, 17, 18, 19, 20, 21, 33, 34, 35, 36, 37, 38, 39, 40] (by decide +kernel) (by decide +kernel)
set_option maxRecDepth 20000 in
theorem gX11_keepAct_X8_become : GoodIn wsX11_keepAct (wsV RX11 124 RX8 yX8_become wsX8_become) := goodIn_app (goodIn_of _ (by decide +kernel)) ggX11_keepAct_X8_become
theorem dX11_keepAct_0 : decode cX11_keepAct 0 = .ok (.aload_n 0, 1) := by decide +kernel
theorem dX11_keepAct_1 : decode cX11_keepAct 1 = .ok (.getfield 37, 3) := by decide +kernel
theorem dX11_keepAct_4 : decode cX11_keepAct 4 = .ok (.aload_n 0, 1) := by decide +kernel
theorem dX11_keepAct_5 : decode cX11_keepAct 5 = .ok (.getfield 44, 3) := by decide +kernel
theorem dX11_keepAct_8 : decode cX11_keepAct 8 = .ok (.aaload, 1) := by decide +kernel
theorem dX11_keepAct_9 : decode cX11_keepAct 9 = .ok (.aload_n 0, 1) := by decide +kernel
theorem dX11_keepAct_10 : decode cX11_keepAct 10 = .ok (.getfield 26, 3) := by decide +kernel
theorem dX11_keepAct_13 : decode cX11_keepAct 13 = .ok (.invokevirtual 124, 3) := by decide +kernel
theorem dX11_keepAct_16 : decode cX11_keepAct 16 = .ok (.aload_n 0, 1) := by decide +kernel
theorem dX11_keepAct_17 : decode cX11_keepAct 17 = .ok (.aload_n 0, 1) := by decide +kernel
theorem dX11_keepAct_18 : decode cX11_keepAct 18 = .ok (.getfield 44, 3) := by decide +kernel
theorem dX11_keepAct_21 : decode cX11_keepAct 21 = .ok (.iconst 1, 1) := by decide +kernel
theorem dX11_keepAct_22 : decode cX11_keepAct 22 = .ok (.iadd, 1) := by decide +kernel
theorem dX11_keepAct_23 : decode cX11_keepAct 23 = .ok (.bipush 24, 2) := by decide +kernel
theorem dX11_keepAct_25 : decode cX11_keepAct 25 = .ok (.irem, 1) := by decide +kernel
theorem dX11_keepAct_26 : decode cX11_keepAct 26 = .ok (.putfield 44, 3) := by decide +kernel
theorem dX11_keepAct_29 : decode cX11_keepAct 29 = .ok (.aload_n 0, 1) := by decide +kernel
theorem dX11_keepAct_30 : decode cX11_keepAct 30 = .ok (.bipush 24, 2) := by decide +kernel
theorem dX11_keepAct_32 : decode cX11_keepAct 32 = .ok (.aload_n 0, 1) := by decide +kernel
theorem dX11_keepAct_33 : decode cX11_keepAct 33 = .ok (.getfield 40, 3) := by decide +kernel
theorem dX11_keepAct_36 : decode cX11_keepAct 36 = .ok (.iconst 1, 1) := by decide +kernel
theorem dX11_keepAct_37 : decode cX11_keepAct 37 = .ok (.iadd, 1) := by decide +kernel
theorem dX11_keepAct_38 : decode cX11_keepAct 38 = .ok (.invokestatic 174, 3) := by decide +kernel
theorem dX11_keepAct_41 : decode cX11_keepAct 41 = .ok (.putfield 40, 3) := by decide +kernel
theorem dX11_keepAct_44 : decode cX11_keepAct 44 = .ok (.return_, 1) := by decide +kernel
theorem dX11_forgetActs_0 : decode cX11_forgetActs 0 = .ok (.aload_n 0, 1) := by decide +kernel
theorem dX11_forgetActs_1 : decode cX11_forgetActs 1 = .ok (.iconst 0, 1) := by decide +kernel
theorem dX11_forgetActs_2 : decode cX11_forgetActs 2 = .ok (.putfield 40, 3) := by decide +kernel
theorem dX11_forgetActs_5 : decode cX11_forgetActs 5 = .ok (.return_, 1) := by decide +kernel
set_option maxRecDepth 20000 in
theorem ggX11_passDay_X8_lives : GoodIn wsX11_passDay wsX8_lives := goodIn_r _ [11, 12, 83, 84, 85, 86, 87, 88, 89, 90] (by decide +kernel) (by decide +kernel)
set_option maxRecDepth 20000 in
theorem gX11_passDay_X8_lives : GoodIn wsX11_passDay (wsV RX11 161 RX8 yX8_lives wsX8_lives) := goodIn_app (goodIn_of _ (by decide +kernel)) ggX11_passDay_X8_lives
set_option maxRecDepth 20000 in
theorem ggX11_passDay_X2_doesToday : GoodIn wsX11_passDay wsX2_doesToday := goodIn_r _ [17, 18, 19, 20, 21, 22, 8, 9, 10, 11, 12, 23, 24, 25, 16, 26, 27, 28, 29, 30, 31, 32, 33, 34, 35, 36, 37, 38, 39, 40, 41, 42, 43, 44, 45, 46, 47, 48, 49, 50, 51, 52, 53, 54, 55, 56, 57, 58, 59, 60, 61, 62, 63, 64, 65, 66, 67, 68, 69, 70, 71, 83, 84, 85, 86, 87, 88, 89, 90, 91, 92, 93, 94, 95, 96, 97] (by decide +kernel) (by decide +kernel)
set_option maxRecDepth 20000 in
theorem gX11_passDay_X2_doesToday : GoodIn wsX11_passDay (wsV RX11 183 RX2 yX2_doesToday wsX2_doesToday) := goodIn_app (goodIn_of _ (by decide +kernel)) ggX11_passDay_X2_doesToday
theorem dX11_passDay_0 : decode cX11_passDay 0 = .ok (.iconst 0, 1) := by decide +kernel
theorem dX11_passDay_1 : decode cX11_passDay 1 = .ok (.istore_n 1, 1) := by decide +kernel
theorem dX11_passDay_2 : decode cX11_passDay 2 = .ok (.iload_n 1, 1) := by decide +kernel
theorem dX11_passDay_3 : decode cX11_passDay 3 = .ok (.aload_n 0, 1) := by decide +kernel
theorem dX11_passDay_4 : decode cX11_passDay 4 = .ok (.getfield 26, 3) := by decide +kernel
theorem dX11_passDay_7 : decode cX11_passDay 7 = .ok (.getfield 131, 3) := by decide +kernel
theorem dX11_passDay_10 : decode cX11_passDay 10 = .ok (.if_icmp .ge 57, 3) := by decide +kernel
theorem dX11_passDay_13 : decode cX11_passDay 13 = .ok (.aload_n 0, 1) := by decide +kernel
theorem dX11_passDay_14 : decode cX11_passDay 14 = .ok (.getfield 26, 3) := by decide +kernel
theorem dX11_passDay_17 : decode cX11_passDay 17 = .ok (.iload_n 1, 1) := by decide +kernel
theorem dX11_passDay_18 : decode cX11_passDay 18 = .ok (.invokevirtual 161, 3) := by decide +kernel
theorem dX11_passDay_21 : decode cX11_passDay 21 = .ok (.ifCond .eq 40, 3) := by decide +kernel
theorem dX11_passDay_24 : decode cX11_passDay 24 = .ok (.aload_n 0, 1) := by decide +kernel
theorem dX11_passDay_25 : decode cX11_passDay 25 = .ok (.getfield 26, 3) := by decide +kernel
theorem dX11_passDay_28 : decode cX11_passDay 28 = .ok (.getfield 168, 3) := by decide +kernel
theorem dX11_passDay_31 : decode cX11_passDay 31 = .ok (.iload_n 1, 1) := by decide +kernel
theorem dX11_passDay_32 : decode cX11_passDay 32 = .ok (.dup2, 1) := by decide +kernel
theorem dX11_passDay_33 : decode cX11_passDay 33 = .ok (.iaload, 1) := by decide +kernel
theorem dX11_passDay_34 : decode cX11_passDay 34 = .ok (.aload_n 0, 1) := by decide +kernel
theorem dX11_passDay_35 : decode cX11_passDay 35 = .ok (.getfield 50, 3) := by decide +kernel
theorem dX11_passDay_38 : decode cX11_passDay 38 = .ok (.aload_n 0, 1) := by decide +kernel
theorem dX11_passDay_39 : decode cX11_passDay 39 = .ok (.getfield 26, 3) := by decide +kernel
theorem dX11_passDay_42 : decode cX11_passDay 42 = .ok (.iload_n 1, 1) := by decide +kernel
theorem dX11_passDay_43 : decode cX11_passDay 43 = .ok (.invokevirtual 183, 3) := by decide +kernel
theorem dX11_passDay_46 : decode cX11_passDay 46 = .ok (.ior, 1) := by decide +kernel
theorem dX11_passDay_47 : decode cX11_passDay 47 = .ok (.iastore, 1) := by decide +kernel
theorem dX11_passDay_48 : decode cX11_passDay 48 = .ok (.aload_n 0, 1) := by decide +kernel
theorem dX11_passDay_49 : decode cX11_passDay 49 = .ok (.getfield 26, 3) := by decide +kernel
theorem dX11_passDay_52 : decode cX11_passDay 52 = .ok (.getfield 171, 3) := by decide +kernel
theorem dX11_passDay_55 : decode cX11_passDay 55 = .ok (.iload_n 1, 1) := by decide +kernel
theorem dX11_passDay_56 : decode cX11_passDay 56 = .ok (.dup2, 1) := by decide +kernel
theorem dX11_passDay_57 : decode cX11_passDay 57 = .ok (.iaload, 1) := by decide +kernel
theorem dX11_passDay_58 : decode cX11_passDay 58 = .ok (.iconst 1, 1) := by decide +kernel
theorem dX11_passDay_59 : decode cX11_passDay 59 = .ok (.isub, 1) := by decide +kernel
theorem dX11_passDay_60 : decode cX11_passDay 60 = .ok (.iastore, 1) := by decide +kernel
theorem dX11_passDay_61 : decode cX11_passDay 61 = .ok (.iinc 1 1, 3) := by decide +kernel
theorem dX11_passDay_64 : decode cX11_passDay 64 = .ok (.goto (-62), 3) := by decide +kernel
theorem dX11_passDay_67 : decode cX11_passDay 67 = .ok (.aload_n 0, 1) := by decide +kernel
theorem dX11_passDay_68 : decode cX11_passDay 68 = .ok (.getfield 26, 3) := by decide +kernel
theorem dX11_passDay_71 : decode cX11_passDay 71 = .ok (.dup, 1) := by decide +kernel
theorem dX11_passDay_72 : decode cX11_passDay 72 = .ok (.getfield 142, 3) := by decide +kernel
theorem dX11_passDay_75 : decode cX11_passDay 75 = .ok (.iconst 1, 1) := by decide +kernel
theorem dX11_passDay_76 : decode cX11_passDay 76 = .ok (.iadd, 1) := by decide +kernel
theorem dX11_passDay_77 : decode cX11_passDay 77 = .ok (.putfield 142, 3) := by decide +kernel
theorem dX11_passDay_80 : decode cX11_passDay 80 = .ok (.return_, 1) := by decide +kernel
theorem dX11_isChoice_0 : decode cX11_isChoice 0 = .ok (.iload_n 0, 1) := by decide +kernel
theorem dX11_isChoice_1 : decode cX11_isChoice 1 = .ok (.ifCond .eq 8, 3) := by decide +kernel
theorem dX11_isChoice_4 : decode cX11_isChoice 4 = .ok (.iload_n 0, 1) := by decide +kernel
theorem dX11_isChoice_5 : decode cX11_isChoice 5 = .ok (.iconst 1, 1) := by decide +kernel
theorem dX11_isChoice_6 : decode cX11_isChoice 6 = .ok (.if_icmp .ne 7, 3) := by decide +kernel
theorem dX11_isChoice_9 : decode cX11_isChoice 9 = .ok (.iconst 1, 1) := by decide +kernel
theorem dX11_isChoice_10 : decode cX11_isChoice 10 = .ok (.goto 4, 3) := by decide +kernel
theorem dX11_isChoice_13 : decode cX11_isChoice 13 = .ok (.iconst 0, 1) := by decide +kernel
theorem dX11_isChoice_14 : decode cX11_isChoice 14 = .ok (.ireturn, 1) := by decide +kernel
theorem dX11_isImage_0 : decode cX11_isImage 0 = .ok (.iload_n 0, 1) := by decide +kernel
theorem dX11_isImage_1 : decode cX11_isImage 1 = .ok (.ifCond .lt 12, 3) := by decide +kernel
theorem dX11_isImage_4 : decode cX11_isImage 4 = .ok (.iload_n 0, 1) := by decide +kernel
theorem dX11_isImage_5 : decode cX11_isImage 5 = .ok (.iconst 2, 1) := by decide +kernel
theorem dX11_isImage_6 : decode cX11_isImage 6 = .ok (.if_icmp .ge 7, 3) := by decide +kernel
theorem dX11_isImage_9 : decode cX11_isImage 9 = .ok (.iconst 1, 1) := by decide +kernel
theorem dX11_isImage_10 : decode cX11_isImage 10 = .ok (.goto 4, 3) := by decide +kernel
theorem dX11_isImage_13 : decode cX11_isImage 13 = .ok (.iconst 0, 1) := by decide +kernel
theorem dX11_isImage_14 : decode cX11_isImage 14 = .ok (.ireturn, 1) := by decide +kernel
theorem dX11_isSetOfDeeds_0 : decode cX11_isSetOfDeeds 0 = .ok (.iload_n 0, 1) := by decide +kernel
theorem dX11_isSetOfDeeds_1 : decode cX11_isSetOfDeeds 1 = .ok (.ifCond .lt 13, 3) := by decide +kernel
theorem dX11_isSetOfDeeds_4 : decode cX11_isSetOfDeeds 4 = .ok (.iload_n 0, 1) := by decide +kernel
theorem dX11_isSetOfDeeds_5 : decode cX11_isSetOfDeeds 5 = .ok (.bipush 63, 2) := by decide +kernel
theorem dX11_isSetOfDeeds_7 : decode cX11_isSetOfDeeds 7 = .ok (.if_icmp .gt 7, 3) := by decide +kernel
theorem dX11_isSetOfDeeds_10 : decode cX11_isSetOfDeeds 10 = .ok (.iconst 1, 1) := by decide +kernel
theorem dX11_isSetOfDeeds_11 : decode cX11_isSetOfDeeds 11 = .ok (.goto 4, 3) := by decide +kernel
theorem dX11_isSetOfDeeds_14 : decode cX11_isSetOfDeeds 14 = .ok (.iconst 0, 1) := by decide +kernel
theorem dX11_isSetOfDeeds_15 : decode cX11_isSetOfDeeds 15 = .ok (.ireturn, 1) := by decide +kernel
theorem dX11_isDaysAhead_0 : decode cX11_isDaysAhead 0 = .ok (.iload_n 0, 1) := by decide +kernel
theorem dX11_isDaysAhead_1 : decode cX11_isDaysAhead 1 = .ok (.ifCond .lt 13, 3) := by decide +kernel
theorem dX11_isDaysAhead_4 : decode cX11_isDaysAhead 4 = .ok (.iload_n 0, 1) := by decide +kernel
theorem dX11_isDaysAhead_5 : decode cX11_isDaysAhead 5 = .ok (.bipush 60, 2) := by decide +kernel
theorem dX11_isDaysAhead_7 : decode cX11_isDaysAhead 7 = .ok (.if_icmp .gt 7, 3) := by decide +kernel
theorem dX11_isDaysAhead_10 : decode cX11_isDaysAhead 10 = .ok (.iconst 1, 1) := by decide +kernel
theorem dX11_isDaysAhead_11 : decode cX11_isDaysAhead 11 = .ok (.goto 4, 3) := by decide +kernel
theorem dX11_isDaysAhead_14 : decode cX11_isDaysAhead 14 = .ok (.iconst 0, 1) := by decide +kernel
theorem dX11_isDaysAhead_15 : decode cX11_isDaysAhead 15 = .ok (.ireturn, 1) := by decide +kernel
theorem dX11_isToldDays_0 : decode cX11_isToldDays 0 = .ok (.iload_n 0, 1) := by decide +kernel
theorem dX11_isToldDays_1 : decode cX11_isToldDays 1 = .ok (.iconst 1, 1) := by decide +kernel
theorem dX11_isToldDays_2 : decode cX11_isToldDays 2 = .ok (.if_icmp .lt 13, 3) := by decide +kernel
theorem dX11_isToldDays_5 : decode cX11_isToldDays 5 = .ok (.iload_n 0, 1) := by decide +kernel
theorem dX11_isToldDays_6 : decode cX11_isToldDays 6 = .ok (.bipush 16, 2) := by decide +kernel
theorem dX11_isToldDays_8 : decode cX11_isToldDays 8 = .ok (.if_icmp .gt 7, 3) := by decide +kernel
theorem dX11_isToldDays_11 : decode cX11_isToldDays 11 = .ok (.iconst 1, 1) := by decide +kernel
theorem dX11_isToldDays_12 : decode cX11_isToldDays 12 = .ok (.goto 4, 3) := by decide +kernel
theorem dX11_isToldDays_15 : decode cX11_isToldDays 15 = .ok (.iconst 0, 1) := by decide +kernel
theorem dX11_isToldDays_16 : decode cX11_isToldDays 16 = .ok (.ireturn, 1) := by decide +kernel
theorem dX11_isOfKind_0 : decode cX11_isOfKind 0 = .ok (.iload_n 1, 1) := by decide +kernel
theorem dX11_isOfKind_1 : decode cX11_isOfKind 1 = .ok (.tableswitch 66 0 5 #[39, 41, 46, 51, 56, 61], 39) := by decide +kernel
theorem dX11_isOfKind_40 : decode cX11_isOfKind 40 = .ok (.iconst 1, 1) := by decide +kernel
theorem dX11_isOfKind_41 : decode cX11_isOfKind 41 = .ok (.ireturn, 1) := by decide +kernel
theorem dX11_isOfKind_42 : decode cX11_isOfKind 42 = .ok (.aload_n 0, 1) := by decide +kernel
theorem dX11_isOfKind_43 : decode cX11_isOfKind 43 = .ok (.instanceof 293, 3) := by decide +kernel
theorem dX11_isOfKind_46 : decode cX11_isOfKind 46 = .ok (.ireturn, 1) := by decide +kernel
theorem dX11_isOfKind_47 : decode cX11_isOfKind 47 = .ok (.aload_n 0, 1) := by decide +kernel
theorem dX11_isOfKind_48 : decode cX11_isOfKind 48 = .ok (.instanceof 295, 3) := by decide +kernel
theorem dX11_isOfKind_51 : decode cX11_isOfKind 51 = .ok (.ireturn, 1) := by decide +kernel
theorem dX11_isOfKind_52 : decode cX11_isOfKind 52 = .ok (.aload_n 0, 1) := by decide +kernel
theorem dX11_isOfKind_53 : decode cX11_isOfKind 53 = .ok (.instanceof 297, 3) := by decide +kernel
theorem dX11_isOfKind_56 : decode cX11_isOfKind 56 = .ok (.ireturn, 1) := by decide +kernel
theorem dX11_isOfKind_57 : decode cX11_isOfKind 57 = .ok (.aload_n 0, 1) := by decide +kernel
theorem dX11_isOfKind_58 : decode cX11_isOfKind 58 = .ok (.instanceof 299, 3) := by decide +kernel
theorem dX11_isOfKind_61 : decode cX11_isOfKind 61 = .ok (.ireturn, 1) := by decide +kernel
theorem dX11_isOfKind_62 : decode cX11_isOfKind 62 = .ok (.aload_n 0, 1) := by decide +kernel
theorem dX11_isOfKind_63 : decode cX11_isOfKind 63 = .ok (.instanceof 301, 3) := by decide +kernel
theorem dX11_isOfKind_66 : decode cX11_isOfKind 66 = .ok (.ireturn, 1) := by decide +kernel
theorem dX11_isOfKind_67 : decode cX11_isOfKind 67 = .ok (.iconst 0, 1) := by decide +kernel
theorem dX11_isOfKind_68 : decode cX11_isOfKind 68 = .ok (.ireturn, 1) := by decide +kernel
set_option maxRecDepth 20000 in
theorem ggX11_falseLines_J6_bitCount_0f7a4 : GoodIn wsX11_falseLines wsJ6_bitCount_0f7a4 := goodIn_r _ [4, 5, 6, 7] (by decide +kernel) (by decide +kernel)
set_option maxRecDepth 20000 in
theorem gX11_falseLines_J6_bitCount_0f7a4 : GoodIn wsX11_falseLines (va_wsS RX11 217 yJ6_bitCount_0f7a4 wsJ6_bitCount_0f7a4) := goodIn_app (goodIn_of _ (by decide +kernel)) ggX11_falseLines_J6_bitCount_0f7a4
theorem dX11_falseLines_0 : decode cX11_falseLines 0 = .ok (.iload_n 0, 1) := by decide +kernel
theorem dX11_falseLines_1 : decode cX11_falseLines 1 = .ok (.iload_n 1, 1) := by decide +kernel
theorem dX11_falseLines_2 : decode cX11_falseLines 2 = .ok (.ixor, 1) := by decide +kernel
theorem dX11_falseLines_3 : decode cX11_falseLines 3 = .ok (.invokestatic 217, 3) := by decide +kernel
theorem dX11_falseLines_6 : decode cX11_falseLines 6 = .ok (.ireturn, 1) := by decide +kernel
theorem dX11_least_0 : decode cX11_least 0 = .ok (.iload_n 0, 1) := by decide +kernel
theorem dX11_least_1 : decode cX11_least 1 = .ok (.iload_n 0, 1) := by decide +kernel
theorem dX11_least_2 : decode cX11_least 2 = .ok (.ineg, 1) := by decide +kernel
theorem dX11_least_3 : decode cX11_least 3 = .ok (.iand, 1) := by decide +kernel
theorem dX11_least_4 : decode cX11_least 4 = .ok (.ireturn, 1) := by decide +kernel
theorem dX11_tenToThe_0 : decode cX11_tenToThe 0 = .ok (.iconst 1, 1) := by decide +kernel
theorem dX11_tenToThe_1 : decode cX11_tenToThe 1 = .ok (.istore_n 1, 1) := by decide +kernel
theorem dX11_tenToThe_2 : decode cX11_tenToThe 2 = .ok (.iconst 0, 1) := by decide +kernel
theorem dX11_tenToThe_3 : decode cX11_tenToThe 3 = .ok (.istore_n 2, 1) := by decide +kernel
theorem dX11_tenToThe_4 : decode cX11_tenToThe 4 = .ok (.iload_n 2, 1) := by decide +kernel
theorem dX11_tenToThe_5 : decode cX11_tenToThe 5 = .ok (.iload_n 0, 1) := by decide +kernel
theorem dX11_tenToThe_6 : decode cX11_tenToThe 6 = .ok (.if_icmp .ge 14, 3) := by decide +kernel
theorem dX11_tenToThe_9 : decode cX11_tenToThe 9 = .ok (.iload_n 1, 1) := by decide +kernel
theorem dX11_tenToThe_10 : decode cX11_tenToThe 10 = .ok (.bipush 10, 2) := by decide +kernel
theorem dX11_tenToThe_12 : decode cX11_tenToThe 12 = .ok (.imul, 1) := by decide +kernel
theorem dX11_tenToThe_13 : decode cX11_tenToThe 13 = .ok (.istore_n 1, 1) := by decide +kernel
theorem dX11_tenToThe_14 : decode cX11_tenToThe 14 = .ok (.iinc 2 1, 3) := by decide +kernel
theorem dX11_tenToThe_17 : decode cX11_tenToThe 17 = .ok (.goto (-13), 3) := by decide +kernel
theorem dX11_tenToThe_20 : decode cX11_tenToThe 20 = .ok (.iload_n 1, 1) := by decide +kernel
theorem dX11_tenToThe_21 : decode cX11_tenToThe 21 = .ok (.ireturn, 1) := by decide +kernel
theorem dX11_greatestDivisor_0 : decode cX11_greatestDivisor 0 = .ok (.iload_n 1, 1) := by decide +kernel
theorem dX11_greatestDivisor_1 : decode cX11_greatestDivisor 1 = .ok (.istore_n 2, 1) := by decide +kernel
theorem dX11_greatestDivisor_2 : decode cX11_greatestDivisor 2 = .ok (.iload_n 0, 1) := by decide +kernel
theorem dX11_greatestDivisor_3 : decode cX11_greatestDivisor 3 = .ok (.istore_n 3, 1) := by decide +kernel
theorem dX11_greatestDivisor_4 : decode cX11_greatestDivisor 4 = .ok (.iconst 0, 1) := by decide +kernel
theorem dX11_greatestDivisor_5 : decode cX11_greatestDivisor 5 = .ok (.istore 4, 2) := by decide +kernel
theorem dX11_greatestDivisor_7 : decode cX11_greatestDivisor 7 = .ok (.iload 4, 2) := by decide +kernel
theorem dX11_greatestDivisor_9 : decode cX11_greatestDivisor 9 = .ok (.bipush 64, 2) := by decide +kernel
theorem dX11_greatestDivisor_11 : decode cX11_greatestDivisor 11 = .ok (.if_icmp .ge 23, 3) := by decide +kernel
theorem dX11_greatestDivisor_14 : decode cX11_greatestDivisor 14 = .ok (.iload_n 3, 1) := by decide +kernel
theorem dX11_greatestDivisor_15 : decode cX11_greatestDivisor 15 = .ok (.ifCond .eq 19, 3) := by decide +kernel
theorem dX11_greatestDivisor_18 : decode cX11_greatestDivisor 18 = .ok (.iload_n 2, 1) := by decide +kernel
theorem dX11_greatestDivisor_19 : decode cX11_greatestDivisor 19 = .ok (.iload_n 3, 1) := by decide +kernel
theorem dX11_greatestDivisor_20 : decode cX11_greatestDivisor 20 = .ok (.irem, 1) := by decide +kernel
theorem dX11_greatestDivisor_21 : decode cX11_greatestDivisor 21 = .ok (.istore 5, 2) := by decide +kernel
theorem dX11_greatestDivisor_23 : decode cX11_greatestDivisor 23 = .ok (.iload_n 3, 1) := by decide +kernel
theorem dX11_greatestDivisor_24 : decode cX11_greatestDivisor 24 = .ok (.istore_n 2, 1) := by decide +kernel
theorem dX11_greatestDivisor_25 : decode cX11_greatestDivisor 25 = .ok (.iload 5, 2) := by decide +kernel
theorem dX11_greatestDivisor_27 : decode cX11_greatestDivisor 27 = .ok (.istore_n 3, 1) := by decide +kernel
theorem dX11_greatestDivisor_28 : decode cX11_greatestDivisor 28 = .ok (.iinc 4 1, 3) := by decide +kernel
theorem dX11_greatestDivisor_31 : decode cX11_greatestDivisor 31 = .ok (.goto (-24), 3) := by decide +kernel
theorem dX11_greatestDivisor_34 : decode cX11_greatestDivisor 34 = .ok (.iload_n 2, 1) := by decide +kernel
theorem dX11_greatestDivisor_35 : decode cX11_greatestDivisor 35 = .ok (.ireturn, 1) := by decide +kernel
theorem dX12_init_0 : decode cX12_init 0 = .ok (.aload_n 0, 1) := by decide +kernel
theorem dX12_init_1 : decode cX12_init 1 = .ok (.invokespecial 1, 3) := by decide +kernel
theorem dX12_init_4 : decode cX12_init 4 = .ok (.aload_n 0, 1) := by decide +kernel
theorem dX12_init_5 : decode cX12_init 5 = .ok (.bipush 8, 2) := by decide +kernel
theorem dX12_init_7 : decode cX12_init 7 = .ok (.newarray .int, 2) := by decide +kernel
theorem dX12_init_9 : decode cX12_init 9 = .ok (.putfield 7, 3) := by decide +kernel
theorem dX12_init_12 : decode cX12_init 12 = .ok (.aload_n 0, 1) := by decide +kernel
theorem dX12_init_13 : decode cX12_init 13 = .ok (.bipush 8, 2) := by decide +kernel
theorem dX12_init_15 : decode cX12_init 15 = .ok (.newarray .int, 2) := by decide +kernel
theorem dX12_init_17 : decode cX12_init 17 = .ok (.putfield 13, 3) := by decide +kernel
theorem dX12_init_20 : decode cX12_init 20 = .ok (.aload_n 0, 1) := by decide +kernel
theorem dX12_init_21 : decode cX12_init 21 = .ok (.sipush 320, 3) := by decide +kernel
theorem dX12_init_24 : decode cX12_init 24 = .ok (.newarray .int, 2) := by decide +kernel
theorem dX12_init_26 : decode cX12_init 26 = .ok (.putfield 16, 3) := by decide +kernel
theorem dX12_init_29 : decode cX12_init 29 = .ok (.aload_n 0, 1) := by decide +kernel
theorem dX12_init_30 : decode cX12_init 30 = .ok (.bipush 40, 2) := by decide +kernel
theorem dX12_init_32 : decode cX12_init 32 = .ok (.newarray .int, 2) := by decide +kernel
theorem dX12_init_34 : decode cX12_init 34 = .ok (.putfield 19, 3) := by decide +kernel
theorem dX12_init_37 : decode cX12_init 37 = .ok (.aload_n 0, 1) := by decide +kernel
theorem dX12_init_38 : decode cX12_init 38 = .ok (.bipush 120, 2) := by decide +kernel
theorem dX12_init_40 : decode cX12_init 40 = .ok (.newarray .int, 2) := by decide +kernel
theorem dX12_init_42 : decode cX12_init 42 = .ok (.putfield 22, 3) := by decide +kernel
theorem dX12_init_45 : decode cX12_init 45 = .ok (.aload_n 0, 1) := by decide +kernel
theorem dX12_init_46 : decode cX12_init 46 = .ok (.bipush 28, 2) := by decide +kernel
theorem dX12_init_48 : decode cX12_init 48 = .ok (.newarray .int, 2) := by decide +kernel
theorem dX12_init_50 : decode cX12_init 50 = .ok (.putfield 25, 3) := by decide +kernel
theorem dX12_init_53 : decode cX12_init 53 = .ok (.aload_n 0, 1) := by decide +kernel
theorem dX12_init_54 : decode cX12_init 54 = .ok (.bipush 28, 2) := by decide +kernel
theorem dX12_init_56 : decode cX12_init 56 = .ok (.newarray .int, 2) := by decide +kernel
theorem dX12_init_58 : decode cX12_init 58 = .ok (.putfield 28, 3) := by decide +kernel
theorem dX12_init_61 : decode cX12_init 61 = .ok (.aload_n 0, 1) := by decide +kernel
theorem dX12_init_62 : decode cX12_init 62 = .ok (.sipush 672, 3) := by decide +kernel
theorem dX12_init_65 : decode cX12_init 65 = .ok (.newarray .int, 2) := by decide +kernel
theorem dX12_init_67 : decode cX12_init 67 = .ok (.putfield 31, 3) := by decide +kernel
theorem dX12_init_70 : decode cX12_init 70 = .ok (.aload_n 0, 1) := by decide +kernel
theorem dX12_init_71 : decode cX12_init 71 = .ok (.bipush 56, 2) := by decide +kernel
theorem dX12_init_73 : decode cX12_init 73 = .ok (.newarray .int, 2) := by decide +kernel
theorem dX12_init_75 : decode cX12_init 75 = .ok (.putfield 34, 3) := by decide +kernel
theorem dX12_init_78 : decode cX12_init 78 = .ok (.aload_n 0, 1) := by decide +kernel
theorem dX12_init_79 : decode cX12_init 79 = .ok (.iconst 2, 1) := by decide +kernel
theorem dX12_init_80 : decode cX12_init 80 = .ok (.newarray .boolean, 2) := by decide +kernel
theorem dX12_init_82 : decode cX12_init 82 = .ok (.putfield 37, 3) := by decide +kernel
theorem dX12_init_85 : decode cX12_init 85 = .ok (.aload_n 0, 1) := by decide +kernel
theorem dX12_init_86 : decode cX12_init 86 = .ok (.bipush 16, 2) := by decide +kernel
theorem dX12_init_88 : decode cX12_init 88 = .ok (.newarray .int, 2) := by decide +kernel
theorem dX12_init_90 : decode cX12_init 90 = .ok (.putfield 41, 3) := by decide +kernel
theorem dX12_init_93 : decode cX12_init 93 = .ok (.iconst 0, 1) := by decide +kernel
theorem dX12_init_94 : decode cX12_init 94 = .ok (.istore_n 1, 1) := by decide +kernel
theorem dX12_init_95 : decode cX12_init 95 = .ok (.iload_n 1, 1) := by decide +kernel
theorem dX12_init_96 : decode cX12_init 96 = .ok (.bipush 8, 2) := by decide +kernel
theorem dX12_init_98 : decode cX12_init 98 = .ok (.if_icmp .ge 17, 3) := by decide +kernel
theorem dX12_init_101 : decode cX12_init 101 = .ok (.aload_n 0, 1) := by decide +kernel
theorem dX12_init_102 : decode cX12_init 102 = .ok (.getfield 7, 3) := by decide +kernel
theorem dX12_init_105 : decode cX12_init 105 = .ok (.iload_n 1, 1) := by decide +kernel
theorem dX12_init_106 : decode cX12_init 106 = .ok (.ldc 44, 2) := by decide +kernel
theorem dX12_init_108 : decode cX12_init 108 = .ok (.iastore, 1) := by decide +kernel
theorem dX12_init_109 : decode cX12_init 109 = .ok (.iinc 1 1, 3) := by decide +kernel
theorem dX12_init_112 : decode cX12_init 112 = .ok (.goto (-17), 3) := by decide +kernel
theorem dX12_init_115 : decode cX12_init 115 = .ok (.return_, 1) := by decide +kernel
theorem dX12_in_0 : decode cX12_in 0 = .ok (.iload_n 0, 1) := by decide +kernel
theorem dX12_in_1 : decode cX12_in 1 = .ok (.iload_n 1, 1) := by decide +kernel
theorem dX12_in_2 : decode cX12_in 2 = .ok (.if_icmp .lt 12, 3) := by decide +kernel
theorem dX12_in_5 : decode cX12_in 5 = .ok (.iload_n 0, 1) := by decide +kernel
theorem dX12_in_6 : decode cX12_in 6 = .ok (.iload_n 2, 1) := by decide +kernel
theorem dX12_in_7 : decode cX12_in 7 = .ok (.if_icmp .gt 7, 3) := by decide +kernel
theorem dX12_in_10 : decode cX12_in 10 = .ok (.iconst 1, 1) := by decide +kernel
theorem dX12_in_11 : decode cX12_in 11 = .ok (.goto 4, 3) := by decide +kernel
theorem dX12_in_14 : decode cX12_in 14 = .ok (.iconst 0, 1) := by decide +kernel
theorem dX12_in_15 : decode cX12_in 15 = .ok (.ireturn, 1) := by decide +kernel
theorem dX12_has_0 : decode cX12_has 0 = .ok (.iload_n 0, 1) := by decide +kernel
theorem dX12_has_1 : decode cX12_has 1 = .ok (.iload_n 1, 1) := by decide +kernel
theorem dX12_has_2 : decode cX12_has 2 = .ok (.ishr, 1) := by decide +kernel
theorem dX12_has_3 : decode cX12_has 3 = .ok (.iconst 1, 1) := by decide +kernel
theorem dX12_has_4 : decode cX12_has 4 = .ok (.iand, 1) := by decide +kernel
theorem dX12_has_5 : decode cX12_has 5 = .ok (.iconst 1, 1) := by decide +kernel
theorem dX12_has_6 : decode cX12_has 6 = .ok (.if_icmp .ne 7, 3) := by decide +kernel
theorem dX12_has_9 : decode cX12_has 9 = .ok (.iconst 1, 1) := by decide +kernel
theorem dX12_has_10 : decode cX12_has 10 = .ok (.goto 4, 3) := by decide +kernel
theorem dX12_has_13 : decode cX12_has 13 = .ok (.iconst 0, 1) := by decide +kernel
theorem dX12_has_14 : decode cX12_has 14 = .ok (.ireturn, 1) := by decide +kernel
theorem dX12_ones_0 : decode cX12_ones 0 = .ok (.iconst 0, 1) := by decide +kernel
theorem dX12_ones_1 : decode cX12_ones 1 = .ok (.istore_n 1, 1) := by decide +kernel
theorem dX12_ones_2 : decode cX12_ones 2 = .ok (.iconst 0, 1) := by decide +kernel
theorem dX12_ones_3 : decode cX12_ones 3 = .ok (.istore_n 2, 1) := by decide +kernel
theorem dX12_ones_4 : decode cX12_ones 4 = .ok (.iload_n 2, 1) := by decide +kernel
theorem dX12_ones_5 : decode cX12_ones 5 = .ok (.bipush 8, 2) := by decide +kernel
theorem dX12_ones_7 : decode cX12_ones 7 = .ok (.if_icmp .ge 17, 3) := by decide +kernel
theorem dX12_ones_10 : decode cX12_ones 10 = .ok (.iload_n 1, 1) := by decide +kernel
theorem dX12_ones_11 : decode cX12_ones 11 = .ok (.iload_n 0, 1) := by decide +kernel
theorem dX12_ones_12 : decode cX12_ones 12 = .ok (.iload_n 2, 1) := by decide +kernel
theorem dX12_ones_13 : decode cX12_ones 13 = .ok (.ishr, 1) := by decide +kernel
theorem dX12_ones_14 : decode cX12_ones 14 = .ok (.iconst 1, 1) := by decide +kernel
theorem dX12_ones_15 : decode cX12_ones 15 = .ok (.iand, 1) := by decide +kernel
theorem dX12_ones_16 : decode cX12_ones 16 = .ok (.iadd, 1) := by decide +kernel
theorem dX12_ones_17 : decode cX12_ones 17 = .ok (.istore_n 1, 1) := by decide +kernel
theorem dX12_ones_18 : decode cX12_ones 18 = .ok (.iinc 2 1, 3) := by decide +kernel
theorem dX12_ones_21 : decode cX12_ones 21 = .ok (.goto (-17), 3) := by decide +kernel
theorem dX12_ones_24 : decode cX12_ones 24 = .ok (.iload_n 1, 1) := by decide +kernel
theorem dX12_ones_25 : decode cX12_ones 25 = .ok (.ireturn, 1) := by decide +kernel
theorem dX12_found_0 : decode cX12_found 0 = .ok (.aload_n 0, 1) := by decide +kernel
theorem dX12_found_1 : decode cX12_found 1 = .ok (.iload_n 1, 1) := by decide +kernel
theorem dX12_found_2 : decode cX12_found 2 = .ok (.putfield 45, 3) := by decide +kernel
theorem dX12_found_5 : decode cX12_found 5 = .ok (.ldc 49, 2) := by decide +kernel
theorem dX12_found_7 : decode cX12_found 7 = .ok (.iload_n 1, 1) := by decide +kernel
theorem dX12_found_8 : decode cX12_found 8 = .ok (.isub, 1) := by decide +kernel
theorem dX12_found_9 : decode cX12_found 9 = .ok (.ireturn, 1) := by decide +kernel
theorem dX12_well_0 : decode cX12_well 0 = .ok (.aload_n 0, 1) := by decide +kernel
theorem dX12_well_1 : decode cX12_well 1 = .ok (.iconst 0, 1) := by decide +kernel
theorem dX12_well_2 : decode cX12_well 2 = .ok (.putfield 45, 3) := by decide +kernel
theorem dX12_well_5 : decode cX12_well 5 = .ok (.iload_n 1, 1) := by decide +kernel
theorem dX12_well_6 : decode cX12_well 6 = .ok (.ireturn, 1) := by decide +kernel
theorem dX12_copies_0 : decode cX12_copies 0 = .ok (.iconst 0, 1) := by decide +kernel
theorem dX12_copies_1 : decode cX12_copies 1 = .ok (.istore 4, 2) := by decide +kernel
theorem dX12_copies_3 : decode cX12_copies 3 = .ok (.iload 4, 2) := by decide +kernel
theorem dX12_copies_5 : decode cX12_copies 5 = .ok (.bipush 28, 2) := by decide +kernel
theorem dX12_copies_7 : decode cX12_copies 7 = .ok (.if_icmp .ge 21, 3) := by decide +kernel
theorem dX12_copies_10 : decode cX12_copies 10 = .ok (.aload_n 2, 1) := by decide +kernel
theorem dX12_copies_11 : decode cX12_copies 11 = .ok (.iload_n 3, 1) := by decide +kernel
theorem dX12_copies_12 : decode cX12_copies 12 = .ok (.iload 4, 2) := by decide +kernel
theorem dX12_copies_14 : decode cX12_copies 14 = .ok (.iadd, 1) := by decide +kernel
theorem dX12_copies_15 : decode cX12_copies 15 = .ok (.aload_n 0, 1) := by decide +kernel
theorem dX12_copies_16 : decode cX12_copies 16 = .ok (.iload_n 1, 1) := by decide +kernel
theorem dX12_copies_17 : decode cX12_copies 17 = .ok (.iload 4, 2) := by decide +kernel
theorem dX12_copies_19 : decode cX12_copies 19 = .ok (.iadd, 1) := by decide +kernel
theorem dX12_copies_20 : decode cX12_copies 20 = .ok (.iaload, 1) := by decide +kernel
theorem dX12_copies_21 : decode cX12_copies 21 = .ok (.iastore, 1) := by decide +kernel
theorem dX12_copies_22 : decode cX12_copies 22 = .ok (.iinc 4 1, 3) := by decide +kernel
theorem dX12_copies_25 : decode cX12_copies 25 = .ok (.goto (-22), 3) := by decide +kernel
theorem dX12_copies_28 : decode cX12_copies 28 = .ok (.return_, 1) := by decide +kernel
set_option maxRecDepth 20000 in
theorem ggX12_isRow_X12_in : GoodIn wsX12_isRow wsX12_in := goodIn_r _ [4] (by decide +kernel) (by decide +kernel)
set_option maxRecDepth 20000 in
theorem gX12_isRow_X12_in : GoodIn wsX12_isRow (va_wsS RX12 50 yX12_in wsX12_in) := goodIn_app (goodIn_of _ (by decide +kernel)) ggX12_isRow_X12_in
theorem dX12_isRow_0 : decode cX12_isRow 0 = .ok (.iload_n 0, 1) := by decide +kernel
theorem dX12_isRow_1 : decode cX12_isRow 1 = .ok (.iconst 0, 1) := by decide +kernel
theorem dX12_isRow_2 : decode cX12_isRow 2 = .ok (.bipush 7, 2) := by decide +kernel
theorem dX12_isRow_4 : decode cX12_isRow 4 = .ok (.invokestatic 50, 3) := by decide +kernel
theorem dX12_isRow_7 : decode cX12_isRow 7 = .ok (.ireturn, 1) := by decide +kernel
theorem dX12_isMissing_0 : decode cX12_isMissing 0 = .ok (.aload_n 0, 1) := by decide +kernel
theorem dX12_isMissing_1 : decode cX12_isMissing 1 = .ok (.getfield 7, 3) := by decide +kernel
theorem dX12_isMissing_4 : decode cX12_isMissing 4 = .ok (.iload_n 1, 1) := by decide +kernel
theorem dX12_isMissing_5 : decode cX12_isMissing 5 = .ok (.iaload, 1) := by decide +kernel
theorem dX12_isMissing_6 : decode cX12_isMissing 6 = .ok (.ldc 44, 2) := by decide +kernel
theorem dX12_isMissing_8 : decode cX12_isMissing 8 = .ok (.if_icmp .ne 7, 3) := by decide +kernel
theorem dX12_isMissing_11 : decode cX12_isMissing 11 = .ok (.iconst 1, 1) := by decide +kernel
theorem dX12_isMissing_12 : decode cX12_isMissing 12 = .ok (.goto 4, 3) := by decide +kernel
theorem dX12_isMissing_15 : decode cX12_isMissing 15 = .ok (.iconst 0, 1) := by decide +kernel
theorem dX12_isMissing_16 : decode cX12_isMissing 16 = .ok (.ireturn, 1) := by decide +kernel
theorem dX12_cut_0 : decode cX12_cut 0 = .ok (.iload_n 0, 1) := by decide +kernel
theorem dX12_cut_1 : decode cX12_cut 1 = .ok (.ifCond .ne 13, 3) := by decide +kernel
theorem dX12_cut_4 : decode cX12_cut 4 = .ok (.iload_n 1, 1) := by decide +kernel
theorem dX12_cut_5 : decode cX12_cut 5 = .ok (.bipush 24, 2) := by decide +kernel
theorem dX12_cut_7 : decode cX12_cut 7 = .ok (.ishl, 1) := by decide +kernel
theorem dX12_cut_8 : decode cX12_cut 8 = .ok (.bipush 24, 2) := by decide +kernel
theorem dX12_cut_10 : decode cX12_cut 10 = .ok (.ishr, 1) := by decide +kernel
theorem dX12_cut_11 : decode cX12_cut 11 = .ok (.goto 19, 3) := by decide +kernel
theorem dX12_cut_14 : decode cX12_cut 14 = .ok (.iload_n 0, 1) := by decide +kernel
theorem dX12_cut_15 : decode cX12_cut 15 = .ok (.iconst 1, 1) := by decide +kernel
theorem dX12_cut_16 : decode cX12_cut 16 = .ok (.if_icmp .ne 13, 3) := by decide +kernel
theorem dX12_cut_19 : decode cX12_cut 19 = .ok (.iload_n 1, 1) := by decide +kernel
theorem dX12_cut_20 : decode cX12_cut 20 = .ok (.bipush 16, 2) := by decide +kernel
theorem dX12_cut_22 : decode cX12_cut 22 = .ok (.ishl, 1) := by decide +kernel
theorem dX12_cut_23 : decode cX12_cut 23 = .ok (.bipush 16, 2) := by decide +kernel
theorem dX12_cut_25 : decode cX12_cut 25 = .ok (.ishr, 1) := by decide +kernel
theorem dX12_cut_26 : decode cX12_cut 26 = .ok (.goto 4, 3) := by decide +kernel
theorem dX12_cut_29 : decode cX12_cut 29 = .ok (.iload_n 1, 1) := by decide +kernel
theorem dX12_cut_30 : decode cX12_cut 30 = .ok (.ireturn, 1) := by decide +kernel
set_option maxRecDepth 20000 in
theorem ggX12_row_X12_isRow : GoodIn wsX12_row wsX12_isRow := goodIn_r _ [8, 9, 10, 7, 11] (by decide +kernel) (by decide +kernel)
set_option maxRecDepth 20000 in
theorem gX12_row_X12_isRow : GoodIn wsX12_row (va_wsS RX12 54 yX12_isRow wsX12_isRow) := goodIn_app (goodIn_of _ (by decide +kernel)) ggX12_row_X12_isRow
set_option maxRecDepth 20000 in
theorem ggX12_row_X12_in : GoodIn wsX12_row wsX12_in := goodIn_r _ [11] (by decide +kernel) (by decide +kernel)
set_option maxRecDepth 20000 in
theorem gX12_row_X12_in : GoodIn wsX12_row (va_wsS RX12 50 yX12_in wsX12_in) := goodIn_app (goodIn_of _ (by decide +kernel)) ggX12_row_X12_in
set_option maxRecDepth 20000 in
theorem ggX12_row_X12_found : GoodIn wsX12_row wsX12_found := goodIn_r _ [15, 16, 17, 22, 23, 24, 25, 26, 27, 28, 29, 30, 31, 32, 33, 34, 35, 36, 37, 38, 39, 40, 41, 42] (by decide +kernel) (by decide +kernel)
set_option maxRecDepth 20000 in
theorem gX12_row_X12_found : GoodIn wsX12_row (wsV RX12 59 RX12 yX12_found wsX12_found) := goodIn_app (goodIn_of _ (by decide +kernel)) ggX12_row_X12_found
set_option maxRecDepth 20000 in
theorem ggX12_row_X12_well : GoodIn wsX12_row wsX12_well := goodIn_r _ [21, 16, 22, 23, 24, 25, 26, 27, 28, 29, 30, 31, 32, 33, 34, 35, 36, 37, 38, 39, 40, 41, 42] (by decide +kernel) (by decide +kernel)
set_option maxRecDepth 20000 in
theorem gX12_row_X12_well : GoodIn wsX12_row (wsV RX12 63 RX12 yX12_well wsX12_well) := goodIn_app (goodIn_of _ (by decide +kernel)) ggX12_row_X12_well
theorem dX12_row_0 : decode cX12_row 0 = .ok (.iload_n 1, 1) := by decide +kernel
theorem dX12_row_1 : decode cX12_row 1 = .ok (.invokestatic 54, 3) := by decide +kernel
theorem dX12_row_4 : decode cX12_row 4 = .ok (.ifCond .eq 18, 3) := by decide +kernel
theorem dX12_row_7 : decode cX12_row 7 = .ok (.iload_n 2, 1) := by decide +kernel
theorem dX12_row_8 : decode cX12_row 8 = .ok (.iconst 0, 1) := by decide +kernel
theorem dX12_row_9 : decode cX12_row 9 = .ok (.iconst 2, 1) := by decide +kernel
theorem dX12_row_10 : decode cX12_row 10 = .ok (.invokestatic 50, 3) := by decide +kernel
theorem dX12_row_13 : decode cX12_row 13 = .ok (.ifCond .eq 9, 3) := by decide +kernel
theorem dX12_row_16 : decode cX12_row 16 = .ok (.iload_n 3, 1) := by decide +kernel
theorem dX12_row_17 : decode cX12_row 17 = .ok (.bipush 40, 2) := by decide +kernel
theorem dX12_row_19 : decode cX12_row 19 = .ok (.if_icmp .le 6, 3) := by decide +kernel
theorem dX12_row_22 : decode cX12_row 22 = .ok (.ldc 58, 2) := by decide +kernel
theorem dX12_row_24 : decode cX12_row 24 = .ok (.ireturn, 1) := by decide +kernel
theorem dX12_row_25 : decode cX12_row 25 = .ok (.iload_n 3, 1) := by decide +kernel
theorem dX12_row_26 : decode cX12_row 26 = .ok (.ifCond .ge 9, 3) := by decide +kernel
theorem dX12_row_29 : decode cX12_row 29 = .ok (.aload_n 0, 1) := by decide +kernel
theorem dX12_row_30 : decode cX12_row 30 = .ok (.iconst 4, 1) := by decide +kernel
theorem dX12_row_31 : decode cX12_row 31 = .ok (.invokevirtual 59, 3) := by decide +kernel
theorem dX12_row_34 : decode cX12_row 34 = .ok (.ireturn, 1) := by decide +kernel
theorem dX12_row_35 : decode cX12_row 35 = .ok (.aload_n 0, 1) := by decide +kernel
theorem dX12_row_36 : decode cX12_row 36 = .ok (.getfield 7, 3) := by decide +kernel
theorem dX12_row_39 : decode cX12_row 39 = .ok (.iload_n 1, 1) := by decide +kernel
theorem dX12_row_40 : decode cX12_row 40 = .ok (.iload_n 2, 1) := by decide +kernel
theorem dX12_row_41 : decode cX12_row 41 = .ok (.iastore, 1) := by decide +kernel
theorem dX12_row_42 : decode cX12_row 42 = .ok (.aload_n 0, 1) := by decide +kernel
theorem dX12_row_43 : decode cX12_row 43 = .ok (.getfield 13, 3) := by decide +kernel
theorem dX12_row_46 : decode cX12_row 46 = .ok (.iload_n 1, 1) := by decide +kernel
theorem dX12_row_47 : decode cX12_row 47 = .ok (.iload_n 3, 1) := by decide +kernel
theorem dX12_row_48 : decode cX12_row 48 = .ok (.iastore, 1) := by decide +kernel
theorem dX12_row_49 : decode cX12_row 49 = .ok (.iconst 0, 1) := by decide +kernel
theorem dX12_row_50 : decode cX12_row 50 = .ok (.istore 4, 2) := by decide +kernel
theorem dX12_row_52 : decode cX12_row 52 = .ok (.iload 4, 2) := by decide +kernel
theorem dX12_row_54 : decode cX12_row 54 = .ok (.bipush 40, 2) := by decide +kernel
theorem dX12_row_56 : decode cX12_row 56 = .ok (.if_icmp .ge 22, 3) := by decide +kernel
theorem dX12_row_59 : decode cX12_row 59 = .ok (.aload_n 0, 1) := by decide +kernel
theorem dX12_row_60 : decode cX12_row 60 = .ok (.getfield 16, 3) := by decide +kernel
theorem dX12_row_63 : decode cX12_row 63 = .ok (.bipush 40, 2) := by decide +kernel
theorem dX12_row_65 : decode cX12_row 65 = .ok (.iload_n 1, 1) := by decide +kernel
theorem dX12_row_66 : decode cX12_row 66 = .ok (.imul, 1) := by decide +kernel
theorem dX12_row_67 : decode cX12_row 67 = .ok (.iload 4, 2) := by decide +kernel
theorem dX12_row_69 : decode cX12_row 69 = .ok (.iadd, 1) := by decide +kernel
theorem dX12_row_70 : decode cX12_row 70 = .ok (.iconst 0, 1) := by decide +kernel
theorem dX12_row_71 : decode cX12_row 71 = .ok (.iastore, 1) := by decide +kernel
theorem dX12_row_72 : decode cX12_row 72 = .ok (.iinc 4 1, 3) := by decide +kernel
theorem dX12_row_75 : decode cX12_row 75 = .ok (.goto (-23), 3) := by decide +kernel
theorem dX12_row_78 : decode cX12_row 78 = .ok (.aload_n 0, 1) := by decide +kernel
theorem dX12_row_79 : decode cX12_row 79 = .ok (.iload_n 3, 1) := by decide +kernel
theorem dX12_row_80 : decode cX12_row 80 = .ok (.invokevirtual 63, 3) := by decide +kernel
theorem dX12_row_83 : decode cX12_row 83 = .ok (.ireturn, 1) := by decide +kernel
set_option maxRecDepth 20000 in
theorem ggX12_set_X12_isRow : GoodIn wsX12_set wsX12_isRow := goodIn_r _ [8, 9, 10, 7, 11] (by decide +kernel) (by decide +kernel)
set_option maxRecDepth 20000 in
theorem gX12_set_X12_isRow : GoodIn wsX12_set (va_wsS RX12 54 yX12_isRow wsX12_isRow) := goodIn_app (goodIn_of _ (by decide +kernel)) ggX12_set_X12_isRow
set_option maxRecDepth 20000 in
theorem ggX12_set_X12_isMissing : GoodIn wsX12_set wsX12_isMissing := goodIn_r _ [15, 4, 16, 30, 31, 32, 33, 34, 35, 36, 37, 38, 39, 40, 41, 42, 43, 44, 45, 46, 47, 48, 49, 50] (by decide +kernel) (by decide +kernel)
set_option maxRecDepth 20000 in
theorem gX12_set_X12_isMissing : GoodIn wsX12_set (wsV RX12 66 RX12 yX12_isMissing wsX12_isMissing) := goodIn_app (goodIn_of _ (by decide +kernel)) ggX12_set_X12_isMissing
set_option maxRecDepth 20000 in
theorem ggX12_set_X12_found : GoodIn wsX12_set wsX12_found := goodIn_r _ [20, 21, 22, 30, 31, 32, 33, 34, 35, 36, 37, 38, 39, 40, 41, 42, 43, 44, 45, 46, 47, 48, 49, 50] (by decide +kernel) (by decide +kernel)
set_option maxRecDepth 20000 in
theorem gX12_set_X12_found : GoodIn wsX12_set (wsV RX12 59 RX12 yX12_found wsX12_found) := goodIn_app (goodIn_of _ (by decide +kernel)) ggX12_set_X12_found
set_option maxRecDepth 20000 in
theorem ggX12_set_X12_in : GoodIn wsX12_set wsX12_in := goodIn_r _ [11] (by decide +kernel) (by decide +kernel)
set_option maxRecDepth 20000 in
theorem gX12_set_X12_in : GoodIn wsX12_set (va_wsS RX12 50 yX12_in wsX12_in) := goodIn_app (goodIn_of _ (by decide +kernel)) ggX12_set_X12_in
set_option maxRecDepth 20000 in
theorem ggX12_set_X12_cut : GoodIn wsX12_set wsX12_cut := goodIn_r _ [25] (by decide +kernel) (by decide +kernel)
set_option maxRecDepth 20000 in
theorem gX12_set_X12_cut : GoodIn wsX12_set (va_wsS RX12 69 yX12_cut wsX12_cut) := goodIn_app (goodIn_of _ (by decide +kernel)) ggX12_set_X12_cut
set_option maxRecDepth 20000 in
theorem ggX12_set_X12_well : GoodIn wsX12_set wsX12_well := goodIn_r _ [29, 21, 30, 31, 32, 33, 34, 35, 36, 37, 38, 39, 40, 41, 42, 43, 44, 45, 46, 47, 48, 49, 50] (by decide +kernel) (by decide +kernel)
set_option maxRecDepth 20000 in
theorem gX12_set_X12_well : GoodIn wsX12_set (wsV RX12 63 RX12 yX12_well wsX12_well) := goodIn_app (goodIn_of _ (by decide +kernel)) ggX12_set_X12_well
theorem dX12_set_0 : decode cX12_set 0 = .ok (.iload_n 1, 1) := by decide +kernel
theorem dX12_set_1 : decode cX12_set 1 = .ok (.invokestatic 54, 3) := by decide +kernel
theorem dX12_set_4 : decode cX12_set 4 = .ok (.ifCond .ne 6, 3) := by decide +kernel
theorem dX12_set_7 : decode cX12_set 7 = .ok (.ldc 58, 2) := by decide +kernel
theorem dX12_set_9 : decode cX12_set 9 = .ok (.ireturn, 1) := by decide +kernel
theorem dX12_set_10 : decode cX12_set 10 = .ok (.aload_n 0, 1) := by decide +kernel
theorem dX12_set_11 : decode cX12_set 11 = .ok (.iload_n 1, 1) := by decide +kernel
theorem dX12_set_12 : decode cX12_set 12 = .ok (.invokevirtual 66, 3) := by decide +kernel
theorem dX12_set_15 : decode cX12_set 15 = .ok (.ifCond .eq 9, 3) := by decide +kernel
theorem dX12_set_18 : decode cX12_set 18 = .ok (.aload_n 0, 1) := by decide +kernel
theorem dX12_set_19 : decode cX12_set 19 = .ok (.iconst 1, 1) := by decide +kernel
theorem dX12_set_20 : decode cX12_set 20 = .ok (.invokevirtual 59, 3) := by decide +kernel
theorem dX12_set_23 : decode cX12_set 23 = .ok (.ireturn, 1) := by decide +kernel
theorem dX12_set_24 : decode cX12_set 24 = .ok (.iload_n 2, 1) := by decide +kernel
theorem dX12_set_25 : decode cX12_set 25 = .ok (.iconst 0, 1) := by decide +kernel
theorem dX12_set_26 : decode cX12_set 26 = .ok (.aload_n 0, 1) := by decide +kernel
theorem dX12_set_27 : decode cX12_set 27 = .ok (.getfield 13, 3) := by decide +kernel
theorem dX12_set_30 : decode cX12_set 30 = .ok (.iload_n 1, 1) := by decide +kernel
theorem dX12_set_31 : decode cX12_set 31 = .ok (.iaload, 1) := by decide +kernel
theorem dX12_set_32 : decode cX12_set 32 = .ok (.iconst 1, 1) := by decide +kernel
theorem dX12_set_33 : decode cX12_set 33 = .ok (.isub, 1) := by decide +kernel
theorem dX12_set_34 : decode cX12_set 34 = .ok (.invokestatic 50, 3) := by decide +kernel
theorem dX12_set_37 : decode cX12_set 37 = .ok (.ifCond .ne 9, 3) := by decide +kernel
theorem dX12_set_40 : decode cX12_set 40 = .ok (.aload_n 0, 1) := by decide +kernel
theorem dX12_set_41 : decode cX12_set 41 = .ok (.iconst 2, 1) := by decide +kernel
theorem dX12_set_42 : decode cX12_set 42 = .ok (.invokevirtual 59, 3) := by decide +kernel
theorem dX12_set_45 : decode cX12_set 45 = .ok (.ireturn, 1) := by decide +kernel
theorem dX12_set_46 : decode cX12_set 46 = .ok (.aload_n 0, 1) := by decide +kernel
theorem dX12_set_47 : decode cX12_set 47 = .ok (.getfield 16, 3) := by decide +kernel
theorem dX12_set_50 : decode cX12_set 50 = .ok (.bipush 40, 2) := by decide +kernel
theorem dX12_set_52 : decode cX12_set 52 = .ok (.iload_n 1, 1) := by decide +kernel
theorem dX12_set_53 : decode cX12_set 53 = .ok (.imul, 1) := by decide +kernel
theorem dX12_set_54 : decode cX12_set 54 = .ok (.iload_n 2, 1) := by decide +kernel
theorem dX12_set_55 : decode cX12_set 55 = .ok (.iadd, 1) := by decide +kernel
theorem dX12_set_56 : decode cX12_set 56 = .ok (.aload_n 0, 1) := by decide +kernel
theorem dX12_set_57 : decode cX12_set 57 = .ok (.getfield 7, 3) := by decide +kernel
theorem dX12_set_60 : decode cX12_set 60 = .ok (.iload_n 1, 1) := by decide +kernel
theorem dX12_set_61 : decode cX12_set 61 = .ok (.iaload, 1) := by decide +kernel
theorem dX12_set_62 : decode cX12_set 62 = .ok (.iload_n 3, 1) := by decide +kernel
theorem dX12_set_63 : decode cX12_set 63 = .ok (.invokestatic 69, 3) := by decide +kernel
theorem dX12_set_66 : decode cX12_set 66 = .ok (.iastore, 1) := by decide +kernel
theorem dX12_set_67 : decode cX12_set 67 = .ok (.aload_n 0, 1) := by decide +kernel
theorem dX12_set_68 : decode cX12_set 68 = .ok (.aload_n 0, 1) := by decide +kernel
theorem dX12_set_69 : decode cX12_set 69 = .ok (.getfield 16, 3) := by decide +kernel
theorem dX12_set_72 : decode cX12_set 72 = .ok (.bipush 40, 2) := by decide +kernel
theorem dX12_set_74 : decode cX12_set 74 = .ok (.iload_n 1, 1) := by decide +kernel
theorem dX12_set_75 : decode cX12_set 75 = .ok (.imul, 1) := by decide +kernel
theorem dX12_set_76 : decode cX12_set 76 = .ok (.iload_n 2, 1) := by decide +kernel
theorem dX12_set_77 : decode cX12_set 77 = .ok (.iadd, 1) := by decide +kernel
theorem dX12_set_78 : decode cX12_set 78 = .ok (.iaload, 1) := by decide +kernel
theorem dX12_set_79 : decode cX12_set 79 = .ok (.invokevirtual 63, 3) := by decide +kernel
theorem dX12_set_82 : decode cX12_set 82 = .ok (.ireturn, 1) := by decide +kernel
theorem dX12_isPart_0 : decode cX12_isPart 0 = .ok (.iload_n 2, 1) := by decide +kernel
theorem dX12_isPart_1 : decode cX12_isPart 1 = .ok (.ifCond .lt 33, 3) := by decide +kernel
theorem dX12_isPart_4 : decode cX12_isPart 4 = .ok (.iload_n 3, 1) := by decide +kernel
theorem dX12_isPart_5 : decode cX12_isPart 5 = .ok (.ifCond .lt 29, 3) := by decide +kernel
theorem dX12_isPart_8 : decode cX12_isPart 8 = .ok (.iload_n 2, 1) := by decide +kernel
theorem dX12_isPart_9 : decode cX12_isPart 9 = .ok (.aload_n 0, 1) := by decide +kernel
theorem dX12_isPart_10 : decode cX12_isPart 10 = .ok (.getfield 13, 3) := by decide +kernel
theorem dX12_isPart_13 : decode cX12_isPart 13 = .ok (.iload_n 1, 1) := by decide +kernel
theorem dX12_isPart_14 : decode cX12_isPart 14 = .ok (.iaload, 1) := by decide +kernel
theorem dX12_isPart_15 : decode cX12_isPart 15 = .ok (.if_icmp .gt 19, 3) := by decide +kernel
theorem dX12_isPart_18 : decode cX12_isPart 18 = .ok (.iload_n 3, 1) := by decide +kernel
theorem dX12_isPart_19 : decode cX12_isPart 19 = .ok (.aload_n 0, 1) := by decide +kernel
theorem dX12_isPart_20 : decode cX12_isPart 20 = .ok (.getfield 13, 3) := by decide +kernel
theorem dX12_isPart_23 : decode cX12_isPart 23 = .ok (.iload_n 1, 1) := by decide +kernel
theorem dX12_isPart_24 : decode cX12_isPart 24 = .ok (.iaload, 1) := by decide +kernel
theorem dX12_isPart_25 : decode cX12_isPart 25 = .ok (.iload_n 2, 1) := by decide +kernel
theorem dX12_isPart_26 : decode cX12_isPart 26 = .ok (.isub, 1) := by decide +kernel
theorem dX12_isPart_27 : decode cX12_isPart 27 = .ok (.if_icmp .gt 7, 3) := by decide +kernel
theorem dX12_isPart_30 : decode cX12_isPart 30 = .ok (.iconst 1, 1) := by decide +kernel
theorem dX12_isPart_31 : decode cX12_isPart 31 = .ok (.goto 4, 3) := by decide +kernel
theorem dX12_isPart_34 : decode cX12_isPart 34 = .ok (.iconst 0, 1) := by decide +kernel
theorem dX12_isPart_35 : decode cX12_isPart 35 = .ok (.ireturn, 1) := by decide +kernel
set_option maxRecDepth 20000 in
theorem ggX12_copy_X12_isRow : GoodIn wsX12_copy wsX12_isRow := goodIn_r _ [8, 9, 10, 7, 11] (by decide +kernel) (by decide +kernel)
set_option maxRecDepth 20000 in
theorem gX12_copy_X12_isRow : GoodIn wsX12_copy (va_wsS RX12 54 yX12_isRow wsX12_isRow) := goodIn_app (goodIn_of _ (by decide +kernel)) ggX12_copy_X12_isRow
set_option maxRecDepth 20000 in
theorem ggX12_copy_X12_isMissing : GoodIn wsX12_copy wsX12_isMissing := goodIn_r _ [15, 2, 16, 32, 33, 34, 35, 36, 37, 38, 39, 40, 41, 42, 43, 44, 45, 46, 47, 48, 49, 50, 51, 52] (by decide +kernel) (by decide +kernel)
set_option maxRecDepth 20000 in
theorem gX12_copy_X12_isMissing : GoodIn wsX12_copy (wsV RX12 66 RX12 yX12_isMissing wsX12_isMissing) := goodIn_app (goodIn_of _ (by decide +kernel)) ggX12_copy_X12_isMissing
set_option maxRecDepth 20000 in
theorem ggX12_copy_X12_found : GoodIn wsX12_copy wsX12_found := goodIn_r _ [20, 21, 22, 32, 33, 34, 35, 36, 37, 38, 39, 40, 41, 42, 43, 44, 45, 46, 47, 48, 49, 50, 51, 52] (by decide +kernel) (by decide +kernel)
set_option maxRecDepth 20000 in
theorem gX12_copy_X12_found : GoodIn wsX12_copy (wsV RX12 59 RX12 yX12_found wsX12_found) := goodIn_app (goodIn_of _ (by decide +kernel)) ggX12_copy_X12_found
set_option maxRecDepth 20000 in
theorem ggX12_copy_X12_isPart : GoodIn wsX12_copy wsX12_isPart := goodIn_r _ [26, 27, 32, 33, 34, 35, 36, 37, 38, 39, 40, 41, 42, 43, 44, 45, 46, 47, 48, 49, 50, 51, 52] (by decide +kernel) (by decide +kernel)
set_option maxRecDepth 20000 in
theorem gX12_copy_X12_isPart : GoodIn wsX12_copy (wsV RX12 73 RX12 yX12_isPart wsX12_isPart) := goodIn_app (goodIn_of _ (by decide +kernel)) ggX12_copy_X12_isPart
set_option maxRecDepth 20000 in
theorem ggX12_copy_X12_well : GoodIn wsX12_copy wsX12_well := goodIn_r _ [31, 21, 32, 33, 34, 35, 36, 37, 38, 39, 40, 41, 42, 43, 44, 45, 46, 47, 48, 49, 50, 51, 52] (by decide +kernel) (by decide +kernel)
set_option maxRecDepth 20000 in
theorem gX12_copy_X12_well : GoodIn wsX12_copy (wsV RX12 63 RX12 yX12_well wsX12_well) := goodIn_app (goodIn_of _ (by decide +kernel)) ggX12_copy_X12_well
theorem dX12_copy_0 : decode cX12_copy 0 = .ok (.iload_n 1, 1) := by decide +kernel
theorem dX12_copy_1 : decode cX12_copy 1 = .ok (.invokestatic 54, 3) := by decide +kernel
theorem dX12_copy_4 : decode cX12_copy 4 = .ok (.ifCond .eq 10, 3) := by decide +kernel
theorem dX12_copy_7 : decode cX12_copy 7 = .ok (.iload_n 3, 1) := by decide +kernel
theorem dX12_copy_8 : decode cX12_copy 8 = .ok (.invokestatic 54, 3) := by decide +kernel
theorem dX12_copy_11 : decode cX12_copy 11 = .ok (.ifCond .ne 6, 3) := by decide +kernel
theorem dX12_copy_14 : decode cX12_copy 14 = .ok (.ldc 58, 2) := by decide +kernel
theorem dX12_copy_16 : decode cX12_copy 16 = .ok (.ireturn, 1) := by decide +kernel
theorem dX12_copy_17 : decode cX12_copy 17 = .ok (.aload_n 0, 1) := by decide +kernel
theorem dX12_copy_18 : decode cX12_copy 18 = .ok (.iload_n 1, 1) := by decide +kernel
theorem dX12_copy_19 : decode cX12_copy 19 = .ok (.invokevirtual 66, 3) := by decide +kernel
theorem dX12_copy_22 : decode cX12_copy 22 = .ok (.ifCond .ne 11, 3) := by decide +kernel
theorem dX12_copy_25 : decode cX12_copy 25 = .ok (.aload_n 0, 1) := by decide +kernel
theorem dX12_copy_26 : decode cX12_copy 26 = .ok (.iload_n 3, 1) := by decide +kernel
theorem dX12_copy_27 : decode cX12_copy 27 = .ok (.invokevirtual 66, 3) := by decide +kernel
theorem dX12_copy_30 : decode cX12_copy 30 = .ok (.ifCond .eq 9, 3) := by decide +kernel
theorem dX12_copy_33 : decode cX12_copy 33 = .ok (.aload_n 0, 1) := by decide +kernel
theorem dX12_copy_34 : decode cX12_copy 34 = .ok (.iconst 1, 1) := by decide +kernel
theorem dX12_copy_35 : decode cX12_copy 35 = .ok (.invokevirtual 59, 3) := by decide +kernel
theorem dX12_copy_38 : decode cX12_copy 38 = .ok (.ireturn, 1) := by decide +kernel
theorem dX12_copy_39 : decode cX12_copy 39 = .ok (.aload_n 0, 1) := by decide +kernel
theorem dX12_copy_40 : decode cX12_copy 40 = .ok (.getfield 7, 3) := by decide +kernel
theorem dX12_copy_43 : decode cX12_copy 43 = .ok (.iload_n 1, 1) := by decide +kernel
theorem dX12_copy_44 : decode cX12_copy 44 = .ok (.iaload, 1) := by decide +kernel
theorem dX12_copy_45 : decode cX12_copy 45 = .ok (.aload_n 0, 1) := by decide +kernel
theorem dX12_copy_46 : decode cX12_copy 46 = .ok (.getfield 7, 3) := by decide +kernel
theorem dX12_copy_49 : decode cX12_copy 49 = .ok (.iload_n 3, 1) := by decide +kernel
theorem dX12_copy_50 : decode cX12_copy 50 = .ok (.iaload, 1) := by decide +kernel
theorem dX12_copy_51 : decode cX12_copy 51 = .ok (.if_icmp .eq 9, 3) := by decide +kernel
theorem dX12_copy_54 : decode cX12_copy 54 = .ok (.aload_n 0, 1) := by decide +kernel
theorem dX12_copy_55 : decode cX12_copy 55 = .ok (.iconst 5, 1) := by decide +kernel
theorem dX12_copy_56 : decode cX12_copy 56 = .ok (.invokevirtual 59, 3) := by decide +kernel
theorem dX12_copy_59 : decode cX12_copy 59 = .ok (.ireturn, 1) := by decide +kernel
theorem dX12_copy_60 : decode cX12_copy 60 = .ok (.aload_n 0, 1) := by decide +kernel
theorem dX12_copy_61 : decode cX12_copy 61 = .ok (.iload_n 1, 1) := by decide +kernel
theorem dX12_copy_62 : decode cX12_copy 62 = .ok (.iload_n 2, 1) := by decide +kernel
theorem dX12_copy_63 : decode cX12_copy 63 = .ok (.iload 5, 2) := by decide +kernel
theorem dX12_copy_65 : decode cX12_copy 65 = .ok (.invokevirtual 73, 3) := by decide +kernel
theorem dX12_copy_68 : decode cX12_copy 68 = .ok (.ifCond .eq 15, 3) := by decide +kernel
theorem dX12_copy_71 : decode cX12_copy 71 = .ok (.aload_n 0, 1) := by decide +kernel
theorem dX12_copy_72 : decode cX12_copy 72 = .ok (.iload_n 3, 1) := by decide +kernel
theorem dX12_copy_73 : decode cX12_copy 73 = .ok (.iload 4, 2) := by decide +kernel
theorem dX12_copy_75 : decode cX12_copy 75 = .ok (.iload 5, 2) := by decide +kernel
theorem dX12_copy_77 : decode cX12_copy 77 = .ok (.invokevirtual 73, 3) := by decide +kernel
theorem dX12_copy_80 : decode cX12_copy 80 = .ok (.ifCond .ne 9, 3) := by decide +kernel
theorem dX12_copy_83 : decode cX12_copy 83 = .ok (.aload_n 0, 1) := by decide +kernel
theorem dX12_copy_84 : decode cX12_copy 84 = .ok (.iconst 2, 1) := by decide +kernel
theorem dX12_copy_85 : decode cX12_copy 85 = .ok (.invokevirtual 59, 3) := by decide +kernel
theorem dX12_copy_88 : decode cX12_copy 88 = .ok (.ireturn, 1) := by decide +kernel
theorem dX12_copy_89 : decode cX12_copy 89 = .ok (.iconst 0, 1) := by decide +kernel
theorem dX12_copy_90 : decode cX12_copy 90 = .ok (.istore 6, 2) := by decide +kernel
theorem dX12_copy_92 : decode cX12_copy 92 = .ok (.iload 6, 2) := by decide +kernel
theorem dX12_copy_94 : decode cX12_copy 94 = .ok (.iload 5, 2) := by decide +kernel
theorem dX12_copy_96 : decode cX12_copy 96 = .ok (.if_icmp .ge 30, 3) := by decide +kernel
theorem dX12_copy_99 : decode cX12_copy 99 = .ok (.aload_n 0, 1) := by decide +kernel
theorem dX12_copy_100 : decode cX12_copy 100 = .ok (.getfield 19, 3) := by decide +kernel
theorem dX12_copy_103 : decode cX12_copy 103 = .ok (.iload 6, 2) := by decide +kernel
theorem dX12_copy_105 : decode cX12_copy 105 = .ok (.aload_n 0, 1) := by decide +kernel
theorem dX12_copy_106 : decode cX12_copy 106 = .ok (.getfield 16, 3) := by decide +kernel
theorem dX12_copy_109 : decode cX12_copy 109 = .ok (.bipush 40, 2) := by decide +kernel
theorem dX12_copy_111 : decode cX12_copy 111 = .ok (.iload_n 1, 1) := by decide +kernel
theorem dX12_copy_112 : decode cX12_copy 112 = .ok (.imul, 1) := by decide +kernel
theorem dX12_copy_113 : decode cX12_copy 113 = .ok (.iload_n 2, 1) := by decide +kernel
theorem dX12_copy_114 : decode cX12_copy 114 = .ok (.iadd, 1) := by decide +kernel
theorem dX12_copy_115 : decode cX12_copy 115 = .ok (.iload 6, 2) := by decide +kernel
theorem dX12_copy_117 : decode cX12_copy 117 = .ok (.iadd, 1) := by decide +kernel
theorem dX12_copy_118 : decode cX12_copy 118 = .ok (.iaload, 1) := by decide +kernel
theorem dX12_copy_119 : decode cX12_copy 119 = .ok (.iastore, 1) := by decide +kernel
theorem dX12_copy_120 : decode cX12_copy 120 = .ok (.iinc 6 1, 3) := by decide +kernel
theorem dX12_copy_123 : decode cX12_copy 123 = .ok (.goto (-31), 3) := by decide +kernel
theorem dX12_copy_126 : decode cX12_copy 126 = .ok (.iconst 0, 1) := by decide +kernel
theorem dX12_copy_127 : decode cX12_copy 127 = .ok (.istore 6, 2) := by decide +kernel
theorem dX12_copy_129 : decode cX12_copy 129 = .ok (.iload 6, 2) := by decide +kernel
theorem dX12_copy_131 : decode cX12_copy 131 = .ok (.iload 5, 2) := by decide +kernel
theorem dX12_copy_133 : decode cX12_copy 133 = .ok (.if_icmp .ge 31, 3) := by decide +kernel
theorem dX12_copy_136 : decode cX12_copy 136 = .ok (.aload_n 0, 1) := by decide +kernel
theorem dX12_copy_137 : decode cX12_copy 137 = .ok (.getfield 16, 3) := by decide +kernel
theorem dX12_copy_140 : decode cX12_copy 140 = .ok (.bipush 40, 2) := by decide +kernel
theorem dX12_copy_142 : decode cX12_copy 142 = .ok (.iload_n 3, 1) := by decide +kernel
theorem dX12_copy_143 : decode cX12_copy 143 = .ok (.imul, 1) := by decide +kernel
theorem dX12_copy_144 : decode cX12_copy 144 = .ok (.iload 4, 2) := by decide +kernel
theorem dX12_copy_146 : decode cX12_copy 146 = .ok (.iadd, 1) := by decide +kernel
theorem dX12_copy_147 : decode cX12_copy 147 = .ok (.iload 6, 2) := by decide +kernel
theorem dX12_copy_149 : decode cX12_copy 149 = .ok (.iadd, 1) := by decide +kernel
theorem dX12_copy_150 : decode cX12_copy 150 = .ok (.aload_n 0, 1) := by decide +kernel
theorem dX12_copy_151 : decode cX12_copy 151 = .ok (.getfield 19, 3) := by decide +kernel
theorem dX12_copy_154 : decode cX12_copy 154 = .ok (.iload 6, 2) := by decide +kernel
theorem dX12_copy_156 : decode cX12_copy 156 = .ok (.iaload, 1) := by decide +kernel
theorem dX12_copy_157 : decode cX12_copy 157 = .ok (.iastore, 1) := by decide +kernel
theorem dX12_copy_158 : decode cX12_copy 158 = .ok (.iinc 6 1, 3) := by decide +kernel
theorem dX12_copy_161 : decode cX12_copy 161 = .ok (.goto (-32), 3) := by decide +kernel
theorem dX12_copy_164 : decode cX12_copy 164 = .ok (.aload_n 0, 1) := by decide +kernel
theorem dX12_copy_165 : decode cX12_copy 165 = .ok (.iload 5, 2) := by decide +kernel
theorem dX12_copy_167 : decode cX12_copy 167 = .ok (.invokevirtual 63, 3) := by decide +kernel
theorem dX12_copy_170 : decode cX12_copy 170 = .ok (.ireturn, 1) := by decide +kernel
set_option maxRecDepth 20000 in
theorem ggX12_drop_X12_isRow : GoodIn wsX12_drop wsX12_isRow := goodIn_r _ [8, 9, 10, 7, 11] (by decide +kernel) (by decide +kernel)
set_option maxRecDepth 20000 in
theorem gX12_drop_X12_isRow : GoodIn wsX12_drop (va_wsS RX12 54 yX12_isRow wsX12_isRow) := goodIn_app (goodIn_of _ (by decide +kernel)) ggX12_drop_X12_isRow
set_option maxRecDepth 20000 in
theorem ggX12_drop_X12_isMissing : GoodIn wsX12_drop wsX12_isMissing := goodIn_r _ [15, 2, 3, 26, 27, 28, 29, 30, 31, 32, 33, 34, 35, 36, 37, 38, 39, 40, 41, 42, 43, 44, 45, 46] (by decide +kernel) (by decide +kernel)
set_option maxRecDepth 20000 in
theorem gX12_drop_X12_isMissing : GoodIn wsX12_drop (wsV RX12 66 RX12 yX12_isMissing wsX12_isMissing) := goodIn_app (goodIn_of _ (by decide +kernel)) ggX12_drop_X12_isMissing
set_option maxRecDepth 20000 in
theorem ggX12_drop_X12_found : GoodIn wsX12_drop wsX12_found := goodIn_r _ [19, 20, 21, 26, 27, 28, 29, 30, 31, 32, 33, 34, 35, 36, 37, 38, 39, 40, 41, 42, 43, 44, 45, 46] (by decide +kernel) (by decide +kernel)
set_option maxRecDepth 20000 in
theorem gX12_drop_X12_found : GoodIn wsX12_drop (wsV RX12 59 RX12 yX12_found wsX12_found) := goodIn_app (goodIn_of _ (by decide +kernel)) ggX12_drop_X12_found
set_option maxRecDepth 20000 in
theorem ggX12_drop_X12_well : GoodIn wsX12_drop wsX12_well := goodIn_r _ [25, 20, 26, 27, 28, 29, 30, 31, 32, 33, 34, 35, 36, 37, 38, 39, 40, 41, 42, 43, 44, 45, 46] (by decide +kernel) (by decide +kernel)
set_option maxRecDepth 20000 in
theorem gX12_drop_X12_well : GoodIn wsX12_drop (wsV RX12 63 RX12 yX12_well wsX12_well) := goodIn_app (goodIn_of _ (by decide +kernel)) ggX12_drop_X12_well
theorem dX12_drop_0 : decode cX12_drop 0 = .ok (.iload_n 1, 1) := by decide +kernel
theorem dX12_drop_1 : decode cX12_drop 1 = .ok (.invokestatic 54, 3) := by decide +kernel
theorem dX12_drop_4 : decode cX12_drop 4 = .ok (.ifCond .ne 6, 3) := by decide +kernel
theorem dX12_drop_7 : decode cX12_drop 7 = .ok (.ldc 58, 2) := by decide +kernel
theorem dX12_drop_9 : decode cX12_drop 9 = .ok (.ireturn, 1) := by decide +kernel
theorem dX12_drop_10 : decode cX12_drop 10 = .ok (.aload_n 0, 1) := by decide +kernel
theorem dX12_drop_11 : decode cX12_drop 11 = .ok (.iload_n 1, 1) := by decide +kernel
theorem dX12_drop_12 : decode cX12_drop 12 = .ok (.invokevirtual 66, 3) := by decide +kernel
theorem dX12_drop_15 : decode cX12_drop 15 = .ok (.ifCond .eq 9, 3) := by decide +kernel
theorem dX12_drop_18 : decode cX12_drop 18 = .ok (.aload_n 0, 1) := by decide +kernel
theorem dX12_drop_19 : decode cX12_drop 19 = .ok (.iconst 1, 1) := by decide +kernel
theorem dX12_drop_20 : decode cX12_drop 20 = .ok (.invokevirtual 59, 3) := by decide +kernel
theorem dX12_drop_23 : decode cX12_drop 23 = .ok (.ireturn, 1) := by decide +kernel
theorem dX12_drop_24 : decode cX12_drop 24 = .ok (.aload_n 0, 1) := by decide +kernel
theorem dX12_drop_25 : decode cX12_drop 25 = .ok (.getfield 7, 3) := by decide +kernel
theorem dX12_drop_28 : decode cX12_drop 28 = .ok (.iload_n 1, 1) := by decide +kernel
theorem dX12_drop_29 : decode cX12_drop 29 = .ok (.ldc 44, 2) := by decide +kernel
theorem dX12_drop_31 : decode cX12_drop 31 = .ok (.iastore, 1) := by decide +kernel
theorem dX12_drop_32 : decode cX12_drop 32 = .ok (.aload_n 0, 1) := by decide +kernel
theorem dX12_drop_33 : decode cX12_drop 33 = .ok (.aload_n 0, 1) := by decide +kernel
theorem dX12_drop_34 : decode cX12_drop 34 = .ok (.getfield 13, 3) := by decide +kernel
theorem dX12_drop_37 : decode cX12_drop 37 = .ok (.iload_n 1, 1) := by decide +kernel
theorem dX12_drop_38 : decode cX12_drop 38 = .ok (.iaload, 1) := by decide +kernel
theorem dX12_drop_39 : decode cX12_drop 39 = .ok (.invokevirtual 63, 3) := by decide +kernel
theorem dX12_drop_42 : decode cX12_drop 42 = .ok (.ireturn, 1) := by decide +kernel
set_option maxRecDepth 20000 in
theorem ggX12_feed_X12_in : GoodIn wsX12_feed wsX12_in := goodIn_r _ [8] (by decide +kernel) (by decide +kernel)
set_option maxRecDepth 20000 in
theorem gX12_feed_X12_in : GoodIn wsX12_feed (va_wsS RX12 50 yX12_in wsX12_in) := goodIn_app (goodIn_of _ (by decide +kernel)) ggX12_feed_X12_in
theorem dX12_feed_0 : decode cX12_feed 0 = .ok (.iload_n 1, 1) := by decide +kernel
theorem dX12_feed_1 : decode cX12_feed 1 = .ok (.iconst 0, 1) := by decide +kernel
theorem dX12_feed_2 : decode cX12_feed 2 = .ok (.sipush 255, 3) := by decide +kernel
theorem dX12_feed_5 : decode cX12_feed 5 = .ok (.invokestatic 50, 3) := by decide +kernel
theorem dX12_feed_8 : decode cX12_feed 8 = .ok (.ifCond .ne 6, 3) := by decide +kernel
theorem dX12_feed_11 : decode cX12_feed 11 = .ok (.ldc 58, 2) := by decide +kernel
theorem dX12_feed_13 : decode cX12_feed 13 = .ok (.ireturn, 1) := by decide +kernel
theorem dX12_feed_14 : decode cX12_feed 14 = .ok (.aload_n 0, 1) := by decide +kernel
theorem dX12_feed_15 : decode cX12_feed 15 = .ok (.getfield 76, 3) := by decide +kernel
theorem dX12_feed_18 : decode cX12_feed 18 = .ok (.bipush 120, 2) := by decide +kernel
theorem dX12_feed_20 : decode cX12_feed 20 = .ok (.if_icmp .ne 6, 3) := by decide +kernel
theorem dX12_feed_23 : decode cX12_feed 23 = .ok (.ldc 79, 2) := by decide +kernel
theorem dX12_feed_25 : decode cX12_feed 25 = .ok (.ireturn, 1) := by decide +kernel
theorem dX12_feed_26 : decode cX12_feed 26 = .ok (.aload_n 0, 1) := by decide +kernel
theorem dX12_feed_27 : decode cX12_feed 27 = .ok (.getfield 22, 3) := by decide +kernel
theorem dX12_feed_30 : decode cX12_feed 30 = .ok (.aload_n 0, 1) := by decide +kernel
theorem dX12_feed_31 : decode cX12_feed 31 = .ok (.getfield 76, 3) := by decide +kernel
theorem dX12_feed_34 : decode cX12_feed 34 = .ok (.iload_n 1, 1) := by decide +kernel
theorem dX12_feed_35 : decode cX12_feed 35 = .ok (.iastore, 1) := by decide +kernel
theorem dX12_feed_36 : decode cX12_feed 36 = .ok (.aload_n 0, 1) := by decide +kernel
theorem dX12_feed_37 : decode cX12_feed 37 = .ok (.dup, 1) := by decide +kernel
theorem dX12_feed_38 : decode cX12_feed 38 = .ok (.getfield 76, 3) := by decide +kernel
theorem dX12_feed_41 : decode cX12_feed 41 = .ok (.iconst 1, 1) := by decide +kernel
theorem dX12_feed_42 : decode cX12_feed 42 = .ok (.iadd, 1) := by decide +kernel
theorem dX12_feed_43 : decode cX12_feed 43 = .ok (.putfield 76, 3) := by decide +kernel
theorem dX12_feed_46 : decode cX12_feed 46 = .ok (.aload_n 0, 1) := by decide +kernel
theorem dX12_feed_47 : decode cX12_feed 47 = .ok (.getfield 76, 3) := by decide +kernel
theorem dX12_feed_50 : decode cX12_feed 50 = .ok (.ireturn, 1) := by decide +kernel
theorem dX12_byteAt_0 : decode cX12_byteAt 0 = .ok (.iload_n 1, 1) := by decide +kernel
