theorem dX12_byteAt_1 : decode cX12_byteAt 1 = .ok (.aload_n 0, 1) := by decide +kernel
theorem dX12_byteAt_2 : decode cX12_byteAt 2 = .ok (.getfield 76, 3) := by decide +kernel
theorem dX12_byteAt_5 : decode cX12_byteAt 5 = .ok (.if_icmp .ge 12, 3) := by decide +kernel
theorem dX12_byteAt_8 : decode cX12_byteAt 8 = .ok (.aload_n 0, 1) := by decide +kernel
theorem dX12_byteAt_9 : decode cX12_byteAt 9 = .ok (.getfield 22, 3) := by decide +kernel
theorem dX12_byteAt_12 : decode cX12_byteAt 12 = .ok (.iload_n 1, 1) := by decide +kernel
theorem dX12_byteAt_13 : decode cX12_byteAt 13 = .ok (.iaload, 1) := by decide +kernel
theorem dX12_byteAt_14 : decode cX12_byteAt 14 = .ok (.goto 4, 3) := by decide +kernel
theorem dX12_byteAt_17 : decode cX12_byteAt 17 = .ok (.iconst (-1), 1) := by decide +kernel
theorem dX12_byteAt_18 : decode cX12_byteAt 18 = .ok (.ireturn, 1) := by decide +kernel
set_option maxRecDepth 20000 in
theorem ggX12_advances_X12_byteAt : GoodIn wsX12_advances wsX12_byteAt := goodIn_r _ [9, 10, 11, 15, 16, 17, 18, 19, 20, 21, 22, 23, 24, 25, 26, 27, 28, 29, 30, 31, 32, 33, 34, 35] (by decide +kernel) (by decide +kernel)
set_option maxRecDepth 20000 in
theorem gX12_advances_X12_byteAt : GoodIn wsX12_advances (wsV RX12 86 RX12 yX12_byteAt wsX12_byteAt) := goodIn_app (goodIn_of _ (by decide +kernel)) ggX12_advances_X12_byteAt
set_option maxRecDepth 20000 in
theorem ggX12_advances_X12_in : GoodIn wsX12_advances wsX12_in := goodIn_r _ [14] (by decide +kernel) (by decide +kernel)
set_option maxRecDepth 20000 in
theorem gX12_advances_X12_in : GoodIn wsX12_advances (va_wsS RX12 50 yX12_in wsX12_in) := goodIn_app (goodIn_of _ (by decide +kernel)) ggX12_advances_X12_in
theorem dX12_advances_0 : decode cX12_advances 0 = .ok (.aload_n 0, 1) := by decide +kernel
theorem dX12_advances_1 : decode cX12_advances 1 = .ok (.aload_n 0, 1) := by decide +kernel
theorem dX12_advances_2 : decode cX12_advances 2 = .ok (.getfield 80, 3) := by decide +kernel
theorem dX12_advances_5 : decode cX12_advances 5 = .ok (.putfield 83, 3) := by decide +kernel
theorem dX12_advances_8 : decode cX12_advances 8 = .ok (.aload_n 0, 1) := by decide +kernel
theorem dX12_advances_9 : decode cX12_advances 9 = .ok (.aload_n 0, 1) := by decide +kernel
theorem dX12_advances_10 : decode cX12_advances 10 = .ok (.getfield 80, 3) := by decide +kernel
theorem dX12_advances_13 : decode cX12_advances 13 = .ok (.invokevirtual 86, 3) := by decide +kernel
theorem dX12_advances_16 : decode cX12_advances 16 = .ok (.istore_n 1, 1) := by decide +kernel
theorem dX12_advances_17 : decode cX12_advances 17 = .ok (.aload_n 0, 1) := by decide +kernel
theorem dX12_advances_18 : decode cX12_advances 18 = .ok (.iload_n 1, 1) := by decide +kernel
theorem dX12_advances_19 : decode cX12_advances 19 = .ok (.putfield 89, 3) := by decide +kernel
theorem dX12_advances_22 : decode cX12_advances 22 = .ok (.iload_n 1, 1) := by decide +kernel
theorem dX12_advances_23 : decode cX12_advances 23 = .ok (.bipush 48, 2) := by decide +kernel
theorem dX12_advances_25 : decode cX12_advances 25 = .ok (.bipush 57, 2) := by decide +kernel
theorem dX12_advances_27 : decode cX12_advances 27 = .ok (.invokestatic 50, 3) := by decide +kernel
theorem dX12_advances_30 : decode cX12_advances 30 = .ok (.ifCond .eq 105, 3) := by decide +kernel
theorem dX12_advances_33 : decode cX12_advances 33 = .ok (.aload_n 0, 1) := by decide +kernel
theorem dX12_advances_34 : decode cX12_advances 34 = .ok (.iconst 0, 1) := by decide +kernel
theorem dX12_advances_35 : decode cX12_advances 35 = .ok (.putfield 89, 3) := by decide +kernel
theorem dX12_advances_38 : decode cX12_advances 38 = .ok (.aload_n 0, 1) := by decide +kernel
theorem dX12_advances_39 : decode cX12_advances 39 = .ok (.aload_n 0, 1) := by decide +kernel
theorem dX12_advances_40 : decode cX12_advances 40 = .ok (.getfield 80, 3) := by decide +kernel
theorem dX12_advances_43 : decode cX12_advances 43 = .ok (.invokevirtual 86, 3) := by decide +kernel
theorem dX12_advances_46 : decode cX12_advances 46 = .ok (.bipush 48, 2) := by decide +kernel
theorem dX12_advances_48 : decode cX12_advances 48 = .ok (.bipush 57, 2) := by decide +kernel
theorem dX12_advances_50 : decode cX12_advances 50 = .ok (.invokestatic 50, 3) := by decide +kernel
theorem dX12_advances_53 : decode cX12_advances 53 = .ok (.ifCond .eq 59, 3) := by decide +kernel
theorem dX12_advances_56 : decode cX12_advances 56 = .ok (.aload_n 0, 1) := by decide +kernel
theorem dX12_advances_57 : decode cX12_advances 57 = .ok (.aload_n 0, 1) := by decide +kernel
theorem dX12_advances_58 : decode cX12_advances 58 = .ok (.getfield 80, 3) := by decide +kernel
theorem dX12_advances_61 : decode cX12_advances 61 = .ok (.aload_n 0, 1) := by decide +kernel
theorem dX12_advances_62 : decode cX12_advances 62 = .ok (.getfield 83, 3) := by decide +kernel
theorem dX12_advances_65 : decode cX12_advances 65 = .ok (.isub, 1) := by decide +kernel
theorem dX12_advances_66 : decode cX12_advances 66 = .ok (.iconst 2, 1) := by decide +kernel
theorem dX12_advances_67 : decode cX12_advances 67 = .ok (.if_icmp .ge 25, 3) := by decide +kernel
theorem dX12_advances_70 : decode cX12_advances 70 = .ok (.bipush 10, 2) := by decide +kernel
theorem dX12_advances_72 : decode cX12_advances 72 = .ok (.aload_n 0, 1) := by decide +kernel
theorem dX12_advances_73 : decode cX12_advances 73 = .ok (.getfield 89, 3) := by decide +kernel
theorem dX12_advances_76 : decode cX12_advances 76 = .ok (.imul, 1) := by decide +kernel
theorem dX12_advances_77 : decode cX12_advances 77 = .ok (.aload_n 0, 1) := by decide +kernel
theorem dX12_advances_78 : decode cX12_advances 78 = .ok (.aload_n 0, 1) := by decide +kernel
theorem dX12_advances_79 : decode cX12_advances 79 = .ok (.getfield 80, 3) := by decide +kernel
theorem dX12_advances_82 : decode cX12_advances 82 = .ok (.invokevirtual 86, 3) := by decide +kernel
theorem dX12_advances_85 : decode cX12_advances 85 = .ok (.iadd, 1) := by decide +kernel
theorem dX12_advances_86 : decode cX12_advances 86 = .ok (.bipush 48, 2) := by decide +kernel
theorem dX12_advances_88 : decode cX12_advances 88 = .ok (.isub, 1) := by decide +kernel
theorem dX12_advances_89 : decode cX12_advances 89 = .ok (.goto 7, 3) := by decide +kernel
theorem dX12_advances_92 : decode cX12_advances 92 = .ok (.aload_n 0, 1) := by decide +kernel
theorem dX12_advances_93 : decode cX12_advances 93 = .ok (.getfield 89, 3) := by decide +kernel
theorem dX12_advances_96 : decode cX12_advances 96 = .ok (.putfield 89, 3) := by decide +kernel
theorem dX12_advances_99 : decode cX12_advances 99 = .ok (.aload_n 0, 1) := by decide +kernel
theorem dX12_advances_100 : decode cX12_advances 100 = .ok (.dup, 1) := by decide +kernel
theorem dX12_advances_101 : decode cX12_advances 101 = .ok (.getfield 80, 3) := by decide +kernel
theorem dX12_advances_104 : decode cX12_advances 104 = .ok (.iconst 1, 1) := by decide +kernel
theorem dX12_advances_105 : decode cX12_advances 105 = .ok (.iadd, 1) := by decide +kernel
theorem dX12_advances_106 : decode cX12_advances 106 = .ok (.putfield 80, 3) := by decide +kernel
theorem dX12_advances_109 : decode cX12_advances 109 = .ok (.goto (-71), 3) := by decide +kernel
theorem dX12_advances_112 : decode cX12_advances 112 = .ok (.aload_n 0, 1) := by decide +kernel
theorem dX12_advances_113 : decode cX12_advances 113 = .ok (.aload_n 0, 1) := by decide +kernel
theorem dX12_advances_114 : decode cX12_advances 114 = .ok (.getfield 80, 3) := by decide +kernel
theorem dX12_advances_117 : decode cX12_advances 117 = .ok (.aload_n 0, 1) := by decide +kernel
theorem dX12_advances_118 : decode cX12_advances 118 = .ok (.getfield 83, 3) := by decide +kernel
theorem dX12_advances_121 : decode cX12_advances 121 = .ok (.isub, 1) := by decide +kernel
theorem dX12_advances_122 : decode cX12_advances 122 = .ok (.iconst 3, 1) := by decide +kernel
theorem dX12_advances_123 : decode cX12_advances 123 = .ok (.if_icmp .ge 7, 3) := by decide +kernel
theorem dX12_advances_126 : decode cX12_advances 126 = .ok (.iconst 2, 1) := by decide +kernel
theorem dX12_advances_127 : decode cX12_advances 127 = .ok (.goto 4, 3) := by decide +kernel
theorem dX12_advances_130 : decode cX12_advances 130 = .ok (.iconst 5, 1) := by decide +kernel
theorem dX12_advances_131 : decode cX12_advances 131 = .ok (.putfield 92, 3) := by decide +kernel
theorem dX12_advances_134 : decode cX12_advances 134 = .ok (.return_, 1) := by decide +kernel
theorem dX12_advances_135 : decode cX12_advances 135 = .ok (.aload_n 0, 1) := by decide +kernel
theorem dX12_advances_136 : decode cX12_advances 136 = .ok (.iload_n 1, 1) := by decide +kernel
theorem dX12_advances_137 : decode cX12_advances 137 = .ok (.ifCond .ge 7, 3) := by decide +kernel
theorem dX12_advances_140 : decode cX12_advances 140 = .ok (.iconst 0, 1) := by decide +kernel
theorem dX12_advances_141 : decode cX12_advances 141 = .ok (.goto 39, 3) := by decide +kernel
theorem dX12_advances_144 : decode cX12_advances 144 = .ok (.iload_n 1, 1) := by decide +kernel
theorem dX12_advances_145 : decode cX12_advances 145 = .ok (.bipush 97, 2) := by decide +kernel
theorem dX12_advances_147 : decode cX12_advances 147 = .ok (.bipush 122, 2) := by decide +kernel
theorem dX12_advances_149 : decode cX12_advances 149 = .ok (.invokestatic 50, 3) := by decide +kernel
theorem dX12_advances_152 : decode cX12_advances 152 = .ok (.ifCond .eq 7, 3) := by decide +kernel
theorem dX12_advances_155 : decode cX12_advances 155 = .ok (.iconst 1, 1) := by decide +kernel
theorem dX12_advances_156 : decode cX12_advances 156 = .ok (.goto 24, 3) := by decide +kernel
theorem dX12_advances_159 : decode cX12_advances 159 = .ok (.iload_n 1, 1) := by decide +kernel
theorem dX12_advances_160 : decode cX12_advances 160 = .ok (.bipush 44, 2) := by decide +kernel
theorem dX12_advances_162 : decode cX12_advances 162 = .ok (.if_icmp .ne 7, 3) := by decide +kernel
theorem dX12_advances_165 : decode cX12_advances 165 = .ok (.iconst 3, 1) := by decide +kernel
theorem dX12_advances_166 : decode cX12_advances 166 = .ok (.goto 14, 3) := by decide +kernel
theorem dX12_advances_169 : decode cX12_advances 169 = .ok (.iload_n 1, 1) := by decide +kernel
theorem dX12_advances_170 : decode cX12_advances 170 = .ok (.bipush 59, 2) := by decide +kernel
theorem dX12_advances_172 : decode cX12_advances 172 = .ok (.if_icmp .ne 7, 3) := by decide +kernel
theorem dX12_advances_175 : decode cX12_advances 175 = .ok (.iconst 4, 1) := by decide +kernel
theorem dX12_advances_176 : decode cX12_advances 176 = .ok (.goto 4, 3) := by decide +kernel
theorem dX12_advances_179 : decode cX12_advances 179 = .ok (.iconst 5, 1) := by decide +kernel
theorem dX12_advances_180 : decode cX12_advances 180 = .ok (.putfield 92, 3) := by decide +kernel
theorem dX12_advances_183 : decode cX12_advances 183 = .ok (.aload_n 0, 1) := by decide +kernel
theorem dX12_advances_184 : decode cX12_advances 184 = .ok (.dup, 1) := by decide +kernel
theorem dX12_advances_185 : decode cX12_advances 185 = .ok (.getfield 80, 3) := by decide +kernel
theorem dX12_advances_188 : decode cX12_advances 188 = .ok (.aload_n 0, 1) := by decide +kernel
theorem dX12_advances_189 : decode cX12_advances 189 = .ok (.getfield 92, 3) := by decide +kernel
theorem dX12_advances_192 : decode cX12_advances 192 = .ok (.ifCond .ne 7, 3) := by decide +kernel
theorem dX12_advances_195 : decode cX12_advances 195 = .ok (.iconst 0, 1) := by decide +kernel
theorem dX12_advances_196 : decode cX12_advances 196 = .ok (.goto 4, 3) := by decide +kernel
theorem dX12_advances_199 : decode cX12_advances 199 = .ok (.iconst 1, 1) := by decide +kernel
theorem dX12_advances_200 : decode cX12_advances 200 = .ok (.iadd, 1) := by decide +kernel
theorem dX12_advances_201 : decode cX12_advances 201 = .ok (.putfield 80, 3) := by decide +kernel
theorem dX12_advances_204 : decode cX12_advances 204 = .ok (.return_, 1) := by decide +kernel
theorem dX12_isWell_0 : decode cX12_isWell 0 = .ok (.aload_n 0, 1) := by decide +kernel
theorem dX12_isWell_1 : decode cX12_isWell 1 = .ok (.getfield 95, 3) := by decide +kernel
theorem dX12_isWell_4 : decode cX12_isWell 4 = .ok (.ifCond .ge 7, 3) := by decide +kernel
theorem dX12_isWell_7 : decode cX12_isWell 7 = .ok (.iconst 1, 1) := by decide +kernel
theorem dX12_isWell_8 : decode cX12_isWell 8 = .ok (.goto 4, 3) := by decide +kernel
theorem dX12_isWell_11 : decode cX12_isWell 11 = .ok (.iconst 0, 1) := by decide +kernel
theorem dX12_isWell_12 : decode cX12_isWell 12 = .ok (.ireturn, 1) := by decide +kernel
set_option maxRecDepth 20000 in
theorem ggX12_takes_X12_isWell : GoodIn wsX12_takes wsX12_isWell := goodIn_r _ [9, 2, 25, 26, 27, 28, 29, 30, 31, 32, 33, 34, 35, 36, 37, 38, 39, 40, 41, 42, 43, 44, 45] (by decide +kernel) (by decide +kernel)
set_option maxRecDepth 20000 in
theorem gX12_takes_X12_isWell : GoodIn wsX12_takes (wsV RX12 98 RX12 yX12_isWell wsX12_isWell) := goodIn_app (goodIn_of _ (by decide +kernel)) ggX12_takes_X12_isWell
set_option maxRecDepth 20000 in
theorem ggX12_takes_X12_advances : GoodIn wsX12_takes wsX12_advances := goodIn_r _ [13, 14, 1, 4, 15, 16, 17, 18, 8, 19, 20, 21, 22, 23, 24, 25, 26, 27, 28, 29, 30, 31, 32, 33, 34, 35, 36, 37, 38, 39, 40, 41, 42, 43, 44, 45] (by decide +kernel) (by decide +kernel)
set_option maxRecDepth 20000 in
theorem gX12_takes_X12_advances : GoodIn wsX12_takes (wsV RX12 105 RX12 yX12_advances wsX12_advances) := goodIn_app (goodIn_of _ (by decide +kernel)) ggX12_takes_X12_advances
theorem dX12_takes_0 : decode cX12_takes 0 = .ok (.aload_n 0, 1) := by decide +kernel
theorem dX12_takes_1 : decode cX12_takes 1 = .ok (.invokevirtual 98, 3) := by decide +kernel
theorem dX12_takes_4 : decode cX12_takes 4 = .ok (.ifCond .ne 5, 3) := by decide +kernel
theorem dX12_takes_7 : decode cX12_takes 7 = .ok (.iconst 0, 1) := by decide +kernel
theorem dX12_takes_8 : decode cX12_takes 8 = .ok (.ireturn, 1) := by decide +kernel
theorem dX12_takes_9 : decode cX12_takes 9 = .ok (.iload_n 1, 1) := by decide +kernel
theorem dX12_takes_10 : decode cX12_takes 10 = .ok (.ifCond .ne 18, 3) := by decide +kernel
theorem dX12_takes_13 : decode cX12_takes 13 = .ok (.aload_n 0, 1) := by decide +kernel
theorem dX12_takes_14 : decode cX12_takes 14 = .ok (.aload_n 0, 1) := by decide +kernel
theorem dX12_takes_15 : decode cX12_takes 15 = .ok (.getfield 83, 3) := by decide +kernel
theorem dX12_takes_18 : decode cX12_takes 18 = .ok (.putfield 95, 3) := by decide +kernel
theorem dX12_takes_21 : decode cX12_takes 21 = .ok (.aload_n 0, 1) := by decide +kernel
theorem dX12_takes_22 : decode cX12_takes 22 = .ok (.iload_n 2, 1) := by decide +kernel
theorem dX12_takes_23 : decode cX12_takes 23 = .ok (.putfield 102, 3) := by decide +kernel
theorem dX12_takes_26 : decode cX12_takes 26 = .ok (.iconst 0, 1) := by decide +kernel
theorem dX12_takes_27 : decode cX12_takes 27 = .ok (.ireturn, 1) := by decide +kernel
theorem dX12_takes_28 : decode cX12_takes 28 = .ok (.aload_n 0, 1) := by decide +kernel
theorem dX12_takes_29 : decode cX12_takes 29 = .ok (.getfield 89, 3) := by decide +kernel
theorem dX12_takes_32 : decode cX12_takes 32 = .ok (.istore_n 3, 1) := by decide +kernel
theorem dX12_takes_33 : decode cX12_takes 33 = .ok (.aload_n 0, 1) := by decide +kernel
theorem dX12_takes_34 : decode cX12_takes 34 = .ok (.invokevirtual 105, 3) := by decide +kernel
theorem dX12_takes_37 : decode cX12_takes 37 = .ok (.iload_n 3, 1) := by decide +kernel
theorem dX12_takes_38 : decode cX12_takes 38 = .ok (.ireturn, 1) := by decide +kernel
set_option maxRecDepth 20000 in
theorem ggX12_figure_X12_isWell : GoodIn wsX12_figure wsX12_isWell := goodIn_r _ [7, 8, 29, 30, 31, 32, 33, 34, 35, 36, 37, 38, 39, 40, 41, 42, 43, 44, 45, 46, 47, 48, 49] (by decide +kernel) (by decide +kernel)
set_option maxRecDepth 20000 in
theorem gX12_figure_X12_isWell : GoodIn wsX12_figure (wsV RX12 98 RX12 yX12_isWell wsX12_isWell) := goodIn_app (goodIn_of _ (by decide +kernel)) ggX12_figure_X12_isWell
set_option maxRecDepth 20000 in
theorem ggX12_figure_X12_takes : GoodIn wsX12_figure wsX12_takes := goodIn_r _ [12, 13, 8, 14, 2, 3, 4, 5, 6, 7, 15, 16, 17, 18, 19, 1, 20, 21, 22, 23, 24, 25, 26, 27, 28, 29, 30, 31, 32, 33, 34, 35, 36, 37, 38, 39, 40, 41, 42, 43, 44, 45, 46, 47, 48, 49] (by decide +kernel) (by decide +kernel)
set_option maxRecDepth 20000 in
theorem gX12_figure_X12_takes : GoodIn wsX12_figure (wsV RX12 108 RX12 yX12_takes wsX12_takes) := goodIn_app (goodIn_of _ (by decide +kernel)) ggX12_figure_X12_takes
set_option maxRecDepth 20000 in
theorem ggX12_figure_X12_in : GoodIn wsX12_figure wsX12_in := goodIn_r _ [28] (by decide +kernel) (by decide +kernel)
set_option maxRecDepth 20000 in
theorem gX12_figure_X12_in : GoodIn wsX12_figure (va_wsS RX12 50 yX12_in wsX12_in) := goodIn_app (goodIn_of _ (by decide +kernel)) ggX12_figure_X12_in
theorem dX12_figure_0 : decode cX12_figure 0 = .ok (.aload_n 0, 1) := by decide +kernel
theorem dX12_figure_1 : decode cX12_figure 1 = .ok (.invokevirtual 98, 3) := by decide +kernel
theorem dX12_figure_4 : decode cX12_figure 4 = .ok (.ifCond .eq 18, 3) := by decide +kernel
theorem dX12_figure_7 : decode cX12_figure 7 = .ok (.aload_n 0, 1) := by decide +kernel
theorem dX12_figure_8 : decode cX12_figure 8 = .ok (.getfield 92, 3) := by decide +kernel
theorem dX12_figure_11 : decode cX12_figure 11 = .ok (.iconst 2, 1) := by decide +kernel
theorem dX12_figure_12 : decode cX12_figure 12 = .ok (.if_icmp .eq 10, 3) := by decide +kernel
theorem dX12_figure_15 : decode cX12_figure 15 = .ok (.aload_n 0, 1) := by decide +kernel
theorem dX12_figure_16 : decode cX12_figure 16 = .ok (.iconst 0, 1) := by decide +kernel
theorem dX12_figure_17 : decode cX12_figure 17 = .ok (.iconst 1, 1) := by decide +kernel
theorem dX12_figure_18 : decode cX12_figure 18 = .ok (.invokevirtual 108, 3) := by decide +kernel
theorem dX12_figure_21 : decode cX12_figure 21 = .ok (.ireturn, 1) := by decide +kernel
theorem dX12_figure_22 : decode cX12_figure 22 = .ok (.aload_n 0, 1) := by decide +kernel
theorem dX12_figure_23 : decode cX12_figure 23 = .ok (.aload_n 0, 1) := by decide +kernel
theorem dX12_figure_24 : decode cX12_figure 24 = .ok (.getfield 89, 3) := by decide +kernel
theorem dX12_figure_27 : decode cX12_figure 27 = .ok (.iload_n 1, 1) := by decide +kernel
theorem dX12_figure_28 : decode cX12_figure 28 = .ok (.iload_n 2, 1) := by decide +kernel
theorem dX12_figure_29 : decode cX12_figure 29 = .ok (.invokestatic 50, 3) := by decide +kernel
theorem dX12_figure_32 : decode cX12_figure 32 = .ok (.iconst 2, 1) := by decide +kernel
theorem dX12_figure_33 : decode cX12_figure 33 = .ok (.invokevirtual 108, 3) := by decide +kernel
theorem dX12_figure_36 : decode cX12_figure 36 = .ok (.ireturn, 1) := by decide +kernel
theorem dX12_kindOf_0 : decode cX12_kindOf 0 = .ok (.iload_n 0, 1) := by decide +kernel
theorem dX12_kindOf_1 : decode cX12_kindOf 1 = .ok (.bipush 112, 2) := by decide +kernel
theorem dX12_kindOf_3 : decode cX12_kindOf 3 = .ok (.if_icmp .ne 7, 3) := by decide +kernel
theorem dX12_kindOf_6 : decode cX12_kindOf 6 = .ok (.iconst 1, 1) := by decide +kernel
theorem dX12_kindOf_7 : decode cX12_kindOf 7 = .ok (.goto 44, 3) := by decide +kernel
theorem dX12_kindOf_10 : decode cX12_kindOf 10 = .ok (.iload_n 0, 1) := by decide +kernel
theorem dX12_kindOf_11 : decode cX12_kindOf 11 = .ok (.bipush 118, 2) := by decide +kernel
theorem dX12_kindOf_13 : decode cX12_kindOf 13 = .ok (.if_icmp .ne 7, 3) := by decide +kernel
theorem dX12_kindOf_16 : decode cX12_kindOf 16 = .ok (.iconst 2, 1) := by decide +kernel
theorem dX12_kindOf_17 : decode cX12_kindOf 17 = .ok (.goto 34, 3) := by decide +kernel
theorem dX12_kindOf_20 : decode cX12_kindOf 20 = .ok (.iload_n 0, 1) := by decide +kernel
theorem dX12_kindOf_21 : decode cX12_kindOf 21 = .ok (.bipush 115, 2) := by decide +kernel
theorem dX12_kindOf_23 : decode cX12_kindOf 23 = .ok (.if_icmp .ne 7, 3) := by decide +kernel
theorem dX12_kindOf_26 : decode cX12_kindOf 26 = .ok (.iconst 3, 1) := by decide +kernel
theorem dX12_kindOf_27 : decode cX12_kindOf 27 = .ok (.goto 24, 3) := by decide +kernel
theorem dX12_kindOf_30 : decode cX12_kindOf 30 = .ok (.iload_n 0, 1) := by decide +kernel
theorem dX12_kindOf_31 : decode cX12_kindOf 31 = .ok (.bipush 99, 2) := by decide +kernel
theorem dX12_kindOf_33 : decode cX12_kindOf 33 = .ok (.if_icmp .ne 7, 3) := by decide +kernel
theorem dX12_kindOf_36 : decode cX12_kindOf 36 = .ok (.iconst 4, 1) := by decide +kernel
theorem dX12_kindOf_37 : decode cX12_kindOf 37 = .ok (.goto 14, 3) := by decide +kernel
theorem dX12_kindOf_40 : decode cX12_kindOf 40 = .ok (.iload_n 0, 1) := by decide +kernel
theorem dX12_kindOf_41 : decode cX12_kindOf 41 = .ok (.bipush 107, 2) := by decide +kernel
theorem dX12_kindOf_43 : decode cX12_kindOf 43 = .ok (.if_icmp .ne 7, 3) := by decide +kernel
theorem dX12_kindOf_46 : decode cX12_kindOf 46 = .ok (.iconst 5, 1) := by decide +kernel
theorem dX12_kindOf_47 : decode cX12_kindOf 47 = .ok (.goto 4, 3) := by decide +kernel
theorem dX12_kindOf_50 : decode cX12_kindOf 50 = .ok (.iconst 0, 1) := by decide +kernel
theorem dX12_kindOf_51 : decode cX12_kindOf 51 = .ok (.ireturn, 1) := by decide +kernel
set_option maxRecDepth 20000 in
theorem ggX12_next_X12_takes : GoodIn wsX12_next wsX12_takes := goodIn_r _ [6, 7, 8, 9, 10, 11, 12, 13, 5, 14, 15, 16, 17, 18, 19, 1, 20, 21, 22, 23, 24, 25, 26, 27, 28, 33, 34, 35, 36, 37, 38, 39, 40, 41, 42, 43, 44, 45, 46, 47, 48, 49, 50, 51, 52, 53] (by decide +kernel) (by decide +kernel)
set_option maxRecDepth 20000 in
theorem gX12_next_X12_takes : GoodIn wsX12_next (wsV RX12 108 RX12 yX12_takes wsX12_takes) := goodIn_app (goodIn_of _ (by decide +kernel)) ggX12_next_X12_takes
set_option maxRecDepth 20000 in
theorem ggX12_next_X12_figure : GoodIn wsX12_next wsX12_figure := goodIn_r _ [32, 1, 10, 11, 12, 13, 5, 14, 8, 2, 3, 4, 6, 7, 9, 15, 16, 17, 18, 19, 20, 21, 22, 23, 24, 25, 26, 27, 28, 33, 34, 35, 36, 37, 38, 39, 40, 41, 42, 43, 44, 45, 46, 47, 48, 49, 50, 51, 52, 53] (by decide +kernel) (by decide +kernel)
set_option maxRecDepth 20000 in
theorem gX12_next_X12_figure : GoodIn wsX12_next (wsV RX12 112 RX12 yX12_figure wsX12_figure) := goodIn_app (goodIn_of _ (by decide +kernel)) ggX12_next_X12_figure
theorem dX12_next_0 : decode cX12_next 0 = .ok (.aload_n 0, 1) := by decide +kernel
theorem dX12_next_1 : decode cX12_next 1 = .ok (.aload_n 0, 1) := by decide +kernel
theorem dX12_next_2 : decode cX12_next 2 = .ok (.getfield 92, 3) := by decide +kernel
theorem dX12_next_5 : decode cX12_next 5 = .ok (.iconst 3, 1) := by decide +kernel
theorem dX12_next_6 : decode cX12_next 6 = .ok (.if_icmp .ne 7, 3) := by decide +kernel
theorem dX12_next_9 : decode cX12_next 9 = .ok (.iconst 1, 1) := by decide +kernel
theorem dX12_next_10 : decode cX12_next 10 = .ok (.goto 4, 3) := by decide +kernel
theorem dX12_next_13 : decode cX12_next 13 = .ok (.iconst 0, 1) := by decide +kernel
theorem dX12_next_14 : decode cX12_next 14 = .ok (.iconst 1, 1) := by decide +kernel
theorem dX12_next_15 : decode cX12_next 15 = .ok (.invokevirtual 108, 3) := by decide +kernel
theorem dX12_next_18 : decode cX12_next 18 = .ok (.pop, 1) := by decide +kernel
theorem dX12_next_19 : decode cX12_next 19 = .ok (.aload_n 0, 1) := by decide +kernel
theorem dX12_next_20 : decode cX12_next 20 = .ok (.iload_n 1, 1) := by decide +kernel
theorem dX12_next_21 : decode cX12_next 21 = .ok (.iload_n 2, 1) := by decide +kernel
theorem dX12_next_22 : decode cX12_next 22 = .ok (.invokevirtual 112, 3) := by decide +kernel
theorem dX12_next_25 : decode cX12_next 25 = .ok (.ireturn, 1) := by decide +kernel
set_option maxRecDepth 20000 in
theorem ggX12_readsReader_X12_kindOf : GoodIn wsX12_readsReader wsX12_kindOf := goodIn_r _ [7] (by decide +kernel) (by decide +kernel)
set_option maxRecDepth 20000 in
theorem gX12_readsReader_X12_kindOf : GoodIn wsX12_readsReader (va_wsS RX12 115 yX12_kindOf wsX12_kindOf) := goodIn_app (goodIn_of _ (by decide +kernel)) ggX12_readsReader_X12_kindOf
set_option maxRecDepth 20000 in
theorem ggX12_readsReader_X12_takes : GoodIn wsX12_readsReader wsX12_takes := goodIn_r _ [11, 12, 13, 14, 1, 15, 16, 17, 6, 18, 19, 20, 21, 22, 23, 3, 24, 25, 26, 27, 28, 29, 30, 31, 32, 41, 42, 43, 44, 45, 46, 47, 48, 49, 50, 51, 52, 53, 54, 55, 56, 57, 58, 59, 60, 61] (by decide +kernel) (by decide +kernel)
set_option maxRecDepth 20000 in
theorem gX12_readsReader_X12_takes : GoodIn wsX12_readsReader (wsV RX12 108 RX12 yX12_takes wsX12_takes) := goodIn_app (goodIn_of _ (by decide +kernel)) ggX12_readsReader_X12_takes
set_option maxRecDepth 20000 in
theorem ggX12_readsReader_X12_figure : GoodIn wsX12_readsReader wsX12_figure := goodIn_r _ [36, 3, 1, 15, 16, 17, 6, 18, 13, 8, 9, 10, 11, 12, 14, 19, 20, 21, 22, 23, 24, 25, 26, 27, 28, 29, 30, 31, 32, 41, 42, 43, 44, 45, 46, 47, 48, 49, 50, 51, 52, 53, 54, 55, 56, 57, 58, 59, 60, 61] (by decide +kernel) (by decide +kernel)
set_option maxRecDepth 20000 in
theorem gX12_readsReader_X12_figure : GoodIn wsX12_readsReader (wsV RX12 112 RX12 yX12_figure wsX12_figure) := goodIn_app (goodIn_of _ (by decide +kernel)) ggX12_readsReader_X12_figure
set_option maxRecDepth 20000 in
theorem ggX12_readsReader_X12_next : GoodIn wsX12_readsReader wsX12_next := goodIn_r _ [40, 3, 8, 9, 10, 6, 11, 12, 13, 14, 1, 15, 16, 17, 18, 19, 20, 21, 22, 23, 24, 25, 26, 27, 28, 29, 30, 31, 32, 33, 34, 35, 36, 41, 42, 43, 44, 45, 46, 47, 48, 49, 50, 51, 52, 53, 54, 55, 56, 57, 58, 59, 60, 61] (by decide +kernel) (by decide +kernel)
set_option maxRecDepth 20000 in
theorem gX12_readsReader_X12_next : GoodIn wsX12_readsReader (wsV RX12 118 RX12 yX12_next wsX12_next) := goodIn_app (goodIn_of _ (by decide +kernel)) ggX12_readsReader_X12_next
set_option maxRecDepth 20000 in
theorem ggX12_readsReader_X12_isWell : GoodIn wsX12_readsReader wsX12_isWell := goodIn_r _ [18, 13, 41, 42, 43, 44, 45, 46, 47, 48, 49, 50, 51, 52, 53, 54, 55, 56, 57, 58, 59, 60, 61] (by decide +kernel) (by decide +kernel)
set_option maxRecDepth 20000 in
theorem gX12_readsReader_X12_isWell : GoodIn wsX12_readsReader (wsV RX12 98 RX12 yX12_isWell wsX12_isWell) := goodIn_app (goodIn_of _ (by decide +kernel)) ggX12_readsReader_X12_isWell
theorem dX12_readsReader_0 : decode cX12_readsReader 0 = .ok (.aload_n 0, 1) := by decide +kernel
theorem dX12_readsReader_1 : decode cX12_readsReader 1 = .ok (.getfield 89, 3) := by decide +kernel
theorem dX12_readsReader_4 : decode cX12_readsReader 4 = .ok (.invokestatic 115, 3) := by decide +kernel
theorem dX12_readsReader_7 : decode cX12_readsReader 7 = .ok (.istore_n 1, 1) := by decide +kernel
theorem dX12_readsReader_8 : decode cX12_readsReader 8 = .ok (.aload_n 0, 1) := by decide +kernel
theorem dX12_readsReader_9 : decode cX12_readsReader 9 = .ok (.aload_n 0, 1) := by decide +kernel
theorem dX12_readsReader_10 : decode cX12_readsReader 10 = .ok (.getfield 28, 3) := by decide +kernel
theorem dX12_readsReader_13 : decode cX12_readsReader 13 = .ok (.iconst 3, 1) := by decide +kernel
theorem dX12_readsReader_14 : decode cX12_readsReader 14 = .ok (.iaload, 1) := by decide +kernel
theorem dX12_readsReader_15 : decode cX12_readsReader 15 = .ok (.bipush 6, 2) := by decide +kernel
theorem dX12_readsReader_17 : decode cX12_readsReader 17 = .ok (.if_icmp .ge 7, 3) := by decide +kernel
theorem dX12_readsReader_20 : decode cX12_readsReader 20 = .ok (.iconst 1, 1) := by decide +kernel
theorem dX12_readsReader_21 : decode cX12_readsReader 21 = .ok (.goto 4, 3) := by decide +kernel
theorem dX12_readsReader_24 : decode cX12_readsReader 24 = .ok (.iconst 0, 1) := by decide +kernel
theorem dX12_readsReader_25 : decode cX12_readsReader 25 = .ok (.iconst 3, 1) := by decide +kernel
theorem dX12_readsReader_26 : decode cX12_readsReader 26 = .ok (.invokevirtual 108, 3) := by decide +kernel
theorem dX12_readsReader_29 : decode cX12_readsReader 29 = .ok (.pop, 1) := by decide +kernel
theorem dX12_readsReader_30 : decode cX12_readsReader 30 = .ok (.iconst 4, 1) := by decide +kernel
theorem dX12_readsReader_31 : decode cX12_readsReader 31 = .ok (.iconst 4, 1) := by decide +kernel
theorem dX12_readsReader_32 : decode cX12_readsReader 32 = .ok (.aload_n 0, 1) := by decide +kernel
theorem dX12_readsReader_33 : decode cX12_readsReader 33 = .ok (.getfield 28, 3) := by decide +kernel
theorem dX12_readsReader_36 : decode cX12_readsReader 36 = .ok (.iconst 3, 1) := by decide +kernel
theorem dX12_readsReader_37 : decode cX12_readsReader 37 = .ok (.iaload, 1) := by decide +kernel
theorem dX12_readsReader_38 : decode cX12_readsReader 38 = .ok (.bipush 6, 2) := by decide +kernel
theorem dX12_readsReader_40 : decode cX12_readsReader 40 = .ok (.if_icmp .ge 12, 3) := by decide +kernel
theorem dX12_readsReader_43 : decode cX12_readsReader 43 = .ok (.aload_n 0, 1) := by decide +kernel
theorem dX12_readsReader_44 : decode cX12_readsReader 44 = .ok (.getfield 28, 3) := by decide +kernel
theorem dX12_readsReader_47 : decode cX12_readsReader 47 = .ok (.iconst 3, 1) := by decide +kernel
theorem dX12_readsReader_48 : decode cX12_readsReader 48 = .ok (.iaload, 1) := by decide +kernel
theorem dX12_readsReader_49 : decode cX12_readsReader 49 = .ok (.goto 4, 3) := by decide +kernel
theorem dX12_readsReader_52 : decode cX12_readsReader 52 = .ok (.iconst 0, 1) := by decide +kernel
theorem dX12_readsReader_53 : decode cX12_readsReader 53 = .ok (.imul, 1) := by decide +kernel
theorem dX12_readsReader_54 : decode cX12_readsReader 54 = .ok (.iadd, 1) := by decide +kernel
theorem dX12_readsReader_55 : decode cX12_readsReader 55 = .ok (.istore_n 2, 1) := by decide +kernel
theorem dX12_readsReader_56 : decode cX12_readsReader 56 = .ok (.aload_n 0, 1) := by decide +kernel
theorem dX12_readsReader_57 : decode cX12_readsReader 57 = .ok (.iconst 0, 1) := by decide +kernel
theorem dX12_readsReader_58 : decode cX12_readsReader 58 = .ok (.bipush 63, 2) := by decide +kernel
theorem dX12_readsReader_60 : decode cX12_readsReader 60 = .ok (.invokevirtual 112, 3) := by decide +kernel
theorem dX12_readsReader_63 : decode cX12_readsReader 63 = .ok (.istore_n 3, 1) := by decide +kernel
theorem dX12_readsReader_64 : decode cX12_readsReader 64 = .ok (.aload_n 0, 1) := by decide +kernel
theorem dX12_readsReader_65 : decode cX12_readsReader 65 = .ok (.iconst 0, 1) := by decide +kernel
theorem dX12_readsReader_66 : decode cX12_readsReader 66 = .ok (.bipush 63, 2) := by decide +kernel
theorem dX12_readsReader_68 : decode cX12_readsReader 68 = .ok (.invokevirtual 118, 3) := by decide +kernel
theorem dX12_readsReader_71 : decode cX12_readsReader 71 = .ok (.istore 4, 2) := by decide +kernel
theorem dX12_readsReader_73 : decode cX12_readsReader 73 = .ok (.aload_n 0, 1) := by decide +kernel
theorem dX12_readsReader_74 : decode cX12_readsReader 74 = .ok (.iconst 0, 1) := by decide +kernel
theorem dX12_readsReader_75 : decode cX12_readsReader 75 = .ok (.bipush 60, 2) := by decide +kernel
theorem dX12_readsReader_77 : decode cX12_readsReader 77 = .ok (.invokevirtual 118, 3) := by decide +kernel
theorem dX12_readsReader_80 : decode cX12_readsReader 80 = .ok (.istore 5, 2) := by decide +kernel
theorem dX12_readsReader_82 : decode cX12_readsReader 82 = .ok (.aload_n 0, 1) := by decide +kernel
theorem dX12_readsReader_83 : decode cX12_readsReader 83 = .ok (.aload_n 0, 1) := by decide +kernel
theorem dX12_readsReader_84 : decode cX12_readsReader 84 = .ok (.getfield 92, 3) := by decide +kernel
theorem dX12_readsReader_87 : decode cX12_readsReader 87 = .ok (.iconst 4, 1) := by decide +kernel
theorem dX12_readsReader_88 : decode cX12_readsReader 88 = .ok (.if_icmp .ne 7, 3) := by decide +kernel
theorem dX12_readsReader_91 : decode cX12_readsReader 91 = .ok (.iconst 1, 1) := by decide +kernel
theorem dX12_readsReader_92 : decode cX12_readsReader 92 = .ok (.goto 4, 3) := by decide +kernel
theorem dX12_readsReader_95 : decode cX12_readsReader 95 = .ok (.iconst 0, 1) := by decide +kernel
theorem dX12_readsReader_96 : decode cX12_readsReader 96 = .ok (.iconst 1, 1) := by decide +kernel
theorem dX12_readsReader_97 : decode cX12_readsReader 97 = .ok (.invokevirtual 108, 3) := by decide +kernel
theorem dX12_readsReader_100 : decode cX12_readsReader 100 = .ok (.pop, 1) := by decide +kernel
theorem dX12_readsReader_101 : decode cX12_readsReader 101 = .ok (.aload_n 0, 1) := by decide +kernel
theorem dX12_readsReader_102 : decode cX12_readsReader 102 = .ok (.invokevirtual 98, 3) := by decide +kernel
theorem dX12_readsReader_105 : decode cX12_readsReader 105 = .ok (.ifCond .eq 49, 3) := by decide +kernel
theorem dX12_readsReader_108 : decode cX12_readsReader 108 = .ok (.aload_n 0, 1) := by decide +kernel
theorem dX12_readsReader_109 : decode cX12_readsReader 109 = .ok (.getfield 28, 3) := by decide +kernel
theorem dX12_readsReader_112 : decode cX12_readsReader 112 = .ok (.iload_n 2, 1) := by decide +kernel
theorem dX12_readsReader_113 : decode cX12_readsReader 113 = .ok (.iload_n 1, 1) := by decide +kernel
theorem dX12_readsReader_114 : decode cX12_readsReader 114 = .ok (.iastore, 1) := by decide +kernel
theorem dX12_readsReader_115 : decode cX12_readsReader 115 = .ok (.aload_n 0, 1) := by decide +kernel
theorem dX12_readsReader_116 : decode cX12_readsReader 116 = .ok (.getfield 28, 3) := by decide +kernel
theorem dX12_readsReader_119 : decode cX12_readsReader 119 = .ok (.iload_n 2, 1) := by decide +kernel
theorem dX12_readsReader_120 : decode cX12_readsReader 120 = .ok (.iconst 1, 1) := by decide +kernel
theorem dX12_readsReader_121 : decode cX12_readsReader 121 = .ok (.iadd, 1) := by decide +kernel
theorem dX12_readsReader_122 : decode cX12_readsReader 122 = .ok (.iload_n 3, 1) := by decide +kernel
theorem dX12_readsReader_123 : decode cX12_readsReader 123 = .ok (.iastore, 1) := by decide +kernel
theorem dX12_readsReader_124 : decode cX12_readsReader 124 = .ok (.aload_n 0, 1) := by decide +kernel
theorem dX12_readsReader_125 : decode cX12_readsReader 125 = .ok (.getfield 28, 3) := by decide +kernel
theorem dX12_readsReader_128 : decode cX12_readsReader 128 = .ok (.iload_n 2, 1) := by decide +kernel
theorem dX12_readsReader_129 : decode cX12_readsReader 129 = .ok (.iconst 2, 1) := by decide +kernel
theorem dX12_readsReader_130 : decode cX12_readsReader 130 = .ok (.iadd, 1) := by decide +kernel
theorem dX12_readsReader_131 : decode cX12_readsReader 131 = .ok (.iload 4, 2) := by decide +kernel
theorem dX12_readsReader_133 : decode cX12_readsReader 133 = .ok (.iastore, 1) := by decide +kernel
theorem dX12_readsReader_134 : decode cX12_readsReader 134 = .ok (.aload_n 0, 1) := by decide +kernel
theorem dX12_readsReader_135 : decode cX12_readsReader 135 = .ok (.getfield 28, 3) := by decide +kernel
theorem dX12_readsReader_138 : decode cX12_readsReader 138 = .ok (.iload_n 2, 1) := by decide +kernel
theorem dX12_readsReader_139 : decode cX12_readsReader 139 = .ok (.iconst 3, 1) := by decide +kernel
theorem dX12_readsReader_140 : decode cX12_readsReader 140 = .ok (.iadd, 1) := by decide +kernel
theorem dX12_readsReader_141 : decode cX12_readsReader 141 = .ok (.iload 5, 2) := by decide +kernel
theorem dX12_readsReader_143 : decode cX12_readsReader 143 = .ok (.iastore, 1) := by decide +kernel
theorem dX12_readsReader_144 : decode cX12_readsReader 144 = .ok (.aload_n 0, 1) := by decide +kernel
theorem dX12_readsReader_145 : decode cX12_readsReader 145 = .ok (.getfield 28, 3) := by decide +kernel
theorem dX12_readsReader_148 : decode cX12_readsReader 148 = .ok (.iconst 3, 1) := by decide +kernel
theorem dX12_readsReader_149 : decode cX12_readsReader 149 = .ok (.dup2, 1) := by decide +kernel
theorem dX12_readsReader_150 : decode cX12_readsReader 150 = .ok (.iaload, 1) := by decide +kernel
theorem dX12_readsReader_151 : decode cX12_readsReader 151 = .ok (.iconst 1, 1) := by decide +kernel
theorem dX12_readsReader_152 : decode cX12_readsReader 152 = .ok (.iadd, 1) := by decide +kernel
theorem dX12_readsReader_153 : decode cX12_readsReader 153 = .ok (.iastore, 1) := by decide +kernel
theorem dX12_readsReader_154 : decode cX12_readsReader 154 = .ok (.return_, 1) := by decide +kernel
set_option maxRecDepth 20000 in
theorem ggX12_town_X12_advances : GoodIn wsX12_town wsX12_advances := goodIn_r _ [14, 2, 15, 5, 4, 16, 17, 18, 13, 19, 6, 20, 21, 22, 23, 51, 52, 53, 54, 55, 56, 57, 58, 59, 60, 61, 62, 63, 64, 65, 66, 67, 68, 69, 70, 71] (by decide +kernel) (by decide +kernel)
set_option maxRecDepth 20000 in
theorem gX12_town_X12_advances : GoodIn wsX12_town (wsV RX12 105 RX12 yX12_advances wsX12_advances) := goodIn_app (goodIn_of _ (by decide +kernel)) ggX12_town_X12_advances
set_option maxRecDepth 20000 in
theorem ggX12_town_X12_takes : GoodIn wsX12_town wsX12_takes := goodIn_r _ [27, 15, 3, 28, 5, 29, 30, 31, 13, 32, 10, 11, 12, 14, 2, 4, 16, 17, 18, 19, 6, 20, 21, 22, 23, 51, 52, 53, 54, 55, 56, 57, 58, 59, 60, 61, 62, 63, 64, 65, 66, 67, 68, 69, 70, 71] (by decide +kernel) (by decide +kernel)
set_option maxRecDepth 20000 in
theorem gX12_town_X12_takes : GoodIn wsX12_town (wsV RX12 108 RX12 yX12_takes wsX12_takes) := goodIn_app (goodIn_of _ (by decide +kernel)) ggX12_town_X12_takes
set_option maxRecDepth 20000 in
theorem ggX12_town_X12_figure : GoodIn wsX12_town wsX12_figure := goodIn_r _ [36, 4, 5, 29, 30, 31, 13, 32, 3, 24, 25, 26, 27, 15, 28, 10, 11, 12, 14, 2, 16, 17, 18, 19, 6, 20, 21, 22, 23, 51, 52, 53, 54, 55, 56, 57, 58, 59, 60, 61, 62, 63, 64, 65, 66, 67, 68, 69, 70, 71] (by decide +kernel) (by decide +kernel)
set_option maxRecDepth 20000 in
theorem gX12_town_X12_figure : GoodIn wsX12_town (wsV RX12 112 RX12 yX12_figure wsX12_figure) := goodIn_app (goodIn_of _ (by decide +kernel)) ggX12_town_X12_figure
set_option maxRecDepth 20000 in
theorem ggX12_town_X12_isWell : GoodIn wsX12_town wsX12_isWell := goodIn_r _ [32, 3, 51, 52, 53, 54, 55, 56, 57, 58, 59, 60, 61, 62, 63, 64, 65, 66, 67, 68, 69, 70, 71] (by decide +kernel) (by decide +kernel)
set_option maxRecDepth 20000 in
theorem gX12_town_X12_isWell : GoodIn wsX12_town (wsV RX12 98 RX12 yX12_isWell wsX12_isWell) := goodIn_app (goodIn_of _ (by decide +kernel)) ggX12_town_X12_isWell
set_option maxRecDepth 20000 in
theorem ggX12_town_X12_kindOf : GoodIn wsX12_town wsX12_kindOf := goodIn_r _ [39] (by decide +kernel) (by decide +kernel)
set_option maxRecDepth 20000 in
theorem gX12_town_X12_kindOf : GoodIn wsX12_town (va_wsS RX12 115 yX12_kindOf wsX12_kindOf) := goodIn_app (goodIn_of _ (by decide +kernel)) ggX12_town_X12_kindOf
set_option maxRecDepth 20000 in
theorem ggX12_town_X12_readsReader : GoodIn wsX12_town wsX12_readsReader := goodIn_r _ [43, 5, 1, 4, 37, 38, 13, 39, 24, 25, 26, 27, 15, 3, 28, 29, 30, 31, 32, 10, 11, 12, 14, 2, 16, 17, 18, 19, 6, 20, 21, 22, 23, 33, 34, 35, 36, 44, 45, 46, 47, 51, 52, 53, 54, 55, 56, 57, 58, 59, 60, 61, 62, 63, 64, 65, 66, 67, 68, 69, 70, 71] (by decide +kernel) (by decide +kernel)
set_option maxRecDepth 20000 in
theorem gX12_town_X12_readsReader : GoodIn wsX12_town (wsV RX12 121 RX12 yX12_readsReader wsX12_readsReader) := goodIn_app (goodIn_of _ (by decide +kernel)) ggX12_town_X12_readsReader
set_option maxRecDepth 20000 in
theorem ggX12_town_X12_copies : GoodIn wsX12_town wsX12_copies := goodIn_r _ [50] (by decide +kernel) (by decide +kernel)
set_option maxRecDepth 20000 in
theorem gX12_town_X12_copies : GoodIn wsX12_town (va_wsS RX12 125 yX12_copies wsX12_copies) := goodIn_app (goodIn_of _ (by decide +kernel)) ggX12_town_X12_copies
theorem dX12_town_0 : decode cX12_town 0 = .ok (.iconst 0, 1) := by decide +kernel
theorem dX12_town_1 : decode cX12_town 1 = .ok (.istore_n 1, 1) := by decide +kernel
theorem dX12_town_2 : decode cX12_town 2 = .ok (.iload_n 1, 1) := by decide +kernel
theorem dX12_town_3 : decode cX12_town 3 = .ok (.bipush 28, 2) := by decide +kernel
theorem dX12_town_5 : decode cX12_town 5 = .ok (.if_icmp .ge 16, 3) := by decide +kernel
theorem dX12_town_8 : decode cX12_town 8 = .ok (.aload_n 0, 1) := by decide +kernel
theorem dX12_town_9 : decode cX12_town 9 = .ok (.getfield 28, 3) := by decide +kernel
theorem dX12_town_12 : decode cX12_town 12 = .ok (.iload_n 1, 1) := by decide +kernel
theorem dX12_town_13 : decode cX12_town 13 = .ok (.iconst 0, 1) := by decide +kernel
theorem dX12_town_14 : decode cX12_town 14 = .ok (.iastore, 1) := by decide +kernel
theorem dX12_town_15 : decode cX12_town 15 = .ok (.iinc 1 1, 3) := by decide +kernel
theorem dX12_town_18 : decode cX12_town 18 = .ok (.goto (-16), 3) := by decide +kernel
theorem dX12_town_21 : decode cX12_town 21 = .ok (.aload_n 0, 1) := by decide +kernel
theorem dX12_town_22 : decode cX12_town 22 = .ok (.iconst 0, 1) := by decide +kernel
theorem dX12_town_23 : decode cX12_town 23 = .ok (.putfield 80, 3) := by decide +kernel
theorem dX12_town_26 : decode cX12_town 26 = .ok (.aload_n 0, 1) := by decide +kernel
theorem dX12_town_27 : decode cX12_town 27 = .ok (.iconst (-1), 1) := by decide +kernel
theorem dX12_town_28 : decode cX12_town 28 = .ok (.putfield 95, 3) := by decide +kernel
theorem dX12_town_31 : decode cX12_town 31 = .ok (.aload_n 0, 1) := by decide +kernel
theorem dX12_town_32 : decode cX12_town 32 = .ok (.invokevirtual 105, 3) := by decide +kernel
theorem dX12_town_35 : decode cX12_town 35 = .ok (.aload_n 0, 1) := by decide +kernel
theorem dX12_town_36 : decode cX12_town 36 = .ok (.aload_n 0, 1) := by decide +kernel
theorem dX12_town_37 : decode cX12_town 37 = .ok (.getfield 92, 3) := by decide +kernel
theorem dX12_town_40 : decode cX12_town 40 = .ok (.iconst 1, 1) := by decide +kernel
theorem dX12_town_41 : decode cX12_town 41 = .ok (.if_icmp .ne 16, 3) := by decide +kernel
theorem dX12_town_44 : decode cX12_town 44 = .ok (.aload_n 0, 1) := by decide +kernel
theorem dX12_town_45 : decode cX12_town 45 = .ok (.getfield 89, 3) := by decide +kernel
theorem dX12_town_48 : decode cX12_town 48 = .ok (.bipush 119, 2) := by decide +kernel
theorem dX12_town_50 : decode cX12_town 50 = .ok (.if_icmp .ne 7, 3) := by decide +kernel
theorem dX12_town_53 : decode cX12_town 53 = .ok (.iconst 1, 1) := by decide +kernel
theorem dX12_town_54 : decode cX12_town 54 = .ok (.goto 4, 3) := by decide +kernel
theorem dX12_town_57 : decode cX12_town 57 = .ok (.iconst 0, 1) := by decide +kernel
theorem dX12_town_58 : decode cX12_town 58 = .ok (.iconst 1, 1) := by decide +kernel
theorem dX12_town_59 : decode cX12_town 59 = .ok (.invokevirtual 108, 3) := by decide +kernel
theorem dX12_town_62 : decode cX12_town 62 = .ok (.pop, 1) := by decide +kernel
theorem dX12_town_63 : decode cX12_town 63 = .ok (.aload_n 0, 1) := by decide +kernel
theorem dX12_town_64 : decode cX12_town 64 = .ok (.getfield 28, 3) := by decide +kernel
theorem dX12_town_67 : decode cX12_town 67 = .ok (.iconst 1, 1) := by decide +kernel
theorem dX12_town_68 : decode cX12_town 68 = .ok (.aload_n 0, 1) := by decide +kernel
theorem dX12_town_69 : decode cX12_town 69 = .ok (.iconst 0, 1) := by decide +kernel
theorem dX12_town_70 : decode cX12_town 70 = .ok (.bipush 36, 2) := by decide +kernel
theorem dX12_town_72 : decode cX12_town 72 = .ok (.invokevirtual 112, 3) := by decide +kernel
theorem dX12_town_75 : decode cX12_town 75 = .ok (.iastore, 1) := by decide +kernel
theorem dX12_town_76 : decode cX12_town 76 = .ok (.aload_n 0, 1) := by decide +kernel
theorem dX12_town_77 : decode cX12_town 77 = .ok (.aload_n 0, 1) := by decide +kernel
theorem dX12_town_78 : decode cX12_town 78 = .ok (.getfield 92, 3) := by decide +kernel
theorem dX12_town_81 : decode cX12_town 81 = .ok (.iconst 4, 1) := by decide +kernel
theorem dX12_town_82 : decode cX12_town 82 = .ok (.if_icmp .ne 7, 3) := by decide +kernel
theorem dX12_town_85 : decode cX12_town 85 = .ok (.iconst 1, 1) := by decide +kernel
theorem dX12_town_86 : decode cX12_town 86 = .ok (.goto 4, 3) := by decide +kernel
theorem dX12_town_89 : decode cX12_town 89 = .ok (.iconst 0, 1) := by decide +kernel
theorem dX12_town_90 : decode cX12_town 90 = .ok (.iconst 1, 1) := by decide +kernel
theorem dX12_town_91 : decode cX12_town 91 = .ok (.invokevirtual 108, 3) := by decide +kernel
theorem dX12_town_94 : decode cX12_town 94 = .ok (.pop, 1) := by decide +kernel
theorem dX12_town_95 : decode cX12_town 95 = .ok (.aload_n 0, 1) := by decide +kernel
theorem dX12_town_96 : decode cX12_town 96 = .ok (.invokevirtual 98, 3) := by decide +kernel
theorem dX12_town_99 : decode cX12_town 99 = .ok (.ifCond .eq 28, 3) := by decide +kernel
theorem dX12_town_102 : decode cX12_town 102 = .ok (.aload_n 0, 1) := by decide +kernel
theorem dX12_town_103 : decode cX12_town 103 = .ok (.getfield 92, 3) := by decide +kernel
theorem dX12_town_106 : decode cX12_town 106 = .ok (.iconst 1, 1) := by decide +kernel
theorem dX12_town_107 : decode cX12_town 107 = .ok (.if_icmp .ne 20, 3) := by decide +kernel
theorem dX12_town_110 : decode cX12_town 110 = .ok (.aload_n 0, 1) := by decide +kernel
theorem dX12_town_111 : decode cX12_town 111 = .ok (.getfield 89, 3) := by decide +kernel
theorem dX12_town_114 : decode cX12_town 114 = .ok (.invokestatic 115, 3) := by decide +kernel
theorem dX12_town_117 : decode cX12_town 117 = .ok (.ifCond .le 10, 3) := by decide +kernel
theorem dX12_town_120 : decode cX12_town 120 = .ok (.aload_n 0, 1) := by decide +kernel
theorem dX12_town_121 : decode cX12_town 121 = .ok (.invokevirtual 121, 3) := by decide +kernel
theorem dX12_town_124 : decode cX12_town 124 = .ok (.goto (-29), 3) := by decide +kernel
theorem dX12_town_127 : decode cX12_town 127 = .ok (.aload_n 0, 1) := by decide +kernel
theorem dX12_town_128 : decode cX12_town 128 = .ok (.invokevirtual 98, 3) := by decide +kernel
theorem dX12_town_131 : decode cX12_town 131 = .ok (.ifCond .eq 17, 3) := by decide +kernel
theorem dX12_town_134 : decode cX12_town 134 = .ok (.aload_n 0, 1) := by decide +kernel
theorem dX12_town_135 : decode cX12_town 135 = .ok (.getfield 92, 3) := by decide +kernel
theorem dX12_town_138 : decode cX12_town 138 = .ok (.ifCond .eq 10, 3) := by decide +kernel
theorem dX12_town_141 : decode cX12_town 141 = .ok (.aload_n 0, 1) := by decide +kernel
theorem dX12_town_142 : decode cX12_town 142 = .ok (.iconst 0, 1) := by decide +kernel
theorem dX12_town_143 : decode cX12_town 143 = .ok (.iconst 1, 1) := by decide +kernel
theorem dX12_town_144 : decode cX12_town 144 = .ok (.invokevirtual 108, 3) := by decide +kernel
theorem dX12_town_147 : decode cX12_town 147 = .ok (.pop, 1) := by decide +kernel
theorem dX12_town_148 : decode cX12_town 148 = .ok (.aload_n 0, 1) := by decide +kernel
theorem dX12_town_149 : decode cX12_town 149 = .ok (.iconst 0, 1) := by decide +kernel
theorem dX12_town_150 : decode cX12_town 150 = .ok (.putfield 76, 3) := by decide +kernel
theorem dX12_town_153 : decode cX12_town 153 = .ok (.aload_n 0, 1) := by decide +kernel
theorem dX12_town_154 : decode cX12_town 154 = .ok (.invokevirtual 98, 3) := by decide +kernel
theorem dX12_town_157 : decode cX12_town 157 = .ok (.ifCond .ne 11, 3) := by decide +kernel
theorem dX12_town_160 : decode cX12_town 160 = .ok (.ldc 124, 2) := by decide +kernel
theorem dX12_town_162 : decode cX12_town 162 = .ok (.aload_n 0, 1) := by decide +kernel
theorem dX12_town_163 : decode cX12_town 163 = .ok (.getfield 95, 3) := by decide +kernel
theorem dX12_town_166 : decode cX12_town 166 = .ok (.isub, 1) := by decide +kernel
theorem dX12_town_167 : decode cX12_town 167 = .ok (.ireturn, 1) := by decide +kernel
theorem dX12_town_168 : decode cX12_town 168 = .ok (.aload_n 0, 1) := by decide +kernel
theorem dX12_town_169 : decode cX12_town 169 = .ok (.getfield 28, 3) := by decide +kernel
theorem dX12_town_172 : decode cX12_town 172 = .ok (.iconst 0, 1) := by decide +kernel
theorem dX12_town_173 : decode cX12_town 173 = .ok (.iconst 1, 1) := by decide +kernel
theorem dX12_town_174 : decode cX12_town 174 = .ok (.iastore, 1) := by decide +kernel
theorem dX12_town_175 : decode cX12_town 175 = .ok (.aload_n 0, 1) := by decide +kernel
theorem dX12_town_176 : decode cX12_town 176 = .ok (.getfield 28, 3) := by decide +kernel
theorem dX12_town_179 : decode cX12_town 179 = .ok (.iconst 0, 1) := by decide +kernel
theorem dX12_town_180 : decode cX12_town 180 = .ok (.aload_n 0, 1) := by decide +kernel
theorem dX12_town_181 : decode cX12_town 181 = .ok (.getfield 25, 3) := by decide +kernel
theorem dX12_town_184 : decode cX12_town 184 = .ok (.iconst 0, 1) := by decide +kernel
theorem dX12_town_185 : decode cX12_town 185 = .ok (.invokestatic 125, 3) := by decide +kernel
theorem dX12_town_188 : decode cX12_town 188 = .ok (.aload_n 0, 1) := by decide +kernel
theorem dX12_town_189 : decode cX12_town 189 = .ok (.iconst 0, 1) := by decide +kernel
theorem dX12_town_190 : decode cX12_town 190 = .ok (.putfield 129, 3) := by decide +kernel
theorem dX12_town_193 : decode cX12_town 193 = .ok (.aload_n 0, 1) := by decide +kernel
theorem dX12_town_194 : decode cX12_town 194 = .ok (.getfield 25, 3) := by decide +kernel
theorem dX12_town_197 : decode cX12_town 197 = .ok (.iconst 3, 1) := by decide +kernel
theorem dX12_town_198 : decode cX12_town 198 = .ok (.iaload, 1) := by decide +kernel
theorem dX12_town_199 : decode cX12_town 199 = .ok (.ireturn, 1) := by decide +kernel
theorem dX12_fault_0 : decode cX12_fault 0 = .ok (.aload_n 0, 1) := by decide +kernel
theorem dX12_fault_1 : decode cX12_fault 1 = .ok (.getfield 102, 3) := by decide +kernel
theorem dX12_fault_4 : decode cX12_fault 4 = .ok (.ireturn, 1) := by decide +kernel
theorem dX12_isTown_0 : decode cX12_isTown 0 = .ok (.aload_n 0, 1) := by decide +kernel
theorem dX12_isTown_1 : decode cX12_isTown 1 = .ok (.getfield 25, 3) := by decide +kernel
theorem dX12_isTown_4 : decode cX12_isTown 4 = .ok (.iconst 0, 1) := by decide +kernel
theorem dX12_isTown_5 : decode cX12_isTown 5 = .ok (.iaload, 1) := by decide +kernel
theorem dX12_isTown_6 : decode cX12_isTown 6 = .ok (.iconst 1, 1) := by decide +kernel
theorem dX12_isTown_7 : decode cX12_isTown 7 = .ok (.if_icmp .ne 7, 3) := by decide +kernel
theorem dX12_isTown_10 : decode cX12_isTown 10 = .ok (.iconst 1, 1) := by decide +kernel
theorem dX12_isTown_11 : decode cX12_isTown 11 = .ok (.goto 4, 3) := by decide +kernel
theorem dX12_isTown_14 : decode cX12_isTown 14 = .ok (.iconst 0, 1) := by decide +kernel
theorem dX12_isTown_15 : decode cX12_isTown 15 = .ok (.ireturn, 1) := by decide +kernel
set_option maxRecDepth 20000 in
theorem ggX12_isReader_X12_in : GoodIn wsX12_isReader wsX12_in := goodIn_r _ [5] (by decide +kernel) (by decide +kernel)
set_option maxRecDepth 20000 in
theorem gX12_isReader_X12_in : GoodIn wsX12_isReader (va_wsS RX12 50 yX12_in wsX12_in) := goodIn_app (goodIn_of _ (by decide +kernel)) ggX12_isReader_X12_in
theorem dX12_isReader_0 : decode cX12_isReader 0 = .ok (.iload_n 1, 1) := by decide +kernel
theorem dX12_isReader_1 : decode cX12_isReader 1 = .ok (.iconst 0, 1) := by decide +kernel
theorem dX12_isReader_2 : decode cX12_isReader 2 = .ok (.aload_n 0, 1) := by decide +kernel
theorem dX12_isReader_3 : decode cX12_isReader 3 = .ok (.getfield 25, 3) := by decide +kernel
theorem dX12_isReader_6 : decode cX12_isReader 6 = .ok (.iconst 3, 1) := by decide +kernel
theorem dX12_isReader_7 : decode cX12_isReader 7 = .ok (.iaload, 1) := by decide +kernel
theorem dX12_isReader_8 : decode cX12_isReader 8 = .ok (.iconst 1, 1) := by decide +kernel
theorem dX12_isReader_9 : decode cX12_isReader 9 = .ok (.isub, 1) := by decide +kernel
theorem dX12_isReader_10 : decode cX12_isReader 10 = .ok (.invokestatic 50, 3) := by decide +kernel
theorem dX12_isReader_13 : decode cX12_isReader 13 = .ok (.ireturn, 1) := by decide +kernel
set_option maxRecDepth 20000 in
theorem ggX12_isFar_X12_in : GoodIn wsX12_isFar wsX12_in := goodIn_r _ [4] (by decide +kernel) (by decide +kernel)
set_option maxRecDepth 20000 in
theorem gX12_isFar_X12_in : GoodIn wsX12_isFar (va_wsS RX12 50 yX12_in wsX12_in) := goodIn_app (goodIn_of _ (by decide +kernel)) ggX12_isFar_X12_in
theorem dX12_isFar_0 : decode cX12_isFar 0 = .ok (.iload_n 0, 1) := by decide +kernel
theorem dX12_isFar_1 : decode cX12_isFar 1 = .ok (.iconst 0, 1) := by decide +kernel
theorem dX12_isFar_2 : decode cX12_isFar 2 = .ok (.bipush 60, 2) := by decide +kernel
theorem dX12_isFar_4 : decode cX12_isFar 4 = .ok (.invokestatic 50, 3) := by decide +kernel
theorem dX12_isFar_7 : decode cX12_isFar 7 = .ok (.ireturn, 1) := by decide +kernel
set_option maxRecDepth 20000 in
theorem ggX12_least_X12_has : GoodIn wsX12_least wsX12_has := goodIn_r _ [4] (by decide +kernel) (by decide +kernel)
set_option maxRecDepth 20000 in
theorem gX12_least_X12_has : GoodIn wsX12_least (va_wsS RX12 132 yX12_has wsX12_has) := goodIn_app (goodIn_of _ (by decide +kernel)) ggX12_least_X12_has
theorem dX12_least_0 : decode cX12_least 0 = .ok (.iconst 0, 1) := by decide +kernel
theorem dX12_least_1 : decode cX12_least 1 = .ok (.istore_n 1, 1) := by decide +kernel
theorem dX12_least_2 : decode cX12_least 2 = .ok (.iload_n 1, 1) := by decide +kernel
theorem dX12_least_3 : decode cX12_least 3 = .ok (.bipush 6, 2) := by decide +kernel
theorem dX12_least_5 : decode cX12_least 5 = .ok (.if_icmp .ge 21, 3) := by decide +kernel
theorem dX12_least_8 : decode cX12_least 8 = .ok (.iload_n 0, 1) := by decide +kernel
theorem dX12_least_9 : decode cX12_least 9 = .ok (.iload_n 1, 1) := by decide +kernel
theorem dX12_least_10 : decode cX12_least 10 = .ok (.invokestatic 132, 3) := by decide +kernel
theorem dX12_least_13 : decode cX12_least 13 = .ok (.ifCond .eq 7, 3) := by decide +kernel
theorem dX12_least_16 : decode cX12_least 16 = .ok (.iconst 1, 1) := by decide +kernel
theorem dX12_least_17 : decode cX12_least 17 = .ok (.iload_n 1, 1) := by decide +kernel
theorem dX12_least_18 : decode cX12_least 18 = .ok (.ishl, 1) := by decide +kernel
theorem dX12_least_19 : decode cX12_least 19 = .ok (.ireturn, 1) := by decide +kernel
theorem dX12_least_20 : decode cX12_least 20 = .ok (.iinc 1 1, 3) := by decide +kernel
theorem dX12_least_23 : decode cX12_least 23 = .ok (.goto (-21), 3) := by decide +kernel
theorem dX12_least_26 : decode cX12_least 26 = .ok (.iconst 0, 1) := by decide +kernel
theorem dX12_least_27 : decode cX12_least 27 = .ok (.ireturn, 1) := by decide +kernel
set_option maxRecDepth 20000 in
theorem ggX12_does_X12_least : GoodIn wsX12_does wsX12_least := goodIn_r _ [4, 5, 6, 3, 7] (by decide +kernel) (by decide +kernel)
set_option maxRecDepth 20000 in
theorem gX12_does_X12_least : GoodIn wsX12_does (va_wsS RX12 136 yX12_least wsX12_least) := goodIn_app (goodIn_of _ (by decide +kernel)) ggX12_does_X12_least
set_option maxRecDepth 20000 in
theorem ggX12_does_X12_ones : GoodIn wsX12_does wsX12_ones := goodIn_r _ [10] (by decide +kernel) (by decide +kernel)
set_option maxRecDepth 20000 in
theorem gX12_does_X12_ones : GoodIn wsX12_does (va_wsS RX12 139 yX12_ones wsX12_ones) := goodIn_app (goodIn_of _ (by decide +kernel)) ggX12_does_X12_ones
theorem dX12_does_0 : decode cX12_does 0 = .ok (.iload_n 2, 1) := by decide +kernel
theorem dX12_does_1 : decode cX12_does 1 = .ok (.iload_n 1, 1) := by decide +kernel
theorem dX12_does_2 : decode cX12_does 2 = .ok (.iconst (-1), 1) := by decide +kernel
theorem dX12_does_3 : decode cX12_does 3 = .ok (.ixor, 1) := by decide +kernel
theorem dX12_does_4 : decode cX12_does 4 = .ok (.iand, 1) := by decide +kernel
theorem dX12_does_5 : decode cX12_does 5 = .ok (.istore 4, 2) := by decide +kernel
theorem dX12_does_7 : decode cX12_does 7 = .ok (.bipush 63, 2) := by decide +kernel
theorem dX12_does_9 : decode cX12_does 9 = .ok (.iload_n 2, 1) := by decide +kernel
theorem dX12_does_10 : decode cX12_does 10 = .ok (.iconst (-1), 1) := by decide +kernel
theorem dX12_does_11 : decode cX12_does 11 = .ok (.ixor, 1) := by decide +kernel
theorem dX12_does_12 : decode cX12_does 12 = .ok (.iand, 1) := by decide +kernel
theorem dX12_does_13 : decode cX12_does 13 = .ok (.iload_n 1, 1) := by decide +kernel
theorem dX12_does_14 : decode cX12_does 14 = .ok (.iconst (-1), 1) := by decide +kernel
theorem dX12_does_15 : decode cX12_does 15 = .ok (.ixor, 1) := by decide +kernel
theorem dX12_does_16 : decode cX12_does 16 = .ok (.iand, 1) := by decide +kernel
theorem dX12_does_17 : decode cX12_does 17 = .ok (.istore 5, 2) := by decide +kernel
theorem dX12_does_19 : decode cX12_does 19 = .ok (.iload_n 0, 1) := by decide +kernel
theorem dX12_does_20 : decode cX12_does 20 = .ok (.tableswitch 83 1 4 #[32, 38, 58, 77], 32) := by decide +kernel
theorem dX12_does_52 : decode cX12_does 52 = .ok (.iload 4, 2) := by decide +kernel
theorem dX12_does_54 : decode cX12_does 54 = .ok (.invokestatic 136, 3) := by decide +kernel
theorem dX12_does_57 : decode cX12_does 57 = .ok (.ireturn, 1) := by decide +kernel
theorem dX12_does_58 : decode cX12_does 58 = .ok (.iload 4, 2) := by decide +kernel
theorem dX12_does_60 : decode cX12_does 60 = .ok (.invokestatic 136, 3) := by decide +kernel
theorem dX12_does_63 : decode cX12_does 63 = .ok (.iload 4, 2) := by decide +kernel
theorem dX12_does_65 : decode cX12_does 65 = .ok (.iload 4, 2) := by decide +kernel
theorem dX12_does_67 : decode cX12_does 67 = .ok (.invokestatic 136, 3) := by decide +kernel
theorem dX12_does_70 : decode cX12_does 70 = .ok (.iconst (-1), 1) := by decide +kernel
theorem dX12_does_71 : decode cX12_does 71 = .ok (.ixor, 1) := by decide +kernel
theorem dX12_does_72 : decode cX12_does 72 = .ok (.iand, 1) := by decide +kernel
theorem dX12_does_73 : decode cX12_does 73 = .ok (.invokestatic 136, 3) := by decide +kernel
theorem dX12_does_76 : decode cX12_does 76 = .ok (.ior, 1) := by decide +kernel
theorem dX12_does_77 : decode cX12_does 77 = .ok (.ireturn, 1) := by decide +kernel
theorem dX12_does_78 : decode cX12_does 78 = .ok (.iload 4, 2) := by decide +kernel
theorem dX12_does_80 : decode cX12_does 80 = .ok (.invokestatic 139, 3) := by decide +kernel
theorem dX12_does_83 : decode cX12_does 83 = .ok (.iconst 3, 1) := by decide +kernel
theorem dX12_does_84 : decode cX12_does 84 = .ok (.if_icmp .ge 11, 3) := by decide +kernel
theorem dX12_does_87 : decode cX12_does 87 = .ok (.iload 4, 2) := by decide +kernel
theorem dX12_does_89 : decode cX12_does 89 = .ok (.invokestatic 136, 3) := by decide +kernel
theorem dX12_does_92 : decode cX12_does 92 = .ok (.goto 4, 3) := by decide +kernel
theorem dX12_does_95 : decode cX12_does 95 = .ok (.iconst 0, 1) := by decide +kernel
theorem dX12_does_96 : decode cX12_does 96 = .ok (.ireturn, 1) := by decide +kernel
theorem dX12_does_97 : decode cX12_does 97 = .ok (.iload 5, 2) := by decide +kernel
theorem dX12_does_99 : decode cX12_does 99 = .ok (.invokestatic 136, 3) := by decide +kernel
theorem dX12_does_102 : decode cX12_does 102 = .ok (.ireturn, 1) := by decide +kernel
theorem dX12_does_103 : decode cX12_does 103 = .ok (.iload_n 3, 1) := by decide +kernel
theorem dX12_does_104 : decode cX12_does 104 = .ok (.iconst 2, 1) := by decide +kernel
theorem dX12_does_105 : decode cX12_does 105 = .ok (.irem, 1) := by decide +kernel
theorem dX12_does_106 : decode cX12_does 106 = .ok (.ifCond .ne 11, 3) := by decide +kernel
theorem dX12_does_109 : decode cX12_does 109 = .ok (.iload 5, 2) := by decide +kernel
theorem dX12_does_111 : decode cX12_does 111 = .ok (.invokestatic 136, 3) := by decide +kernel
theorem dX12_does_114 : decode cX12_does 114 = .ok (.goto 4, 3) := by decide +kernel
theorem dX12_does_117 : decode cX12_does 117 = .ok (.iconst 0, 1) := by decide +kernel
theorem dX12_does_118 : decode cX12_does 118 = .ok (.ireturn, 1) := by decide +kernel
set_option maxRecDepth 20000 in
theorem ggX12_doneIn_X12_does : GoodIn wsX12_doneIn wsX12_does := goodIn_r _ [5, 6, 7, 4, 8, 9, 10, 11, 12, 13, 14] (by decide +kernel) (by decide +kernel)
set_option maxRecDepth 20000 in
theorem gX12_doneIn_X12_does : GoodIn wsX12_doneIn (va_wsS RX12 142 yX12_does wsX12_does) := goodIn_app (goodIn_of _ (by decide +kernel)) ggX12_doneIn_X12_does
theorem dX12_doneIn_0 : decode cX12_doneIn 0 = .ok (.aload_n 0, 1) := by decide +kernel
theorem dX12_doneIn_1 : decode cX12_doneIn 1 = .ok (.getfield 25, 3) := by decide +kernel
theorem dX12_doneIn_4 : decode cX12_doneIn 4 = .ok (.iconst 4, 1) := by decide +kernel
theorem dX12_doneIn_5 : decode cX12_doneIn 5 = .ok (.iconst 4, 1) := by decide +kernel
theorem dX12_doneIn_6 : decode cX12_doneIn 6 = .ok (.iload_n 1, 1) := by decide +kernel
theorem dX12_doneIn_7 : decode cX12_doneIn 7 = .ok (.imul, 1) := by decide +kernel
theorem dX12_doneIn_8 : decode cX12_doneIn 8 = .ok (.iadd, 1) := by decide +kernel
theorem dX12_doneIn_9 : decode cX12_doneIn 9 = .ok (.iconst 3, 1) := by decide +kernel
theorem dX12_doneIn_10 : decode cX12_doneIn 10 = .ok (.iadd, 1) := by decide +kernel
theorem dX12_doneIn_11 : decode cX12_doneIn 11 = .ok (.iaload, 1) := by decide +kernel
theorem dX12_doneIn_12 : decode cX12_doneIn 12 = .ok (.istore 6, 2) := by decide +kernel
theorem dX12_doneIn_14 : decode cX12_doneIn 14 = .ok (.iload_n 3, 1) := by decide +kernel
theorem dX12_doneIn_15 : decode cX12_doneIn 15 = .ok (.istore 7, 2) := by decide +kernel
theorem dX12_doneIn_17 : decode cX12_doneIn 17 = .ok (.iconst 0, 1) := by decide +kernel
theorem dX12_doneIn_18 : decode cX12_doneIn 18 = .ok (.istore 8, 2) := by decide +kernel
theorem dX12_doneIn_20 : decode cX12_doneIn 20 = .ok (.iload 8, 2) := by decide +kernel
theorem dX12_doneIn_22 : decode cX12_doneIn 22 = .ok (.iload 5, 2) := by decide +kernel
theorem dX12_doneIn_24 : decode cX12_doneIn 24 = .ok (.if_icmp .ge 38, 3) := by decide +kernel
theorem dX12_doneIn_27 : decode cX12_doneIn 27 = .ok (.iload 8, 2) := by decide +kernel
theorem dX12_doneIn_29 : decode cX12_doneIn 29 = .ok (.iload 6, 2) := by decide +kernel
theorem dX12_doneIn_31 : decode cX12_doneIn 31 = .ok (.if_icmp .ge 31, 3) := by decide +kernel
theorem dX12_doneIn_34 : decode cX12_doneIn 34 = .ok (.iload 7, 2) := by decide +kernel
theorem dX12_doneIn_36 : decode cX12_doneIn 36 = .ok (.iload_n 2, 1) := by decide +kernel
theorem dX12_doneIn_37 : decode cX12_doneIn 37 = .ok (.iload 7, 2) := by decide +kernel
theorem dX12_doneIn_39 : decode cX12_doneIn 39 = .ok (.iload 4, 2) := by decide +kernel
theorem dX12_doneIn_41 : decode cX12_doneIn 41 = .ok (.aload_n 0, 1) := by decide +kernel
theorem dX12_doneIn_42 : decode cX12_doneIn 42 = .ok (.getfield 25, 3) := by decide +kernel
theorem dX12_doneIn_45 : decode cX12_doneIn 45 = .ok (.iconst 2, 1) := by decide +kernel
theorem dX12_doneIn_46 : decode cX12_doneIn 46 = .ok (.iaload, 1) := by decide +kernel
theorem dX12_doneIn_47 : decode cX12_doneIn 47 = .ok (.iload 8, 2) := by decide +kernel
theorem dX12_doneIn_49 : decode cX12_doneIn 49 = .ok (.iadd, 1) := by decide +kernel
theorem dX12_doneIn_50 : decode cX12_doneIn 50 = .ok (.invokestatic 142, 3) := by decide +kernel
theorem dX12_doneIn_53 : decode cX12_doneIn 53 = .ok (.ior, 1) := by decide +kernel
theorem dX12_doneIn_54 : decode cX12_doneIn 54 = .ok (.istore 7, 2) := by decide +kernel
theorem dX12_doneIn_56 : decode cX12_doneIn 56 = .ok (.iinc 8 1, 3) := by decide +kernel
theorem dX12_doneIn_59 : decode cX12_doneIn 59 = .ok (.goto (-39), 3) := by decide +kernel
theorem dX12_doneIn_62 : decode cX12_doneIn 62 = .ok (.iload 7, 2) := by decide +kernel
theorem dX12_doneIn_64 : decode cX12_doneIn 64 = .ok (.ireturn, 1) := by decide +kernel
set_option maxRecDepth 20000 in
theorem ggX12_deedsIn_X12_doneIn : GoodIn wsX12_deedsIn wsX12_doneIn := goodIn_r _ [6, 1, 7, 8, 5, 9, 10, 11, 12, 13, 14, 15, 16, 17, 18, 19, 20, 21, 22, 23, 24, 25, 26, 27, 28, 29, 30, 31, 32, 33, 34, 35, 36, 37, 38, 39] (by decide +kernel) (by decide +kernel)
set_option maxRecDepth 20000 in
theorem gX12_deedsIn_X12_doneIn : GoodIn wsX12_deedsIn (wsV RX12 146 RX12 yX12_doneIn wsX12_doneIn) := goodIn_app (goodIn_of _ (by decide +kernel)) ggX12_deedsIn_X12_doneIn
theorem dX12_deedsIn_0 : decode cX12_deedsIn 0 = .ok (.iconst 4, 1) := by decide +kernel
theorem dX12_deedsIn_1 : decode cX12_deedsIn 1 = .ok (.iconst 4, 1) := by decide +kernel
theorem dX12_deedsIn_2 : decode cX12_deedsIn 2 = .ok (.iload_n 1, 1) := by decide +kernel
theorem dX12_deedsIn_3 : decode cX12_deedsIn 3 = .ok (.imul, 1) := by decide +kernel
theorem dX12_deedsIn_4 : decode cX12_deedsIn 4 = .ok (.iadd, 1) := by decide +kernel
theorem dX12_deedsIn_5 : decode cX12_deedsIn 5 = .ok (.istore_n 3, 1) := by decide +kernel
theorem dX12_deedsIn_6 : decode cX12_deedsIn 6 = .ok (.aload_n 0, 1) := by decide +kernel
theorem dX12_deedsIn_7 : decode cX12_deedsIn 7 = .ok (.iload_n 1, 1) := by decide +kernel
theorem dX12_deedsIn_8 : decode cX12_deedsIn 8 = .ok (.aload_n 0, 1) := by decide +kernel
theorem dX12_deedsIn_9 : decode cX12_deedsIn 9 = .ok (.getfield 25, 3) := by decide +kernel
theorem dX12_deedsIn_12 : decode cX12_deedsIn 12 = .ok (.iload_n 3, 1) := by decide +kernel
theorem dX12_deedsIn_13 : decode cX12_deedsIn 13 = .ok (.iaload, 1) := by decide +kernel
theorem dX12_deedsIn_14 : decode cX12_deedsIn 14 = .ok (.aload_n 0, 1) := by decide +kernel
theorem dX12_deedsIn_15 : decode cX12_deedsIn 15 = .ok (.getfield 25, 3) := by decide +kernel
theorem dX12_deedsIn_18 : decode cX12_deedsIn 18 = .ok (.iload_n 3, 1) := by decide +kernel
theorem dX12_deedsIn_19 : decode cX12_deedsIn 19 = .ok (.iconst 1, 1) := by decide +kernel
theorem dX12_deedsIn_20 : decode cX12_deedsIn 20 = .ok (.iadd, 1) := by decide +kernel
theorem dX12_deedsIn_21 : decode cX12_deedsIn 21 = .ok (.iaload, 1) := by decide +kernel
theorem dX12_deedsIn_22 : decode cX12_deedsIn 22 = .ok (.aload_n 0, 1) := by decide +kernel
theorem dX12_deedsIn_23 : decode cX12_deedsIn 23 = .ok (.getfield 25, 3) := by decide +kernel
theorem dX12_deedsIn_26 : decode cX12_deedsIn 26 = .ok (.iload_n 3, 1) := by decide +kernel
theorem dX12_deedsIn_27 : decode cX12_deedsIn 27 = .ok (.iconst 2, 1) := by decide +kernel
theorem dX12_deedsIn_28 : decode cX12_deedsIn 28 = .ok (.iadd, 1) := by decide +kernel
theorem dX12_deedsIn_29 : decode cX12_deedsIn 29 = .ok (.iaload, 1) := by decide +kernel
theorem dX12_deedsIn_30 : decode cX12_deedsIn 30 = .ok (.iload_n 2, 1) := by decide +kernel
theorem dX12_deedsIn_31 : decode cX12_deedsIn 31 = .ok (.invokevirtual 146, 3) := by decide +kernel
theorem dX12_deedsIn_34 : decode cX12_deedsIn 34 = .ok (.ireturn, 1) := by decide +kernel
theorem dX12_lives_0 : decode cX12_lives 0 = .ok (.aload_n 0, 1) := by decide +kernel
theorem dX12_lives_1 : decode cX12_lives 1 = .ok (.getfield 25, 3) := by decide +kernel
theorem dX12_lives_4 : decode cX12_lives 4 = .ok (.iconst 4, 1) := by decide +kernel
theorem dX12_lives_5 : decode cX12_lives 5 = .ok (.iconst 4, 1) := by decide +kernel
theorem dX12_lives_6 : decode cX12_lives 6 = .ok (.iload_n 1, 1) := by decide +kernel
theorem dX12_lives_7 : decode cX12_lives 7 = .ok (.imul, 1) := by decide +kernel
theorem dX12_lives_8 : decode cX12_lives 8 = .ok (.iadd, 1) := by decide +kernel
theorem dX12_lives_9 : decode cX12_lives 9 = .ok (.iconst 3, 1) := by decide +kernel
theorem dX12_lives_10 : decode cX12_lives 10 = .ok (.iadd, 1) := by decide +kernel
theorem dX12_lives_11 : decode cX12_lives 11 = .ok (.iaload, 1) := by decide +kernel
theorem dX12_lives_12 : decode cX12_lives 12 = .ok (.ifCond .le 7, 3) := by decide +kernel
theorem dX12_lives_15 : decode cX12_lives 15 = .ok (.iconst 1, 1) := by decide +kernel
theorem dX12_lives_16 : decode cX12_lives 16 = .ok (.goto 4, 3) := by decide +kernel
theorem dX12_lives_19 : decode cX12_lives 19 = .ok (.iconst 0, 1) := by decide +kernel
theorem dX12_lives_20 : decode cX12_lives 20 = .ok (.ireturn, 1) := by decide +kernel
set_option maxRecDepth 20000 in
theorem ggX12_falseIn_X12_deedsIn : GoodIn wsX12_falseIn wsX12_deedsIn := goodIn_r _ [6, 1, 7, 8, 9, 5, 10, 11, 12, 13, 14, 15, 16, 17, 18, 19, 20, 21, 22, 23, 24, 25, 26, 27, 28, 29, 30, 31, 32, 33, 34, 35, 36, 37, 38, 39, 40, 41, 42, 43] (by decide +kernel) (by decide +kernel)
set_option maxRecDepth 20000 in
theorem gX12_falseIn_X12_deedsIn : GoodIn wsX12_falseIn (wsV RX12 150 RX12 yX12_deedsIn wsX12_deedsIn) := goodIn_app (goodIn_of _ (by decide +kernel)) ggX12_falseIn_X12_deedsIn
set_option maxRecDepth 20000 in
theorem ggX12_falseIn_X12_ones : GoodIn wsX12_falseIn wsX12_ones := goodIn_r _ [22] (by decide +kernel) (by decide +kernel)
set_option maxRecDepth 20000 in
theorem gX12_falseIn_X12_ones : GoodIn wsX12_falseIn (va_wsS RX12 139 yX12_ones wsX12_ones) := goodIn_app (goodIn_of _ (by decide +kernel)) ggX12_falseIn_X12_ones
theorem dX12_falseIn_0 : decode cX12_falseIn 0 = .ok (.aload_n 0, 1) := by decide +kernel
theorem dX12_falseIn_1 : decode cX12_falseIn 1 = .ok (.iload_n 1, 1) := by decide +kernel
theorem dX12_falseIn_2 : decode cX12_falseIn 2 = .ok (.iload_n 2, 1) := by decide +kernel
theorem dX12_falseIn_3 : decode cX12_falseIn 3 = .ok (.invokevirtual 150, 3) := by decide +kernel
theorem dX12_falseIn_6 : decode cX12_falseIn 6 = .ok (.aload_n 0, 1) := by decide +kernel
theorem dX12_falseIn_7 : decode cX12_falseIn 7 = .ok (.getfield 25, 3) := by decide +kernel
theorem dX12_falseIn_10 : decode cX12_falseIn 10 = .ok (.iconst 4, 1) := by decide +kernel
theorem dX12_falseIn_11 : decode cX12_falseIn 11 = .ok (.iconst 4, 1) := by decide +kernel
theorem dX12_falseIn_12 : decode cX12_falseIn 12 = .ok (.iload_n 1, 1) := by decide +kernel
theorem dX12_falseIn_13 : decode cX12_falseIn 13 = .ok (.imul, 1) := by decide +kernel
theorem dX12_falseIn_14 : decode cX12_falseIn 14 = .ok (.iadd, 1) := by decide +kernel
theorem dX12_falseIn_15 : decode cX12_falseIn 15 = .ok (.iconst 2, 1) := by decide +kernel
theorem dX12_falseIn_16 : decode cX12_falseIn 16 = .ok (.iadd, 1) := by decide +kernel
theorem dX12_falseIn_17 : decode cX12_falseIn 17 = .ok (.iaload, 1) := by decide +kernel
theorem dX12_falseIn_18 : decode cX12_falseIn 18 = .ok (.ixor, 1) := by decide +kernel
theorem dX12_falseIn_19 : decode cX12_falseIn 19 = .ok (.invokestatic 139, 3) := by decide +kernel
theorem dX12_falseIn_22 : decode cX12_falseIn 22 = .ok (.ireturn, 1) := by decide +kernel
set_option maxRecDepth 20000 in
theorem ggX12_notes_X12_copies : GoodIn wsX12_notes wsX12_copies := goodIn_r _ [7] (by decide +kernel) (by decide +kernel)
set_option maxRecDepth 20000 in
theorem gX12_notes_X12_copies : GoodIn wsX12_notes (va_wsS RX12 125 yX12_copies wsX12_copies) := goodIn_app (goodIn_of _ (by decide +kernel)) ggX12_notes_X12_copies
theorem dX12_notes_0 : decode cX12_notes 0 = .ok (.aload_n 0, 1) := by decide +kernel
theorem dX12_notes_1 : decode cX12_notes 1 = .ok (.getfield 129, 3) := by decide +kernel
theorem dX12_notes_4 : decode cX12_notes 4 = .ok (.bipush 24, 2) := by decide +kernel
theorem dX12_notes_6 : decode cX12_notes 6 = .ok (.if_icmp .ne 43, 3) := by decide +kernel
theorem dX12_notes_9 : decode cX12_notes 9 = .ok (.iconst 0, 1) := by decide +kernel
theorem dX12_notes_10 : decode cX12_notes 10 = .ok (.istore_n 1, 1) := by decide +kernel
theorem dX12_notes_11 : decode cX12_notes 11 = .ok (.iload_n 1, 1) := by decide +kernel
theorem dX12_notes_12 : decode cX12_notes 12 = .ok (.sipush 644, 3) := by decide +kernel
theorem dX12_notes_15 : decode cX12_notes 15 = .ok (.if_icmp .ge 24, 3) := by decide +kernel
theorem dX12_notes_18 : decode cX12_notes 18 = .ok (.aload_n 0, 1) := by decide +kernel
theorem dX12_notes_19 : decode cX12_notes 19 = .ok (.getfield 31, 3) := by decide +kernel
theorem dX12_notes_22 : decode cX12_notes 22 = .ok (.iload_n 1, 1) := by decide +kernel
theorem dX12_notes_23 : decode cX12_notes 23 = .ok (.aload_n 0, 1) := by decide +kernel
theorem dX12_notes_24 : decode cX12_notes 24 = .ok (.getfield 31, 3) := by decide +kernel
theorem dX12_notes_27 : decode cX12_notes 27 = .ok (.iload_n 1, 1) := by decide +kernel
theorem dX12_notes_28 : decode cX12_notes 28 = .ok (.bipush 28, 2) := by decide +kernel
theorem dX12_notes_30 : decode cX12_notes 30 = .ok (.iadd, 1) := by decide +kernel
theorem dX12_notes_31 : decode cX12_notes 31 = .ok (.iaload, 1) := by decide +kernel
theorem dX12_notes_32 : decode cX12_notes 32 = .ok (.iastore, 1) := by decide +kernel
theorem dX12_notes_33 : decode cX12_notes 33 = .ok (.iinc 1 1, 3) := by decide +kernel
theorem dX12_notes_36 : decode cX12_notes 36 = .ok (.goto (-25), 3) := by decide +kernel
theorem dX12_notes_39 : decode cX12_notes 39 = .ok (.aload_n 0, 1) := by decide +kernel
theorem dX12_notes_40 : decode cX12_notes 40 = .ok (.dup, 1) := by decide +kernel
theorem dX12_notes_41 : decode cX12_notes 41 = .ok (.getfield 129, 3) := by decide +kernel
theorem dX12_notes_44 : decode cX12_notes 44 = .ok (.iconst 1, 1) := by decide +kernel
theorem dX12_notes_45 : decode cX12_notes 45 = .ok (.isub, 1) := by decide +kernel
theorem dX12_notes_46 : decode cX12_notes 46 = .ok (.putfield 129, 3) := by decide +kernel
theorem dX12_notes_49 : decode cX12_notes 49 = .ok (.aload_n 0, 1) := by decide +kernel
theorem dX12_notes_50 : decode cX12_notes 50 = .ok (.getfield 25, 3) := by decide +kernel
theorem dX12_notes_53 : decode cX12_notes 53 = .ok (.iconst 0, 1) := by decide +kernel
theorem dX12_notes_54 : decode cX12_notes 54 = .ok (.aload_n 0, 1) := by decide +kernel
theorem dX12_notes_55 : decode cX12_notes 55 = .ok (.getfield 31, 3) := by decide +kernel
theorem dX12_notes_58 : decode cX12_notes 58 = .ok (.bipush 28, 2) := by decide +kernel
theorem dX12_notes_60 : decode cX12_notes 60 = .ok (.aload_n 0, 1) := by decide +kernel
theorem dX12_notes_61 : decode cX12_notes 61 = .ok (.getfield 129, 3) := by decide +kernel
theorem dX12_notes_64 : decode cX12_notes 64 = .ok (.imul, 1) := by decide +kernel
theorem dX12_notes_65 : decode cX12_notes 65 = .ok (.invokestatic 125, 3) := by decide +kernel
theorem dX12_notes_68 : decode cX12_notes 68 = .ok (.aload_n 0, 1) := by decide +kernel
theorem dX12_notes_69 : decode cX12_notes 69 = .ok (.dup, 1) := by decide +kernel
theorem dX12_notes_70 : decode cX12_notes 70 = .ok (.getfield 129, 3) := by decide +kernel
theorem dX12_notes_73 : decode cX12_notes 73 = .ok (.iconst 1, 1) := by decide +kernel
theorem dX12_notes_74 : decode cX12_notes 74 = .ok (.iadd, 1) := by decide +kernel
theorem dX12_notes_75 : decode cX12_notes 75 = .ok (.putfield 129, 3) := by decide +kernel
theorem dX12_notes_78 : decode cX12_notes 78 = .ok (.return_, 1) := by decide +kernel
set_option maxRecDepth 20000 in
theorem ggX12_living_X12_lives : GoodIn wsX12_living wsX12_lives := goodIn_r _ [6, 1, 7, 8, 9, 10, 11, 12, 13, 14, 15, 16, 17, 18, 19, 20, 21, 22, 23, 24, 25, 26, 27] (by decide +kernel) (by decide +kernel)
set_option maxRecDepth 20000 in
theorem gX12_living_X12_lives : GoodIn wsX12_living (wsV RX12 153 RX12 yX12_lives wsX12_lives) := goodIn_app (goodIn_of _ (by decide +kernel)) ggX12_living_X12_lives
theorem dX12_living_0 : decode cX12_living 0 = .ok (.iconst 0, 1) := by decide +kernel
theorem dX12_living_1 : decode cX12_living 1 = .ok (.istore_n 1, 1) := by decide +kernel
theorem dX12_living_2 : decode cX12_living 2 = .ok (.iconst 0, 1) := by decide +kernel
theorem dX12_living_3 : decode cX12_living 3 = .ok (.istore_n 2, 1) := by decide +kernel
theorem dX12_living_4 : decode cX12_living 4 = .ok (.iload_n 2, 1) := by decide +kernel
theorem dX12_living_5 : decode cX12_living 5 = .ok (.aload_n 0, 1) := by decide +kernel
theorem dX12_living_6 : decode cX12_living 6 = .ok (.getfield 25, 3) := by decide +kernel
theorem dX12_living_9 : decode cX12_living 9 = .ok (.iconst 3, 1) := by decide +kernel
theorem dX12_living_10 : decode cX12_living 10 = .ok (.iaload, 1) := by decide +kernel
theorem dX12_living_11 : decode cX12_living 11 = .ok (.if_icmp .ge 27, 3) := by decide +kernel
theorem dX12_living_14 : decode cX12_living 14 = .ok (.iload_n 1, 1) := by decide +kernel
theorem dX12_living_15 : decode cX12_living 15 = .ok (.aload_n 0, 1) := by decide +kernel
theorem dX12_living_16 : decode cX12_living 16 = .ok (.iload_n 2, 1) := by decide +kernel
theorem dX12_living_17 : decode cX12_living 17 = .ok (.invokevirtual 153, 3) := by decide +kernel
theorem dX12_living_20 : decode cX12_living 20 = .ok (.ifCond .eq 9, 3) := by decide +kernel
theorem dX12_living_23 : decode cX12_living 23 = .ok (.iconst 1, 1) := by decide +kernel
theorem dX12_living_24 : decode cX12_living 24 = .ok (.iload_n 2, 1) := by decide +kernel
theorem dX12_living_25 : decode cX12_living 25 = .ok (.ishl, 1) := by decide +kernel
theorem dX12_living_26 : decode cX12_living 26 = .ok (.goto 4, 3) := by decide +kernel
theorem dX12_living_29 : decode cX12_living 29 = .ok (.iconst 0, 1) := by decide +kernel
theorem dX12_living_30 : decode cX12_living 30 = .ok (.ior, 1) := by decide +kernel
theorem dX12_living_31 : decode cX12_living 31 = .ok (.istore_n 1, 1) := by decide +kernel
theorem dX12_living_32 : decode cX12_living 32 = .ok (.iinc 2 1, 3) := by decide +kernel
theorem dX12_living_35 : decode cX12_living 35 = .ok (.goto (-31), 3) := by decide +kernel
theorem dX12_living_38 : decode cX12_living 38 = .ok (.iload_n 1, 1) := by decide +kernel
theorem dX12_living_39 : decode cX12_living 39 = .ok (.ireturn, 1) := by decide +kernel
set_option maxRecDepth 20000 in
theorem ggX12_days_X12_isTown : GoodIn wsX12_days wsX12_isTown := goodIn_r _ [9, 3, 50, 51, 52, 53, 54, 55, 56, 57, 58, 59, 60, 61, 62, 63, 64, 65, 66, 67, 68, 69, 70] (by decide +kernel) (by decide +kernel)
set_option maxRecDepth 20000 in
theorem gX12_days_X12_isTown : GoodIn wsX12_days (wsV RX12 156 RX12 yX12_isTown wsX12_isTown) := goodIn_app (goodIn_of _ (by decide +kernel)) ggX12_days_X12_isTown
set_option maxRecDepth 20000 in
theorem ggX12_days_X12_in : GoodIn wsX12_days wsX12_in := goodIn_r _ [12] (by decide +kernel) (by decide +kernel)
set_option maxRecDepth 20000 in
theorem gX12_days_X12_in : GoodIn wsX12_days (va_wsS RX12 50 yX12_in wsX12_in) := goodIn_app (goodIn_of _ (by decide +kernel)) ggX12_days_X12_in
set_option maxRecDepth 20000 in
theorem ggX12_days_X12_notes : GoodIn wsX12_days wsX12_notes := goodIn_r _ [16, 17, 18, 3, 19, 20, 8, 21, 50, 51, 52, 53, 54, 55, 56, 57, 58, 59, 60, 61, 62, 63, 64, 65, 66, 67, 68, 69, 70] (by decide +kernel) (by decide +kernel)
set_option maxRecDepth 20000 in
theorem gX12_days_X12_notes : GoodIn wsX12_days (wsV RX12 160 RX12 yX12_notes wsX12_notes) := goodIn_app (goodIn_of _ (by decide +kernel)) ggX12_days_X12_notes
set_option maxRecDepth 20000 in
theorem ggX12_days_X12_deedsIn : GoodIn wsX12_days wsX12_deedsIn := goodIn_r _ [25, 3, 26, 27, 28, 8, 29, 30, 31, 32, 33, 34, 35, 36, 37, 38, 39, 40, 41, 50, 51, 52, 53, 54, 55, 56, 57, 58, 59, 60, 61, 62, 63, 64, 65, 66, 67, 68, 69, 70] (by decide +kernel) (by decide +kernel)
set_option maxRecDepth 20000 in
theorem gX12_days_X12_deedsIn : GoodIn wsX12_days (wsV RX12 150 RX12 yX12_deedsIn wsX12_deedsIn) := goodIn_app (goodIn_of _ (by decide +kernel)) ggX12_days_X12_deedsIn
set_option maxRecDepth 20000 in
theorem ggX12_days_X12_lives : GoodIn wsX12_days wsX12_lives := goodIn_r _ [45, 3, 50, 51, 52, 53, 54, 55, 56, 57, 58, 59, 60, 61, 62, 63, 64, 65, 66, 67, 68, 69, 70] (by decide +kernel) (by decide +kernel)
set_option maxRecDepth 20000 in
theorem gX12_days_X12_lives : GoodIn wsX12_days (wsV RX12 153 RX12 yX12_lives wsX12_lives) := goodIn_app (goodIn_of _ (by decide +kernel)) ggX12_days_X12_lives
set_option maxRecDepth 20000 in
theorem ggX12_days_X12_living : GoodIn wsX12_days wsX12_living := goodIn_r _ [49, 3, 42, 43, 44, 8, 45, 50, 51, 52, 53, 54, 55, 56, 57, 58, 59, 60, 61, 62, 63, 64, 65, 66, 67, 68, 69, 70] (by decide +kernel) (by decide +kernel)
set_option maxRecDepth 20000 in
theorem gX12_days_X12_living : GoodIn wsX12_days (wsV RX12 163 RX12 yX12_living wsX12_living) := goodIn_app (goodIn_of _ (by decide +kernel)) ggX12_days_X12_living
theorem dX12_days_0 : decode cX12_days 0 = .ok (.aload_n 0, 1) := by decide +kernel
theorem dX12_days_1 : decode cX12_days 1 = .ok (.invokevirtual 156, 3) := by decide +kernel
theorem dX12_days_4 : decode cX12_days 4 = .ok (.ifCond .ne 6, 3) := by decide +kernel
theorem dX12_days_7 : decode cX12_days 7 = .ok (.ldc 159, 2) := by decide +kernel
theorem dX12_days_9 : decode cX12_days 9 = .ok (.ireturn, 1) := by decide +kernel
theorem dX12_days_10 : decode cX12_days 10 = .ok (.iload_n 1, 1) := by decide +kernel
theorem dX12_days_11 : decode cX12_days 11 = .ok (.iconst 1, 1) := by decide +kernel
theorem dX12_days_12 : decode cX12_days 12 = .ok (.bipush 20, 2) := by decide +kernel
theorem dX12_days_14 : decode cX12_days 14 = .ok (.invokestatic 50, 3) := by decide +kernel
theorem dX12_days_17 : decode cX12_days 17 = .ok (.ifCond .ne 6, 3) := by decide +kernel
theorem dX12_days_20 : decode cX12_days 20 = .ok (.ldc 58, 2) := by decide +kernel
theorem dX12_days_22 : decode cX12_days 22 = .ok (.ireturn, 1) := by decide +kernel
theorem dX12_days_23 : decode cX12_days 23 = .ok (.aload_n 0, 1) := by decide +kernel
theorem dX12_days_24 : decode cX12_days 24 = .ok (.getfield 25, 3) := by decide +kernel
theorem dX12_days_27 : decode cX12_days 27 = .ok (.iconst 2, 1) := by decide +kernel
theorem dX12_days_28 : decode cX12_days 28 = .ok (.iaload, 1) := by decide +kernel
theorem dX12_days_29 : decode cX12_days 29 = .ok (.iload_n 1, 1) := by decide +kernel
theorem dX12_days_30 : decode cX12_days 30 = .ok (.iadd, 1) := by decide +kernel
theorem dX12_days_31 : decode cX12_days 31 = .ok (.sipush 999, 3) := by decide +kernel
theorem dX12_days_34 : decode cX12_days 34 = .ok (.if_icmp .le 6, 3) := by decide +kernel
theorem dX12_days_37 : decode cX12_days 37 = .ok (.ldc 79, 2) := by decide +kernel
theorem dX12_days_39 : decode cX12_days 39 = .ok (.ireturn, 1) := by decide +kernel
theorem dX12_days_40 : decode cX12_days 40 = .ok (.iconst 0, 1) := by decide +kernel
theorem dX12_days_41 : decode cX12_days 41 = .ok (.istore_n 2, 1) := by decide +kernel
theorem dX12_days_42 : decode cX12_days 42 = .ok (.iload_n 2, 1) := by decide +kernel
theorem dX12_days_43 : decode cX12_days 43 = .ok (.iload_n 1, 1) := by decide +kernel
theorem dX12_days_44 : decode cX12_days 44 = .ok (.if_icmp .ge 87, 3) := by decide +kernel
theorem dX12_days_47 : decode cX12_days 47 = .ok (.aload_n 0, 1) := by decide +kernel
theorem dX12_days_48 : decode cX12_days 48 = .ok (.invokevirtual 160, 3) := by decide +kernel
theorem dX12_days_51 : decode cX12_days 51 = .ok (.iconst 0, 1) := by decide +kernel
theorem dX12_days_52 : decode cX12_days 52 = .ok (.istore_n 3, 1) := by decide +kernel
theorem dX12_days_53 : decode cX12_days 53 = .ok (.iload_n 3, 1) := by decide +kernel
theorem dX12_days_54 : decode cX12_days 54 = .ok (.aload_n 0, 1) := by decide +kernel
theorem dX12_days_55 : decode cX12_days 55 = .ok (.getfield 25, 3) := by decide +kernel
theorem dX12_days_58 : decode cX12_days 58 = .ok (.iconst 3, 1) := by decide +kernel
theorem dX12_days_59 : decode cX12_days 59 = .ok (.iaload, 1) := by decide +kernel
theorem dX12_days_60 : decode cX12_days 60 = .ok (.if_icmp .ge 55, 3) := by decide +kernel
theorem dX12_days_63 : decode cX12_days 63 = .ok (.aload_n 0, 1) := by decide +kernel
theorem dX12_days_64 : decode cX12_days 64 = .ok (.getfield 25, 3) := by decide +kernel
theorem dX12_days_67 : decode cX12_days 67 = .ok (.iconst 4, 1) := by decide +kernel
theorem dX12_days_68 : decode cX12_days 68 = .ok (.iconst 4, 1) := by decide +kernel
theorem dX12_days_69 : decode cX12_days 69 = .ok (.iload_n 3, 1) := by decide +kernel
theorem dX12_days_70 : decode cX12_days 70 = .ok (.imul, 1) := by decide +kernel
theorem dX12_days_71 : decode cX12_days 71 = .ok (.iadd, 1) := by decide +kernel
theorem dX12_days_72 : decode cX12_days 72 = .ok (.iconst 1, 1) := by decide +kernel
theorem dX12_days_73 : decode cX12_days 73 = .ok (.iadd, 1) := by decide +kernel
theorem dX12_days_74 : decode cX12_days 74 = .ok (.aload_n 0, 1) := by decide +kernel
theorem dX12_days_75 : decode cX12_days 75 = .ok (.iload_n 3, 1) := by decide +kernel
theorem dX12_days_76 : decode cX12_days 76 = .ok (.iconst 1, 1) := by decide +kernel
theorem dX12_days_77 : decode cX12_days 77 = .ok (.invokevirtual 150, 3) := by decide +kernel
theorem dX12_days_80 : decode cX12_days 80 = .ok (.iastore, 1) := by decide +kernel
theorem dX12_days_81 : decode cX12_days 81 = .ok (.aload_n 0, 1) := by decide +kernel
theorem dX12_days_82 : decode cX12_days 82 = .ok (.getfield 25, 3) := by decide +kernel
theorem dX12_days_85 : decode cX12_days 85 = .ok (.iconst 4, 1) := by decide +kernel
theorem dX12_days_86 : decode cX12_days 86 = .ok (.iconst 4, 1) := by decide +kernel
theorem dX12_days_87 : decode cX12_days 87 = .ok (.iload_n 3, 1) := by decide +kernel
theorem dX12_days_88 : decode cX12_days 88 = .ok (.imul, 1) := by decide +kernel
theorem dX12_days_89 : decode cX12_days 89 = .ok (.iadd, 1) := by decide +kernel
theorem dX12_days_90 : decode cX12_days 90 = .ok (.iconst 3, 1) := by decide +kernel
theorem dX12_days_91 : decode cX12_days 91 = .ok (.iadd, 1) := by decide +kernel
theorem dX12_days_92 : decode cX12_days 92 = .ok (.dup2, 1) := by decide +kernel
theorem dX12_days_93 : decode cX12_days 93 = .ok (.iaload, 1) := by decide +kernel
theorem dX12_days_94 : decode cX12_days 94 = .ok (.aload_n 0, 1) := by decide +kernel
theorem dX12_days_95 : decode cX12_days 95 = .ok (.iload_n 3, 1) := by decide +kernel
theorem dX12_days_96 : decode cX12_days 96 = .ok (.invokevirtual 153, 3) := by decide +kernel
theorem dX12_days_99 : decode cX12_days 99 = .ok (.ifCond .eq 7, 3) := by decide +kernel
theorem dX12_days_102 : decode cX12_days 102 = .ok (.iconst 1, 1) := by decide +kernel
theorem dX12_days_103 : decode cX12_days 103 = .ok (.goto 4, 3) := by decide +kernel
theorem dX12_days_106 : decode cX12_days 106 = .ok (.iconst 0, 1) := by decide +kernel
theorem dX12_days_107 : decode cX12_days 107 = .ok (.isub, 1) := by decide +kernel
theorem dX12_days_108 : decode cX12_days 108 = .ok (.iastore, 1) := by decide +kernel
theorem dX12_days_109 : decode cX12_days 109 = .ok (.iinc 3 1, 3) := by decide +kernel
theorem dX12_days_112 : decode cX12_days 112 = .ok (.goto (-59), 3) := by decide +kernel
theorem dX12_days_115 : decode cX12_days 115 = .ok (.aload_n 0, 1) := by decide +kernel
theorem dX12_days_116 : decode cX12_days 116 = .ok (.getfield 25, 3) := by decide +kernel
theorem dX12_days_119 : decode cX12_days 119 = .ok (.iconst 2, 1) := by decide +kernel
theorem dX12_days_120 : decode cX12_days 120 = .ok (.dup2, 1) := by decide +kernel
theorem dX12_days_121 : decode cX12_days 121 = .ok (.iaload, 1) := by decide +kernel
theorem dX12_days_122 : decode cX12_days 122 = .ok (.iconst 1, 1) := by decide +kernel
theorem dX12_days_123 : decode cX12_days 123 = .ok (.iadd, 1) := by decide +kernel
theorem dX12_days_124 : decode cX12_days 124 = .ok (.iastore, 1) := by decide +kernel
theorem dX12_days_125 : decode cX12_days 125 = .ok (.iinc 2 1, 3) := by decide +kernel
theorem dX12_days_128 : decode cX12_days 128 = .ok (.goto (-86), 3) := by decide +kernel
theorem dX12_days_131 : decode cX12_days 131 = .ok (.aload_n 0, 1) := by decide +kernel
theorem dX12_days_132 : decode cX12_days 132 = .ok (.invokevirtual 163, 3) := by decide +kernel
theorem dX12_days_135 : decode cX12_days 135 = .ok (.ireturn, 1) := by decide +kernel
set_option maxRecDepth 20000 in
theorem ggX12_write_X12_isReader : GoodIn wsX12_write wsX12_isReader := goodIn_r _ [8, 3, 9, 10, 7, 11, 25, 26, 27, 28, 29, 30, 31, 32, 33, 34, 35, 36, 37, 38, 39, 40, 41, 42, 43, 44, 45] (by decide +kernel) (by decide +kernel)
set_option maxRecDepth 20000 in
theorem gX12_write_X12_isReader : GoodIn wsX12_write (wsV RX12 167 RX12 yX12_isReader wsX12_isReader) := goodIn_app (goodIn_of _ (by decide +kernel)) ggX12_write_X12_isReader
set_option maxRecDepth 20000 in
theorem ggX12_write_X12_in : GoodIn wsX12_write wsX12_in := goodIn_r _ [11] (by decide +kernel) (by decide +kernel)
set_option maxRecDepth 20000 in
theorem gX12_write_X12_in : GoodIn wsX12_write (va_wsS RX12 50 yX12_in wsX12_in) := goodIn_app (goodIn_of _ (by decide +kernel)) ggX12_write_X12_in
set_option maxRecDepth 20000 in
theorem ggX12_write_X12_lives : GoodIn wsX12_write wsX12_lives := goodIn_r _ [15, 3, 25, 26, 27, 28, 29, 30, 31, 32, 33, 34, 35, 36, 37, 38, 39, 40, 41, 42, 43, 44, 45] (by decide +kernel) (by decide +kernel)
set_option maxRecDepth 20000 in
theorem gX12_write_X12_lives : GoodIn wsX12_write (wsV RX12 153 RX12 yX12_lives wsX12_lives) := goodIn_app (goodIn_of _ (by decide +kernel)) ggX12_write_X12_lives
set_option maxRecDepth 20000 in
theorem ggX12_write_X12_notes : GoodIn wsX12_write wsX12_notes := goodIn_r _ [19, 20, 21, 3, 22, 23, 7, 24, 25, 26, 27, 28, 29, 30, 31, 32, 33, 34, 35, 36, 37, 38, 39, 40, 41, 42, 43, 44, 45] (by decide +kernel) (by decide +kernel)
set_option maxRecDepth 20000 in
theorem gX12_write_X12_notes : GoodIn wsX12_write (wsV RX12 160 RX12 yX12_notes wsX12_notes) := goodIn_app (goodIn_of _ (by decide +kernel)) ggX12_write_X12_notes
theorem dX12_write_0 : decode cX12_write 0 = .ok (.aload_n 0, 1) := by decide +kernel
theorem dX12_write_1 : decode cX12_write 1 = .ok (.iload_n 1, 1) := by decide +kernel
theorem dX12_write_2 : decode cX12_write 2 = .ok (.invokevirtual 167, 3) := by decide +kernel
theorem dX12_write_5 : decode cX12_write 5 = .ok (.ifCond .eq 13, 3) := by decide +kernel
theorem dX12_write_8 : decode cX12_write 8 = .ok (.iload_n 2, 1) := by decide +kernel
theorem dX12_write_9 : decode cX12_write 9 = .ok (.iconst 0, 1) := by decide +kernel
theorem dX12_write_10 : decode cX12_write 10 = .ok (.bipush 63, 2) := by decide +kernel
theorem dX12_write_12 : decode cX12_write 12 = .ok (.invokestatic 50, 3) := by decide +kernel
theorem dX12_write_15 : decode cX12_write 15 = .ok (.ifCond .ne 6, 3) := by decide +kernel
theorem dX12_write_18 : decode cX12_write 18 = .ok (.ldc 58, 2) := by decide +kernel
theorem dX12_write_20 : decode cX12_write 20 = .ok (.ireturn, 1) := by decide +kernel
theorem dX12_write_21 : decode cX12_write 21 = .ok (.aload_n 0, 1) := by decide +kernel
theorem dX12_write_22 : decode cX12_write 22 = .ok (.iload_n 1, 1) := by decide +kernel
theorem dX12_write_23 : decode cX12_write 23 = .ok (.invokevirtual 153, 3) := by decide +kernel
theorem dX12_write_26 : decode cX12_write 26 = .ok (.ifCond .ne 6, 3) := by decide +kernel
theorem dX12_write_29 : decode cX12_write 29 = .ok (.ldc 159, 2) := by decide +kernel
theorem dX12_write_31 : decode cX12_write 31 = .ok (.ireturn, 1) := by decide +kernel
theorem dX12_write_32 : decode cX12_write 32 = .ok (.aload_n 0, 1) := by decide +kernel
theorem dX12_write_33 : decode cX12_write 33 = .ok (.invokevirtual 160, 3) := by decide +kernel
theorem dX12_write_36 : decode cX12_write 36 = .ok (.aload_n 0, 1) := by decide +kernel
theorem dX12_write_37 : decode cX12_write 37 = .ok (.getfield 25, 3) := by decide +kernel
theorem dX12_write_40 : decode cX12_write 40 = .ok (.iconst 4, 1) := by decide +kernel
theorem dX12_write_41 : decode cX12_write 41 = .ok (.iconst 4, 1) := by decide +kernel
theorem dX12_write_42 : decode cX12_write 42 = .ok (.iload_n 1, 1) := by decide +kernel
theorem dX12_write_43 : decode cX12_write 43 = .ok (.imul, 1) := by decide +kernel
theorem dX12_write_44 : decode cX12_write 44 = .ok (.iadd, 1) := by decide +kernel
theorem dX12_write_45 : decode cX12_write 45 = .ok (.iconst 2, 1) := by decide +kernel
theorem dX12_write_46 : decode cX12_write 46 = .ok (.iadd, 1) := by decide +kernel
theorem dX12_write_47 : decode cX12_write 47 = .ok (.iaload, 1) := by decide +kernel
theorem dX12_write_48 : decode cX12_write 48 = .ok (.istore_n 3, 1) := by decide +kernel
theorem dX12_write_49 : decode cX12_write 49 = .ok (.aload_n 0, 1) := by decide +kernel
theorem dX12_write_50 : decode cX12_write 50 = .ok (.getfield 25, 3) := by decide +kernel
theorem dX12_write_53 : decode cX12_write 53 = .ok (.iconst 4, 1) := by decide +kernel
theorem dX12_write_54 : decode cX12_write 54 = .ok (.iconst 4, 1) := by decide +kernel
theorem dX12_write_55 : decode cX12_write 55 = .ok (.iload_n 1, 1) := by decide +kernel
theorem dX12_write_56 : decode cX12_write 56 = .ok (.imul, 1) := by decide +kernel
theorem dX12_write_57 : decode cX12_write 57 = .ok (.iadd, 1) := by decide +kernel
theorem dX12_write_58 : decode cX12_write 58 = .ok (.iconst 2, 1) := by decide +kernel
theorem dX12_write_59 : decode cX12_write 59 = .ok (.iadd, 1) := by decide +kernel
theorem dX12_write_60 : decode cX12_write 60 = .ok (.iload_n 2, 1) := by decide +kernel
theorem dX12_write_61 : decode cX12_write 61 = .ok (.iastore, 1) := by decide +kernel
theorem dX12_write_62 : decode cX12_write 62 = .ok (.iload_n 3, 1) := by decide +kernel
theorem dX12_write_63 : decode cX12_write 63 = .ok (.ireturn, 1) := by decide +kernel
set_option maxRecDepth 20000 in
theorem ggX12_deny_X12_isReader : GoodIn wsX12_deny wsX12_isReader := goodIn_r _ [8, 2, 9, 10, 7, 11, 24, 25, 26, 27, 28, 29, 30, 31, 32, 33, 34, 35, 36, 37, 38, 39, 40, 41, 42, 43, 44] (by decide +kernel) (by decide +kernel)
set_option maxRecDepth 20000 in
theorem gX12_deny_X12_isReader : GoodIn wsX12_deny (wsV RX12 167 RX12 yX12_isReader wsX12_isReader) := goodIn_app (goodIn_of _ (by decide +kernel)) ggX12_deny_X12_isReader
set_option maxRecDepth 20000 in
theorem ggX12_deny_X12_in : GoodIn wsX12_deny wsX12_in := goodIn_r _ [11] (by decide +kernel) (by decide +kernel)
set_option maxRecDepth 20000 in
theorem gX12_deny_X12_in : GoodIn wsX12_deny (va_wsS RX12 50 yX12_in wsX12_in) := goodIn_app (goodIn_of _ (by decide +kernel)) ggX12_deny_X12_in
set_option maxRecDepth 20000 in
theorem ggX12_deny_X12_has : GoodIn wsX12_deny wsX12_has := goodIn_r _ [14] (by decide +kernel) (by decide +kernel)
set_option maxRecDepth 20000 in
theorem gX12_deny_X12_has : GoodIn wsX12_deny (va_wsS RX12 132 yX12_has wsX12_has) := goodIn_app (goodIn_of _ (by decide +kernel)) ggX12_deny_X12_has
set_option maxRecDepth 20000 in
theorem ggX12_deny_X12_notes : GoodIn wsX12_deny wsX12_notes := goodIn_r _ [18, 19, 20, 2, 21, 22, 7, 23, 24, 25, 26, 27, 28, 29, 30, 31, 32, 33, 34, 35, 36, 37, 38, 39, 40, 41, 42, 43, 44] (by decide +kernel) (by decide +kernel)
set_option maxRecDepth 20000 in
theorem gX12_deny_X12_notes : GoodIn wsX12_deny (wsV RX12 160 RX12 yX12_notes wsX12_notes) := goodIn_app (goodIn_of _ (by decide +kernel)) ggX12_deny_X12_notes
theorem dX12_deny_0 : decode cX12_deny 0 = .ok (.aload_n 0, 1) := by decide +kernel
theorem dX12_deny_1 : decode cX12_deny 1 = .ok (.iload_n 1, 1) := by decide +kernel
theorem dX12_deny_2 : decode cX12_deny 2 = .ok (.invokevirtual 167, 3) := by decide +kernel
theorem dX12_deny_5 : decode cX12_deny 5 = .ok (.ifCond .eq 12, 3) := by decide +kernel
theorem dX12_deny_8 : decode cX12_deny 8 = .ok (.iload_n 2, 1) := by decide +kernel
theorem dX12_deny_9 : decode cX12_deny 9 = .ok (.iconst 0, 1) := by decide +kernel
theorem dX12_deny_10 : decode cX12_deny 10 = .ok (.iconst 5, 1) := by decide +kernel
theorem dX12_deny_11 : decode cX12_deny 11 = .ok (.invokestatic 50, 3) := by decide +kernel
theorem dX12_deny_14 : decode cX12_deny 14 = .ok (.ifCond .ne 6, 3) := by decide +kernel
theorem dX12_deny_17 : decode cX12_deny 17 = .ok (.ldc 58, 2) := by decide +kernel
theorem dX12_deny_19 : decode cX12_deny 19 = .ok (.ireturn, 1) := by decide +kernel
theorem dX12_deny_20 : decode cX12_deny 20 = .ok (.iconst 4, 1) := by decide +kernel
theorem dX12_deny_21 : decode cX12_deny 21 = .ok (.iconst 4, 1) := by decide +kernel
theorem dX12_deny_22 : decode cX12_deny 22 = .ok (.iload_n 1, 1) := by decide +kernel
theorem dX12_deny_23 : decode cX12_deny 23 = .ok (.imul, 1) := by decide +kernel
theorem dX12_deny_24 : decode cX12_deny 24 = .ok (.iadd, 1) := by decide +kernel
theorem dX12_deny_25 : decode cX12_deny 25 = .ok (.iconst 1, 1) := by decide +kernel
theorem dX12_deny_26 : decode cX12_deny 26 = .ok (.iadd, 1) := by decide +kernel
theorem dX12_deny_27 : decode cX12_deny 27 = .ok (.istore_n 3, 1) := by decide +kernel
theorem dX12_deny_28 : decode cX12_deny 28 = .ok (.aload_n 0, 1) := by decide +kernel
theorem dX12_deny_29 : decode cX12_deny 29 = .ok (.getfield 25, 3) := by decide +kernel
theorem dX12_deny_32 : decode cX12_deny 32 = .ok (.iload_n 3, 1) := by decide +kernel
theorem dX12_deny_33 : decode cX12_deny 33 = .ok (.iaload, 1) := by decide +kernel
theorem dX12_deny_34 : decode cX12_deny 34 = .ok (.iload_n 2, 1) := by decide +kernel
theorem dX12_deny_35 : decode cX12_deny 35 = .ok (.invokestatic 132, 3) := by decide +kernel
theorem dX12_deny_38 : decode cX12_deny 38 = .ok (.ifCond .ne 6, 3) := by decide +kernel
theorem dX12_deny_41 : decode cX12_deny 41 = .ok (.ldc 159, 2) := by decide +kernel
theorem dX12_deny_43 : decode cX12_deny 43 = .ok (.ireturn, 1) := by decide +kernel
theorem dX12_deny_44 : decode cX12_deny 44 = .ok (.aload_n 0, 1) := by decide +kernel
theorem dX12_deny_45 : decode cX12_deny 45 = .ok (.invokevirtual 160, 3) := by decide +kernel
theorem dX12_deny_48 : decode cX12_deny 48 = .ok (.aload_n 0, 1) := by decide +kernel
theorem dX12_deny_49 : decode cX12_deny 49 = .ok (.getfield 25, 3) := by decide +kernel
theorem dX12_deny_52 : decode cX12_deny 52 = .ok (.iload_n 3, 1) := by decide +kernel
theorem dX12_deny_53 : decode cX12_deny 53 = .ok (.dup2, 1) := by decide +kernel
theorem dX12_deny_54 : decode cX12_deny 54 = .ok (.iaload, 1) := by decide +kernel
theorem dX12_deny_55 : decode cX12_deny 55 = .ok (.iconst 1, 1) := by decide +kernel
theorem dX12_deny_56 : decode cX12_deny 56 = .ok (.iload_n 2, 1) := by decide +kernel
theorem dX12_deny_57 : decode cX12_deny 57 = .ok (.ishl, 1) := by decide +kernel
theorem dX12_deny_58 : decode cX12_deny 58 = .ok (.iconst (-1), 1) := by decide +kernel
theorem dX12_deny_59 : decode cX12_deny 59 = .ok (.ixor, 1) := by decide +kernel
theorem dX12_deny_60 : decode cX12_deny 60 = .ok (.iand, 1) := by decide +kernel
theorem dX12_deny_61 : decode cX12_deny 61 = .ok (.iastore, 1) := by decide +kernel
theorem dX12_deny_62 : decode cX12_deny 62 = .ok (.aload_n 0, 1) := by decide +kernel
theorem dX12_deny_63 : decode cX12_deny 63 = .ok (.getfield 25, 3) := by decide +kernel
theorem dX12_deny_66 : decode cX12_deny 66 = .ok (.iload_n 3, 1) := by decide +kernel
theorem dX12_deny_67 : decode cX12_deny 67 = .ok (.iaload, 1) := by decide +kernel
theorem dX12_deny_68 : decode cX12_deny 68 = .ok (.ireturn, 1) := by decide +kernel
set_option maxRecDepth 20000 in
theorem ggX12_spare_X12_isReader : GoodIn wsX12_spare wsX12_isReader := goodIn_r _ [8, 3, 9, 10, 7, 11, 25, 26, 27, 28, 29, 30, 31, 32, 33, 34, 35, 36, 37, 38, 39, 40, 41, 42, 43, 44, 45] (by decide +kernel) (by decide +kernel)
set_option maxRecDepth 20000 in
theorem gX12_spare_X12_isReader : GoodIn wsX12_spare (wsV RX12 167 RX12 yX12_isReader wsX12_isReader) := goodIn_app (goodIn_of _ (by decide +kernel)) ggX12_spare_X12_isReader
set_option maxRecDepth 20000 in
theorem ggX12_spare_X12_in : GoodIn wsX12_spare wsX12_in := goodIn_r _ [11] (by decide +kernel) (by decide +kernel)
set_option maxRecDepth 20000 in
theorem gX12_spare_X12_in : GoodIn wsX12_spare (va_wsS RX12 50 yX12_in wsX12_in) := goodIn_app (goodIn_of _ (by decide +kernel)) ggX12_spare_X12_in
set_option maxRecDepth 20000 in
theorem ggX12_spare_X12_lives : GoodIn wsX12_spare wsX12_lives := goodIn_r _ [15, 3, 25, 26, 27, 28, 29, 30, 31, 32, 33, 34, 35, 36, 37, 38, 39, 40, 41, 42, 43, 44, 45] (by decide +kernel) (by decide +kernel)
set_option maxRecDepth 20000 in
theorem gX12_spare_X12_lives : GoodIn wsX12_spare (wsV RX12 153 RX12 yX12_lives wsX12_lives) := goodIn_app (goodIn_of _ (by decide +kernel)) ggX12_spare_X12_lives
set_option maxRecDepth 20000 in
theorem ggX12_spare_X12_notes : GoodIn wsX12_spare wsX12_notes := goodIn_r _ [19, 20, 21, 3, 22, 23, 7, 24, 25, 26, 27, 28, 29, 30, 31, 32, 33, 34, 35, 36, 37, 38, 39, 40, 41, 42, 43, 44, 45] (by decide +kernel) (by decide +kernel)
set_option maxRecDepth 20000 in
theorem gX12_spare_X12_notes : GoodIn wsX12_spare (wsV RX12 160 RX12 yX12_notes wsX12_notes) := goodIn_app (goodIn_of _ (by decide +kernel)) ggX12_spare_X12_notes
theorem dX12_spare_0 : decode cX12_spare 0 = .ok (.aload_n 0, 1) := by decide +kernel
theorem dX12_spare_1 : decode cX12_spare 1 = .ok (.iload_n 1, 1) := by decide +kernel
theorem dX12_spare_2 : decode cX12_spare 2 = .ok (.invokevirtual 167, 3) := by decide +kernel
theorem dX12_spare_5 : decode cX12_spare 5 = .ok (.ifCond .eq 13, 3) := by decide +kernel
theorem dX12_spare_8 : decode cX12_spare 8 = .ok (.iload_n 2, 1) := by decide +kernel
theorem dX12_spare_9 : decode cX12_spare 9 = .ok (.iconst 1, 1) := by decide +kernel
theorem dX12_spare_10 : decode cX12_spare 10 = .ok (.bipush 60, 2) := by decide +kernel
theorem dX12_spare_12 : decode cX12_spare 12 = .ok (.invokestatic 50, 3) := by decide +kernel
theorem dX12_spare_15 : decode cX12_spare 15 = .ok (.ifCond .ne 6, 3) := by decide +kernel
theorem dX12_spare_18 : decode cX12_spare 18 = .ok (.ldc 58, 2) := by decide +kernel
theorem dX12_spare_20 : decode cX12_spare 20 = .ok (.ireturn, 1) := by decide +kernel
theorem dX12_spare_21 : decode cX12_spare 21 = .ok (.aload_n 0, 1) := by decide +kernel
theorem dX12_spare_22 : decode cX12_spare 22 = .ok (.iload_n 1, 1) := by decide +kernel
theorem dX12_spare_23 : decode cX12_spare 23 = .ok (.invokevirtual 153, 3) := by decide +kernel
theorem dX12_spare_26 : decode cX12_spare 26 = .ok (.ifCond .ne 6, 3) := by decide +kernel
theorem dX12_spare_29 : decode cX12_spare 29 = .ok (.ldc 159, 2) := by decide +kernel
theorem dX12_spare_31 : decode cX12_spare 31 = .ok (.ireturn, 1) := by decide +kernel
theorem dX12_spare_32 : decode cX12_spare 32 = .ok (.aload_n 0, 1) := by decide +kernel
theorem dX12_spare_33 : decode cX12_spare 33 = .ok (.invokevirtual 160, 3) := by decide +kernel
theorem dX12_spare_36 : decode cX12_spare 36 = .ok (.iconst 4, 1) := by decide +kernel
theorem dX12_spare_37 : decode cX12_spare 37 = .ok (.iconst 4, 1) := by decide +kernel
theorem dX12_spare_38 : decode cX12_spare 38 = .ok (.iload_n 1, 1) := by decide +kernel
theorem dX12_spare_39 : decode cX12_spare 39 = .ok (.imul, 1) := by decide +kernel
theorem dX12_spare_40 : decode cX12_spare 40 = .ok (.iadd, 1) := by decide +kernel
theorem dX12_spare_41 : decode cX12_spare 41 = .ok (.iconst 3, 1) := by decide +kernel
theorem dX12_spare_42 : decode cX12_spare 42 = .ok (.iadd, 1) := by decide +kernel
theorem dX12_spare_43 : decode cX12_spare 43 = .ok (.istore_n 3, 1) := by decide +kernel
theorem dX12_spare_44 : decode cX12_spare 44 = .ok (.aload_n 0, 1) := by decide +kernel
theorem dX12_spare_45 : decode cX12_spare 45 = .ok (.getfield 25, 3) := by decide +kernel
theorem dX12_spare_48 : decode cX12_spare 48 = .ok (.iload_n 3, 1) := by decide +kernel
theorem dX12_spare_49 : decode cX12_spare 49 = .ok (.aload_n 0, 1) := by decide +kernel
theorem dX12_spare_50 : decode cX12_spare 50 = .ok (.getfield 25, 3) := by decide +kernel
theorem dX12_spare_53 : decode cX12_spare 53 = .ok (.iload_n 3, 1) := by decide +kernel
theorem dX12_spare_54 : decode cX12_spare 54 = .ok (.iaload, 1) := by decide +kernel
theorem dX12_spare_55 : decode cX12_spare 55 = .ok (.iload_n 2, 1) := by decide +kernel
theorem dX12_spare_56 : decode cX12_spare 56 = .ok (.iadd, 1) := by decide +kernel
theorem dX12_spare_57 : decode cX12_spare 57 = .ok (.bipush 60, 2) := by decide +kernel
theorem dX12_spare_59 : decode cX12_spare 59 = .ok (.if_icmp .ge 14, 3) := by decide +kernel
theorem dX12_spare_62 : decode cX12_spare 62 = .ok (.aload_n 0, 1) := by decide +kernel
theorem dX12_spare_63 : decode cX12_spare 63 = .ok (.getfield 25, 3) := by decide +kernel
theorem dX12_spare_66 : decode cX12_spare 66 = .ok (.iload_n 3, 1) := by decide +kernel
theorem dX12_spare_67 : decode cX12_spare 67 = .ok (.iaload, 1) := by decide +kernel
theorem dX12_spare_68 : decode cX12_spare 68 = .ok (.iload_n 2, 1) := by decide +kernel
theorem dX12_spare_69 : decode cX12_spare 69 = .ok (.iadd, 1) := by decide +kernel
theorem dX12_spare_70 : decode cX12_spare 70 = .ok (.goto 5, 3) := by decide +kernel
theorem dX12_spare_73 : decode cX12_spare 73 = .ok (.bipush 60, 2) := by decide +kernel
theorem dX12_spare_75 : decode cX12_spare 75 = .ok (.iastore, 1) := by decide +kernel
theorem dX12_spare_76 : decode cX12_spare 76 = .ok (.aload_n 0, 1) := by decide +kernel
theorem dX12_spare_77 : decode cX12_spare 77 = .ok (.getfield 25, 3) := by decide +kernel
theorem dX12_spare_80 : decode cX12_spare 80 = .ok (.iload_n 3, 1) := by decide +kernel
theorem dX12_spare_81 : decode cX12_spare 81 = .ok (.iaload, 1) := by decide +kernel
theorem dX12_spare_82 : decode cX12_spare 82 = .ok (.ireturn, 1) := by decide +kernel
set_option maxRecDepth 20000 in
theorem ggX12_undo_X12_copies : GoodIn wsX12_undo wsX12_copies := goodIn_r _ [8] (by decide +kernel) (by decide +kernel)
set_option maxRecDepth 20000 in
theorem gX12_undo_X12_copies : GoodIn wsX12_undo (va_wsS RX12 125 yX12_copies wsX12_copies) := goodIn_app (goodIn_of _ (by decide +kernel)) ggX12_undo_X12_copies
theorem dX12_undo_0 : decode cX12_undo 0 = .ok (.aload_n 0, 1) := by decide +kernel
theorem dX12_undo_1 : decode cX12_undo 1 = .ok (.getfield 129, 3) := by decide +kernel
theorem dX12_undo_4 : decode cX12_undo 4 = .ok (.ifCond .ne 6, 3) := by decide +kernel
theorem dX12_undo_7 : decode cX12_undo 7 = .ok (.ldc 159, 2) := by decide +kernel
theorem dX12_undo_9 : decode cX12_undo 9 = .ok (.ireturn, 1) := by decide +kernel
theorem dX12_undo_10 : decode cX12_undo 10 = .ok (.aload_n 0, 1) := by decide +kernel
theorem dX12_undo_11 : decode cX12_undo 11 = .ok (.dup, 1) := by decide +kernel
theorem dX12_undo_12 : decode cX12_undo 12 = .ok (.getfield 129, 3) := by decide +kernel
theorem dX12_undo_15 : decode cX12_undo 15 = .ok (.iconst 1, 1) := by decide +kernel
theorem dX12_undo_16 : decode cX12_undo 16 = .ok (.isub, 1) := by decide +kernel
theorem dX12_undo_17 : decode cX12_undo 17 = .ok (.putfield 129, 3) := by decide +kernel
theorem dX12_undo_20 : decode cX12_undo 20 = .ok (.aload_n 0, 1) := by decide +kernel
theorem dX12_undo_21 : decode cX12_undo 21 = .ok (.getfield 31, 3) := by decide +kernel
theorem dX12_undo_24 : decode cX12_undo 24 = .ok (.bipush 28, 2) := by decide +kernel
theorem dX12_undo_26 : decode cX12_undo 26 = .ok (.aload_n 0, 1) := by decide +kernel
theorem dX12_undo_27 : decode cX12_undo 27 = .ok (.getfield 129, 3) := by decide +kernel
theorem dX12_undo_30 : decode cX12_undo 30 = .ok (.imul, 1) := by decide +kernel
theorem dX12_undo_31 : decode cX12_undo 31 = .ok (.aload_n 0, 1) := by decide +kernel
theorem dX12_undo_32 : decode cX12_undo 32 = .ok (.getfield 25, 3) := by decide +kernel
theorem dX12_undo_35 : decode cX12_undo 35 = .ok (.iconst 0, 1) := by decide +kernel
theorem dX12_undo_36 : decode cX12_undo 36 = .ok (.invokestatic 125, 3) := by decide +kernel
theorem dX12_undo_39 : decode cX12_undo 39 = .ok (.aload_n 0, 1) := by decide +kernel
theorem dX12_undo_40 : decode cX12_undo 40 = .ok (.getfield 129, 3) := by decide +kernel
theorem dX12_undo_43 : decode cX12_undo 43 = .ok (.ireturn, 1) := by decide +kernel
set_option maxRecDepth 20000 in
theorem ggX12_reader_X12_isReader : GoodIn wsX12_reader wsX12_isReader := goodIn_r _ [7, 2, 8, 9, 6, 10, 35, 36, 37, 38, 39, 40, 41, 42, 43, 44, 45, 46, 47, 48, 49, 50, 51, 52, 53, 54, 55] (by decide +kernel) (by decide +kernel)
set_option maxRecDepth 20000 in
theorem gX12_reader_X12_isReader : GoodIn wsX12_reader (wsV RX12 167 RX12 yX12_isReader wsX12_isReader) := goodIn_app (goodIn_of _ (by decide +kernel)) ggX12_reader_X12_isReader
set_option maxRecDepth 20000 in
theorem ggX12_reader_X12_falseIn : GoodIn wsX12_reader wsX12_falseIn := goodIn_r _ [14, 2, 15, 16, 17, 6, 18, 19, 20, 21, 22, 23, 24, 25, 26, 27, 28, 29, 30, 31, 32, 33, 34, 35, 36, 37, 38, 39, 40, 41, 42, 43, 44, 45, 46, 47, 48, 49, 50, 51, 52, 53, 54, 55] (by decide +kernel) (by decide +kernel)
set_option maxRecDepth 20000 in
theorem gX12_reader_X12_falseIn : GoodIn wsX12_reader (wsV RX12 170 RX12 yX12_falseIn wsX12_falseIn) := goodIn_app (goodIn_of _ (by decide +kernel)) ggX12_reader_X12_falseIn
set_option maxRecDepth 20000 in
theorem ggX12_reader_X12_deedsIn : GoodIn wsX12_reader wsX12_deedsIn := goodIn_r _ [18, 2, 19, 20, 21, 6, 22, 23, 24, 25, 26, 27, 28, 29, 30, 31, 32, 33, 34, 35, 36, 37, 38, 39, 40, 41, 42, 43, 44, 45, 46, 47, 48, 49, 50, 51, 52, 53, 54, 55] (by decide +kernel) (by decide +kernel)
set_option maxRecDepth 20000 in
theorem gX12_reader_X12_deedsIn : GoodIn wsX12_reader (wsV RX12 150 RX12 yX12_deedsIn wsX12_deedsIn) := goodIn_app (goodIn_of _ (by decide +kernel)) ggX12_reader_X12_deedsIn
theorem dX12_reader_0 : decode cX12_reader 0 = .ok (.aload_n 0, 1) := by decide +kernel
theorem dX12_reader_1 : decode cX12_reader 1 = .ok (.iload_n 1, 1) := by decide +kernel
theorem dX12_reader_2 : decode cX12_reader 2 = .ok (.invokevirtual 167, 3) := by decide +kernel
theorem dX12_reader_5 : decode cX12_reader 5 = .ok (.ifCond .ne 6, 3) := by decide +kernel
theorem dX12_reader_8 : decode cX12_reader 8 = .ok (.ldc 58, 2) := by decide +kernel
theorem dX12_reader_10 : decode cX12_reader 10 = .ok (.ireturn, 1) := by decide +kernel
theorem dX12_reader_11 : decode cX12_reader 11 = .ok (.iconst 4, 1) := by decide +kernel
theorem dX12_reader_12 : decode cX12_reader 12 = .ok (.iconst 4, 1) := by decide +kernel
theorem dX12_reader_13 : decode cX12_reader 13 = .ok (.iload_n 1, 1) := by decide +kernel
theorem dX12_reader_14 : decode cX12_reader 14 = .ok (.imul, 1) := by decide +kernel
theorem dX12_reader_15 : decode cX12_reader 15 = .ok (.iadd, 1) := by decide +kernel
theorem dX12_reader_16 : decode cX12_reader 16 = .ok (.istore_n 3, 1) := by decide +kernel
theorem dX12_reader_17 : decode cX12_reader 17 = .ok (.iload_n 2, 1) := by decide +kernel
theorem dX12_reader_18 : decode cX12_reader 18 = .ok (.tableswitch 86 0 4 #[34, 43, 52, 61, 68], 34) := by decide +kernel
theorem dX12_reader_52 : decode cX12_reader 52 = .ok (.aload_n 0, 1) := by decide +kernel
theorem dX12_reader_53 : decode cX12_reader 53 = .ok (.getfield 25, 3) := by decide +kernel
theorem dX12_reader_56 : decode cX12_reader 56 = .ok (.iload_n 3, 1) := by decide +kernel
theorem dX12_reader_57 : decode cX12_reader 57 = .ok (.iconst 1, 1) := by decide +kernel
theorem dX12_reader_58 : decode cX12_reader 58 = .ok (.iadd, 1) := by decide +kernel
theorem dX12_reader_59 : decode cX12_reader 59 = .ok (.iaload, 1) := by decide +kernel
theorem dX12_reader_60 : decode cX12_reader 60 = .ok (.ireturn, 1) := by decide +kernel
theorem dX12_reader_61 : decode cX12_reader 61 = .ok (.aload_n 0, 1) := by decide +kernel
theorem dX12_reader_62 : decode cX12_reader 62 = .ok (.getfield 25, 3) := by decide +kernel
theorem dX12_reader_65 : decode cX12_reader 65 = .ok (.iload_n 3, 1) := by decide +kernel
theorem dX12_reader_66 : decode cX12_reader 66 = .ok (.iconst 2, 1) := by decide +kernel
theorem dX12_reader_67 : decode cX12_reader 67 = .ok (.iadd, 1) := by decide +kernel
theorem dX12_reader_68 : decode cX12_reader 68 = .ok (.iaload, 1) := by decide +kernel
theorem dX12_reader_69 : decode cX12_reader 69 = .ok (.ireturn, 1) := by decide +kernel
theorem dX12_reader_70 : decode cX12_reader 70 = .ok (.aload_n 0, 1) := by decide +kernel
theorem dX12_reader_71 : decode cX12_reader 71 = .ok (.getfield 25, 3) := by decide +kernel
theorem dX12_reader_74 : decode cX12_reader 74 = .ok (.iload_n 3, 1) := by decide +kernel
theorem dX12_reader_75 : decode cX12_reader 75 = .ok (.iconst 3, 1) := by decide +kernel
theorem dX12_reader_76 : decode cX12_reader 76 = .ok (.iadd, 1) := by decide +kernel
theorem dX12_reader_77 : decode cX12_reader 77 = .ok (.iaload, 1) := by decide +kernel
theorem dX12_reader_78 : decode cX12_reader 78 = .ok (.ireturn, 1) := by decide +kernel
theorem dX12_reader_79 : decode cX12_reader 79 = .ok (.aload_n 0, 1) := by decide +kernel
theorem dX12_reader_80 : decode cX12_reader 80 = .ok (.iload_n 1, 1) := by decide +kernel
theorem dX12_reader_81 : decode cX12_reader 81 = .ok (.iconst 0, 1) := by decide +kernel
theorem dX12_reader_82 : decode cX12_reader 82 = .ok (.invokevirtual 170, 3) := by decide +kernel
theorem dX12_reader_85 : decode cX12_reader 85 = .ok (.ireturn, 1) := by decide +kernel
theorem dX12_reader_86 : decode cX12_reader 86 = .ok (.aload_n 0, 1) := by decide +kernel
theorem dX12_reader_87 : decode cX12_reader 87 = .ok (.iload_n 1, 1) := by decide +kernel
theorem dX12_reader_88 : decode cX12_reader 88 = .ok (.iconst 1, 1) := by decide +kernel
theorem dX12_reader_89 : decode cX12_reader 89 = .ok (.invokevirtual 150, 3) := by decide +kernel
theorem dX12_reader_92 : decode cX12_reader 92 = .ok (.aload_n 0, 1) := by decide +kernel
theorem dX12_reader_93 : decode cX12_reader 93 = .ok (.getfield 25, 3) := by decide +kernel
theorem dX12_reader_96 : decode cX12_reader 96 = .ok (.iload_n 3, 1) := by decide +kernel
theorem dX12_reader_97 : decode cX12_reader 97 = .ok (.iconst 1, 1) := by decide +kernel
theorem dX12_reader_98 : decode cX12_reader 98 = .ok (.iadd, 1) := by decide +kernel
theorem dX12_reader_99 : decode cX12_reader 99 = .ok (.iaload, 1) := by decide +kernel
theorem dX12_reader_100 : decode cX12_reader 100 = .ok (.iconst (-1), 1) := by decide +kernel
theorem dX12_reader_101 : decode cX12_reader 101 = .ok (.ixor, 1) := by decide +kernel
theorem dX12_reader_102 : decode cX12_reader 102 = .ok (.iand, 1) := by decide +kernel
theorem dX12_reader_103 : decode cX12_reader 103 = .ok (.ireturn, 1) := by decide +kernel
theorem dX12_reader_104 : decode cX12_reader 104 = .ok (.ldc 58, 2) := by decide +kernel
theorem dX12_reader_106 : decode cX12_reader 106 = .ok (.ireturn, 1) := by decide +kernel
set_option maxRecDepth 20000 in
theorem ggX12_deeds_X12_isReader : GoodIn wsX12_deeds wsX12_isReader := goodIn_r _ [6, 7, 8, 9, 5, 10, 34, 35, 36, 37, 38, 39, 40, 41, 42, 43, 44, 45, 46, 47, 48, 49, 50, 51, 52, 53, 54] (by decide +kernel) (by decide +kernel)
set_option maxRecDepth 20000 in
theorem gX12_deeds_X12_isReader : GoodIn wsX12_deeds (wsV RX12 167 RX12 yX12_isReader wsX12_isReader) := goodIn_app (goodIn_of _ (by decide +kernel)) ggX12_deeds_X12_isReader
set_option maxRecDepth 20000 in
theorem ggX12_deeds_X12_isFar : GoodIn wsX12_deeds wsX12_isFar := goodIn_r _ [13, 8, 9, 5, 10] (by decide +kernel) (by decide +kernel)
set_option maxRecDepth 20000 in
theorem gX12_deeds_X12_isFar : GoodIn wsX12_deeds (va_wsS RX12 173 yX12_isFar wsX12_isFar) := goodIn_app (goodIn_of _ (by decide +kernel)) ggX12_deeds_X12_isFar
set_option maxRecDepth 20000 in
theorem ggX12_deeds_X12_deedsIn : GoodIn wsX12_deeds wsX12_deedsIn := goodIn_r _ [17, 7, 18, 19, 20, 5, 21, 22, 23, 24, 25, 26, 27, 28, 29, 30, 31, 32, 33, 34, 35, 36, 37, 38, 39, 40, 41, 42, 43, 44, 45, 46, 47, 48, 49, 50, 51, 52, 53, 54] (by decide +kernel) (by decide +kernel)
set_option maxRecDepth 20000 in
theorem gX12_deeds_X12_deedsIn : GoodIn wsX12_deeds (wsV RX12 150 RX12 yX12_deedsIn wsX12_deedsIn) := goodIn_app (goodIn_of _ (by decide +kernel)) ggX12_deeds_X12_deedsIn
theorem dX12_deeds_0 : decode cX12_deeds 0 = .ok (.aload_n 0, 1) := by decide +kernel
theorem dX12_deeds_1 : decode cX12_deeds 1 = .ok (.iload_n 1, 1) := by decide +kernel
theorem dX12_deeds_2 : decode cX12_deeds 2 = .ok (.invokevirtual 167, 3) := by decide +kernel
theorem dX12_deeds_5 : decode cX12_deeds 5 = .ok (.ifCond .eq 19, 3) := by decide +kernel
theorem dX12_deeds_8 : decode cX12_deeds 8 = .ok (.iload_n 2, 1) := by decide +kernel
theorem dX12_deeds_9 : decode cX12_deeds 9 = .ok (.invokestatic 173, 3) := by decide +kernel
theorem dX12_deeds_12 : decode cX12_deeds 12 = .ok (.ifCond .eq 12, 3) := by decide +kernel
theorem dX12_deeds_15 : decode cX12_deeds 15 = .ok (.aload_n 0, 1) := by decide +kernel
theorem dX12_deeds_16 : decode cX12_deeds 16 = .ok (.iload_n 1, 1) := by decide +kernel
theorem dX12_deeds_17 : decode cX12_deeds 17 = .ok (.iload_n 2, 1) := by decide +kernel
theorem dX12_deeds_18 : decode cX12_deeds 18 = .ok (.invokevirtual 150, 3) := by decide +kernel
theorem dX12_deeds_21 : decode cX12_deeds 21 = .ok (.goto 5, 3) := by decide +kernel
theorem dX12_deeds_24 : decode cX12_deeds 24 = .ok (.ldc 58, 2) := by decide +kernel
theorem dX12_deeds_26 : decode cX12_deeds 26 = .ok (.ireturn, 1) := by decide +kernel
set_option maxRecDepth 20000 in
theorem ggX12_lines_X12_isReader : GoodIn wsX12_lines wsX12_isReader := goodIn_r _ [6, 7, 8, 9, 5, 10, 38, 39, 40, 41, 42, 43, 44, 45, 46, 47, 48, 49, 50, 51, 52, 53, 54, 55, 56, 57, 58] (by decide +kernel) (by decide +kernel)
set_option maxRecDepth 20000 in
theorem gX12_lines_X12_isReader : GoodIn wsX12_lines (wsV RX12 167 RX12 yX12_isReader wsX12_isReader) := goodIn_app (goodIn_of _ (by decide +kernel)) ggX12_lines_X12_isReader
set_option maxRecDepth 20000 in
theorem ggX12_lines_X12_isFar : GoodIn wsX12_lines wsX12_isFar := goodIn_r _ [13, 8, 9, 5, 10] (by decide +kernel) (by decide +kernel)
set_option maxRecDepth 20000 in
theorem gX12_lines_X12_isFar : GoodIn wsX12_lines (va_wsS RX12 173 yX12_isFar wsX12_isFar) := goodIn_app (goodIn_of _ (by decide +kernel)) ggX12_lines_X12_isFar
set_option maxRecDepth 20000 in
theorem ggX12_lines_X12_falseIn : GoodIn wsX12_lines wsX12_falseIn := goodIn_r _ [17, 7, 18, 19, 20, 5, 21, 22, 23, 24, 25, 26, 27, 28, 29, 30, 31, 32, 33, 34, 35, 36, 37, 38, 39, 40, 41, 42, 43, 44, 45, 46, 47, 48, 49, 50, 51, 52, 53, 54, 55, 56, 57, 58] (by decide +kernel) (by decide +kernel)
set_option maxRecDepth 20000 in
theorem gX12_lines_X12_falseIn : GoodIn wsX12_lines (wsV RX12 170 RX12 yX12_falseIn wsX12_falseIn) := goodIn_app (goodIn_of _ (by decide +kernel)) ggX12_lines_X12_falseIn
theorem dX12_lines_0 : decode cX12_lines 0 = .ok (.aload_n 0, 1) := by decide +kernel
theorem dX12_lines_1 : decode cX12_lines 1 = .ok (.iload_n 1, 1) := by decide +kernel
theorem dX12_lines_2 : decode cX12_lines 2 = .ok (.invokevirtual 167, 3) := by decide +kernel
theorem dX12_lines_5 : decode cX12_lines 5 = .ok (.ifCond .eq 19, 3) := by decide +kernel
theorem dX12_lines_8 : decode cX12_lines 8 = .ok (.iload_n 2, 1) := by decide +kernel
theorem dX12_lines_9 : decode cX12_lines 9 = .ok (.invokestatic 173, 3) := by decide +kernel
theorem dX12_lines_12 : decode cX12_lines 12 = .ok (.ifCond .eq 12, 3) := by decide +kernel
theorem dX12_lines_15 : decode cX12_lines 15 = .ok (.aload_n 0, 1) := by decide +kernel
theorem dX12_lines_16 : decode cX12_lines 16 = .ok (.iload_n 1, 1) := by decide +kernel
theorem dX12_lines_17 : decode cX12_lines 17 = .ok (.iload_n 2, 1) := by decide +kernel
theorem dX12_lines_18 : decode cX12_lines 18 = .ok (.invokevirtual 170, 3) := by decide +kernel
theorem dX12_lines_21 : decode cX12_lines 21 = .ok (.goto 5, 3) := by decide +kernel
theorem dX12_lines_24 : decode cX12_lines 24 = .ok (.ldc 58, 2) := by decide +kernel
theorem dX12_lines_26 : decode cX12_lines 26 = .ok (.ireturn, 1) := by decide +kernel
set_option maxRecDepth 20000 in
theorem ggX12_dead_X12_isTown : GoodIn wsX12_dead wsX12_isTown := goodIn_r _ [8, 3, 15, 16, 17, 18, 19, 20, 21, 22, 23, 24, 25, 26, 27, 28, 29, 30, 31, 32, 33, 34, 35] (by decide +kernel) (by decide +kernel)
set_option maxRecDepth 20000 in
theorem gX12_dead_X12_isTown : GoodIn wsX12_dead (wsV RX12 156 RX12 yX12_isTown wsX12_isTown) := goodIn_app (goodIn_of _ (by decide +kernel)) ggX12_dead_X12_isTown
set_option maxRecDepth 20000 in
theorem ggX12_dead_X12_isFar : GoodIn wsX12_dead wsX12_isFar := goodIn_r _ [11, 12, 13, 7, 14] (by decide +kernel) (by decide +kernel)
set_option maxRecDepth 20000 in
theorem gX12_dead_X12_isFar : GoodIn wsX12_dead (va_wsS RX12 173 yX12_isFar wsX12_isFar) := goodIn_app (goodIn_of _ (by decide +kernel)) ggX12_dead_X12_isFar
theorem dX12_dead_0 : decode cX12_dead 0 = .ok (.aload_n 0, 1) := by decide +kernel
theorem dX12_dead_1 : decode cX12_dead 1 = .ok (.invokevirtual 156, 3) := by decide +kernel
theorem dX12_dead_4 : decode cX12_dead 4 = .ok (.ifCond .ne 6, 3) := by decide +kernel
theorem dX12_dead_7 : decode cX12_dead 7 = .ok (.ldc 159, 2) := by decide +kernel
theorem dX12_dead_9 : decode cX12_dead 9 = .ok (.ireturn, 1) := by decide +kernel
theorem dX12_dead_10 : decode cX12_dead 10 = .ok (.iload_n 1, 1) := by decide +kernel
theorem dX12_dead_11 : decode cX12_dead 11 = .ok (.invokestatic 173, 3) := by decide +kernel
theorem dX12_dead_14 : decode cX12_dead 14 = .ok (.ifCond .ne 6, 3) := by decide +kernel
theorem dX12_dead_17 : decode cX12_dead 17 = .ok (.ldc 58, 2) := by decide +kernel
theorem dX12_dead_19 : decode cX12_dead 19 = .ok (.ireturn, 1) := by decide +kernel
theorem dX12_dead_20 : decode cX12_dead 20 = .ok (.iconst 0, 1) := by decide +kernel
theorem dX12_dead_21 : decode cX12_dead 21 = .ok (.istore_n 2, 1) := by decide +kernel
theorem dX12_dead_22 : decode cX12_dead 22 = .ok (.iconst 0, 1) := by decide +kernel
theorem dX12_dead_23 : decode cX12_dead 23 = .ok (.istore_n 3, 1) := by decide +kernel
theorem dX12_dead_24 : decode cX12_dead 24 = .ok (.iload_n 3, 1) := by decide +kernel
theorem dX12_dead_25 : decode cX12_dead 25 = .ok (.aload_n 0, 1) := by decide +kernel
theorem dX12_dead_26 : decode cX12_dead 26 = .ok (.getfield 25, 3) := by decide +kernel
theorem dX12_dead_29 : decode cX12_dead 29 = .ok (.iconst 3, 1) := by decide +kernel
theorem dX12_dead_30 : decode cX12_dead 30 = .ok (.iaload, 1) := by decide +kernel
theorem dX12_dead_31 : decode cX12_dead 31 = .ok (.if_icmp .ge 35, 3) := by decide +kernel
theorem dX12_dead_34 : decode cX12_dead 34 = .ok (.iload_n 2, 1) := by decide +kernel
theorem dX12_dead_35 : decode cX12_dead 35 = .ok (.aload_n 0, 1) := by decide +kernel
theorem dX12_dead_36 : decode cX12_dead 36 = .ok (.getfield 25, 3) := by decide +kernel
theorem dX12_dead_39 : decode cX12_dead 39 = .ok (.iconst 4, 1) := by decide +kernel
theorem dX12_dead_40 : decode cX12_dead 40 = .ok (.iconst 4, 1) := by decide +kernel
theorem dX12_dead_41 : decode cX12_dead 41 = .ok (.iload_n 3, 1) := by decide +kernel
theorem dX12_dead_42 : decode cX12_dead 42 = .ok (.imul, 1) := by decide +kernel
theorem dX12_dead_43 : decode cX12_dead 43 = .ok (.iadd, 1) := by decide +kernel
theorem dX12_dead_44 : decode cX12_dead 44 = .ok (.iconst 3, 1) := by decide +kernel
theorem dX12_dead_45 : decode cX12_dead 45 = .ok (.iadd, 1) := by decide +kernel
theorem dX12_dead_46 : decode cX12_dead 46 = .ok (.iaload, 1) := by decide +kernel
theorem dX12_dead_47 : decode cX12_dead 47 = .ok (.iload_n 1, 1) := by decide +kernel
theorem dX12_dead_48 : decode cX12_dead 48 = .ok (.if_icmp .gt 9, 3) := by decide +kernel
theorem dX12_dead_51 : decode cX12_dead 51 = .ok (.iconst 1, 1) := by decide +kernel
theorem dX12_dead_52 : decode cX12_dead 52 = .ok (.iload_n 3, 1) := by decide +kernel
theorem dX12_dead_53 : decode cX12_dead 53 = .ok (.ishl, 1) := by decide +kernel
theorem dX12_dead_54 : decode cX12_dead 54 = .ok (.goto 4, 3) := by decide +kernel
theorem dX12_dead_57 : decode cX12_dead 57 = .ok (.iconst 0, 1) := by decide +kernel
theorem dX12_dead_58 : decode cX12_dead 58 = .ok (.ior, 1) := by decide +kernel
theorem dX12_dead_59 : decode cX12_dead 59 = .ok (.istore_n 2, 1) := by decide +kernel
theorem dX12_dead_60 : decode cX12_dead 60 = .ok (.iinc 3 1, 3) := by decide +kernel
theorem dX12_dead_63 : decode cX12_dead 63 = .ok (.goto (-39), 3) := by decide +kernel
theorem dX12_dead_66 : decode cX12_dead 66 = .ok (.iload_n 2, 1) := by decide +kernel
theorem dX12_dead_67 : decode cX12_dead 67 = .ok (.ireturn, 1) := by decide +kernel
set_option maxRecDepth 20000 in
theorem ggX12_ends_X12_isReader : GoodIn wsX12_ends wsX12_isReader := goodIn_r _ [6, 7, 8, 9, 5, 10, 35, 36, 37, 38, 39, 40, 41, 42, 43, 44, 45, 46, 47, 48, 49, 50, 51, 52, 53, 54, 55] (by decide +kernel) (by decide +kernel)
set_option maxRecDepth 20000 in
theorem gX12_ends_X12_isReader : GoodIn wsX12_ends (wsV RX12 167 RX12 yX12_isReader wsX12_isReader) := goodIn_app (goodIn_of _ (by decide +kernel)) ggX12_ends_X12_isReader
set_option maxRecDepth 20000 in
theorem ggX12_ends_X12_falseIn : GoodIn wsX12_ends wsX12_falseIn := goodIn_r _ [14, 7, 15, 16, 17, 5, 18, 19, 20, 21, 22, 23, 24, 25, 26, 27, 28, 29, 30, 31, 32, 33, 34, 35, 36, 37, 38, 39, 40, 41, 42, 43, 44, 45, 46, 47, 48, 49, 50, 51, 52, 53, 54, 55] (by decide +kernel) (by decide +kernel)
set_option maxRecDepth 20000 in
theorem gX12_ends_X12_falseIn : GoodIn wsX12_ends (wsV RX12 170 RX12 yX12_falseIn wsX12_falseIn) := goodIn_app (goodIn_of _ (by decide +kernel)) ggX12_ends_X12_falseIn
theorem dX12_ends_0 : decode cX12_ends 0 = .ok (.aload_n 0, 1) := by decide +kernel
theorem dX12_ends_1 : decode cX12_ends 1 = .ok (.iload_n 1, 1) := by decide +kernel
theorem dX12_ends_2 : decode cX12_ends 2 = .ok (.invokevirtual 167, 3) := by decide +kernel
theorem dX12_ends_5 : decode cX12_ends 5 = .ok (.ifCond .eq 13, 3) := by decide +kernel
theorem dX12_ends_8 : decode cX12_ends 8 = .ok (.aload_n 0, 1) := by decide +kernel
theorem dX12_ends_9 : decode cX12_ends 9 = .ok (.iload_n 1, 1) := by decide +kernel
theorem dX12_ends_10 : decode cX12_ends 10 = .ok (.bipush 60, 2) := by decide +kernel
theorem dX12_ends_12 : decode cX12_ends 12 = .ok (.invokevirtual 170, 3) := by decide +kernel
theorem dX12_ends_15 : decode cX12_ends 15 = .ok (.goto 5, 3) := by decide +kernel
theorem dX12_ends_18 : decode cX12_ends 18 = .ok (.ldc 58, 2) := by decide +kernel
theorem dX12_ends_20 : decode cX12_ends 20 = .ok (.ireturn, 1) := by decide +kernel
set_option maxRecDepth 20000 in
theorem ggX12_first_X12_isTown : GoodIn wsX12_first wsX12_isTown := goodIn_r _ [9, 4, 41, 42, 43, 44, 45, 46, 47, 48, 49, 50, 51, 52, 53, 54, 55, 56, 57, 58, 59, 60, 61] (by decide +kernel) (by decide +kernel)
set_option maxRecDepth 20000 in
theorem gX12_first_X12_isTown : GoodIn wsX12_first (wsV RX12 156 RX12 yX12_isTown wsX12_isTown) := goodIn_app (goodIn_of _ (by decide +kernel)) ggX12_first_X12_isTown
set_option maxRecDepth 20000 in
theorem ggX12_first_X12_in : GoodIn wsX12_first wsX12_in := goodIn_r _ [12] (by decide +kernel) (by decide +kernel)
set_option maxRecDepth 20000 in
theorem gX12_first_X12_in : GoodIn wsX12_first (va_wsS RX12 50 yX12_in wsX12_in) := goodIn_app (goodIn_of _ (by decide +kernel)) ggX12_first_X12_in
set_option maxRecDepth 20000 in
theorem ggX12_first_X12_lives : GoodIn wsX12_first wsX12_lives := goodIn_r _ [16, 4, 41, 42, 43, 44, 45, 46, 47, 48, 49, 50, 51, 52, 53, 54, 55, 56, 57, 58, 59, 60, 61] (by decide +kernel) (by decide +kernel)
set_option maxRecDepth 20000 in
theorem gX12_first_X12_lives : GoodIn wsX12_first (wsV RX12 153 RX12 yX12_lives wsX12_lives) := goodIn_app (goodIn_of _ (by decide +kernel)) ggX12_first_X12_lives
set_option maxRecDepth 20000 in
theorem ggX12_first_X12_falseIn : GoodIn wsX12_first wsX12_falseIn := goodIn_r _ [20, 4, 21, 22, 23, 8, 24, 25, 26, 27, 28, 29, 30, 31, 32, 33, 34, 35, 36, 37, 38, 39, 40, 41, 42, 43, 44, 45, 46, 47, 48, 49, 50, 51, 52, 53, 54, 55, 56, 57, 58, 59, 60, 61] (by decide +kernel) (by decide +kernel)
set_option maxRecDepth 20000 in
theorem gX12_first_X12_falseIn : GoodIn wsX12_first (wsV RX12 170 RX12 yX12_falseIn wsX12_falseIn) := goodIn_app (goodIn_of _ (by decide +kernel)) ggX12_first_X12_falseIn
theorem dX12_first_0 : decode cX12_first 0 = .ok (.aload_n 0, 1) := by decide +kernel
theorem dX12_first_1 : decode cX12_first 1 = .ok (.invokevirtual 156, 3) := by decide +kernel
theorem dX12_first_4 : decode cX12_first 4 = .ok (.ifCond .ne 6, 3) := by decide +kernel
theorem dX12_first_7 : decode cX12_first 7 = .ok (.ldc 159, 2) := by decide +kernel
theorem dX12_first_9 : decode cX12_first 9 = .ok (.ireturn, 1) := by decide +kernel
theorem dX12_first_10 : decode cX12_first 10 = .ok (.iload_n 1, 1) := by decide +kernel
theorem dX12_first_11 : decode cX12_first 11 = .ok (.iconst 0, 1) := by decide +kernel
theorem dX12_first_12 : decode cX12_first 12 = .ok (.iconst 1, 1) := by decide +kernel
theorem dX12_first_13 : decode cX12_first 13 = .ok (.invokestatic 50, 3) := by decide +kernel
theorem dX12_first_16 : decode cX12_first 16 = .ok (.ifCond .ne 6, 3) := by decide +kernel
theorem dX12_first_19 : decode cX12_first 19 = .ok (.ldc 58, 2) := by decide +kernel
theorem dX12_first_21 : decode cX12_first 21 = .ok (.ireturn, 1) := by decide +kernel
theorem dX12_first_22 : decode cX12_first 22 = .ok (.ldc 44, 2) := by decide +kernel
theorem dX12_first_24 : decode cX12_first 24 = .ok (.istore_n 2, 1) := by decide +kernel
theorem dX12_first_25 : decode cX12_first 25 = .ok (.iconst 0, 1) := by decide +kernel
theorem dX12_first_26 : decode cX12_first 26 = .ok (.istore_n 3, 1) := by decide +kernel
theorem dX12_first_27 : decode cX12_first 27 = .ok (.iload_n 3, 1) := by decide +kernel
theorem dX12_first_28 : decode cX12_first 28 = .ok (.aload_n 0, 1) := by decide +kernel
theorem dX12_first_29 : decode cX12_first 29 = .ok (.getfield 25, 3) := by decide +kernel
theorem dX12_first_32 : decode cX12_first 32 = .ok (.iconst 3, 1) := by decide +kernel
theorem dX12_first_33 : decode cX12_first 33 = .ok (.iaload, 1) := by decide +kernel
theorem dX12_first_34 : decode cX12_first 34 = .ok (.if_icmp .ge 78, 3) := by decide +kernel
theorem dX12_first_37 : decode cX12_first 37 = .ok (.aload_n 0, 1) := by decide +kernel
theorem dX12_first_38 : decode cX12_first 38 = .ok (.iload_n 3, 1) := by decide +kernel
theorem dX12_first_39 : decode cX12_first 39 = .ok (.invokevirtual 153, 3) := by decide +kernel
theorem dX12_first_42 : decode cX12_first 42 = .ok (.ifCond .eq 17, 3) := by decide +kernel
theorem dX12_first_45 : decode cX12_first 45 = .ok (.aload_n 0, 1) := by decide +kernel
theorem dX12_first_46 : decode cX12_first 46 = .ok (.iload_n 3, 1) := by decide +kernel
theorem dX12_first_47 : decode cX12_first 47 = .ok (.bipush 60, 2) := by decide +kernel
theorem dX12_first_49 : decode cX12_first 49 = .ok (.invokevirtual 170, 3) := by decide +kernel
theorem dX12_first_52 : decode cX12_first 52 = .ok (.ifCond .le 7, 3) := by decide +kernel
theorem dX12_first_55 : decode cX12_first 55 = .ok (.iconst 1, 1) := by decide +kernel
theorem dX12_first_56 : decode cX12_first 56 = .ok (.goto 4, 3) := by decide +kernel
theorem dX12_first_59 : decode cX12_first 59 = .ok (.iconst 0, 1) := by decide +kernel
theorem dX12_first_60 : decode cX12_first 60 = .ok (.istore 4, 2) := by decide +kernel
theorem dX12_first_62 : decode cX12_first 62 = .ok (.iload 4, 2) := by decide +kernel
theorem dX12_first_64 : decode cX12_first 64 = .ok (.ifCond .eq 40, 3) := by decide +kernel
theorem dX12_first_67 : decode cX12_first 67 = .ok (.iload_n 2, 1) := by decide +kernel
theorem dX12_first_68 : decode cX12_first 68 = .ok (.ldc 44, 2) := by decide +kernel
theorem dX12_first_70 : decode cX12_first 70 = .ok (.if_icmp .eq 30, 3) := by decide +kernel
theorem dX12_first_73 : decode cX12_first 73 = .ok (.aload_n 0, 1) := by decide +kernel
theorem dX12_first_74 : decode cX12_first 74 = .ok (.getfield 25, 3) := by decide +kernel
theorem dX12_first_77 : decode cX12_first 77 = .ok (.iconst 4, 1) := by decide +kernel
theorem dX12_first_78 : decode cX12_first 78 = .ok (.iconst 4, 1) := by decide +kernel
theorem dX12_first_79 : decode cX12_first 79 = .ok (.iload_n 3, 1) := by decide +kernel
theorem dX12_first_80 : decode cX12_first 80 = .ok (.imul, 1) := by decide +kernel
theorem dX12_first_81 : decode cX12_first 81 = .ok (.iadd, 1) := by decide +kernel
theorem dX12_first_82 : decode cX12_first 82 = .ok (.iconst 3, 1) := by decide +kernel
theorem dX12_first_83 : decode cX12_first 83 = .ok (.iadd, 1) := by decide +kernel
theorem dX12_first_84 : decode cX12_first 84 = .ok (.iaload, 1) := by decide +kernel
theorem dX12_first_85 : decode cX12_first 85 = .ok (.aload_n 0, 1) := by decide +kernel
theorem dX12_first_86 : decode cX12_first 86 = .ok (.getfield 25, 3) := by decide +kernel
theorem dX12_first_89 : decode cX12_first 89 = .ok (.iconst 4, 1) := by decide +kernel
theorem dX12_first_90 : decode cX12_first 90 = .ok (.iconst 4, 1) := by decide +kernel
theorem dX12_first_91 : decode cX12_first 91 = .ok (.iload_n 2, 1) := by decide +kernel
theorem dX12_first_92 : decode cX12_first 92 = .ok (.imul, 1) := by decide +kernel
theorem dX12_first_93 : decode cX12_first 93 = .ok (.iadd, 1) := by decide +kernel
theorem dX12_first_94 : decode cX12_first 94 = .ok (.iconst 3, 1) := by decide +kernel
theorem dX12_first_95 : decode cX12_first 95 = .ok (.iadd, 1) := by decide +kernel
theorem dX12_first_96 : decode cX12_first 96 = .ok (.iaload, 1) := by decide +kernel
theorem dX12_first_97 : decode cX12_first 97 = .ok (.if_icmp .ge 7, 3) := by decide +kernel
theorem dX12_first_100 : decode cX12_first 100 = .ok (.iload_n 3, 1) := by decide +kernel
theorem dX12_first_101 : decode cX12_first 101 = .ok (.goto 4, 3) := by decide +kernel
theorem dX12_first_104 : decode cX12_first 104 = .ok (.iload_n 2, 1) := by decide +kernel
theorem dX12_first_105 : decode cX12_first 105 = .ok (.istore_n 2, 1) := by decide +kernel
theorem dX12_first_106 : decode cX12_first 106 = .ok (.iinc 3 1, 3) := by decide +kernel
theorem dX12_first_109 : decode cX12_first 109 = .ok (.goto (-82), 3) := by decide +kernel
theorem dX12_first_112 : decode cX12_first 112 = .ok (.iload_n 2, 1) := by decide +kernel
theorem dX12_first_113 : decode cX12_first 113 = .ok (.ldc 44, 2) := by decide +kernel
theorem dX12_first_115 : decode cX12_first 115 = .ok (.if_icmp .eq 7, 3) := by decide +kernel
theorem dX12_first_118 : decode cX12_first 118 = .ok (.iload_n 1, 1) := by decide +kernel
theorem dX12_first_119 : decode cX12_first 119 = .ok (.ifCond .ne 7, 3) := by decide +kernel
theorem dX12_first_122 : decode cX12_first 122 = .ok (.iload_n 2, 1) := by decide +kernel
theorem dX12_first_123 : decode cX12_first 123 = .ok (.goto 15, 3) := by decide +kernel
theorem dX12_first_126 : decode cX12_first 126 = .ok (.aload_n 0, 1) := by decide +kernel
theorem dX12_first_127 : decode cX12_first 127 = .ok (.getfield 25, 3) := by decide +kernel
theorem dX12_first_130 : decode cX12_first 130 = .ok (.iconst 4, 1) := by decide +kernel
theorem dX12_first_131 : decode cX12_first 131 = .ok (.iconst 4, 1) := by decide +kernel
theorem dX12_first_132 : decode cX12_first 132 = .ok (.iload_n 2, 1) := by decide +kernel
theorem dX12_first_133 : decode cX12_first 133 = .ok (.imul, 1) := by decide +kernel
theorem dX12_first_134 : decode cX12_first 134 = .ok (.iadd, 1) := by decide +kernel
theorem dX12_first_135 : decode cX12_first 135 = .ok (.iconst 3, 1) := by decide +kernel
theorem dX12_first_136 : decode cX12_first 136 = .ok (.iadd, 1) := by decide +kernel
theorem dX12_first_137 : decode cX12_first 137 = .ok (.iaload, 1) := by decide +kernel
theorem dX12_first_138 : decode cX12_first 138 = .ok (.ireturn, 1) := by decide +kernel
set_option maxRecDepth 20000 in
theorem ggX12_toWrite_X12_isReader : GoodIn wsX12_toWrite wsX12_isReader := goodIn_r _ [9, 4, 10, 11, 8, 12, 33, 34, 35, 36, 37, 38, 39, 40, 41, 42, 43, 44, 45, 46, 47, 48, 49, 50, 51, 52, 53] (by decide +kernel) (by decide +kernel)
set_option maxRecDepth 20000 in
theorem gX12_toWrite_X12_isReader : GoodIn wsX12_toWrite (wsV RX12 167 RX12 yX12_isReader wsX12_isReader) := goodIn_app (goodIn_of _ (by decide +kernel)) ggX12_toWrite_X12_isReader
set_option maxRecDepth 20000 in
theorem ggX12_toWrite_X12_in : GoodIn wsX12_toWrite wsX12_in := goodIn_r _ [12] (by decide +kernel) (by decide +kernel)
set_option maxRecDepth 20000 in
theorem gX12_toWrite_X12_in : GoodIn wsX12_toWrite (va_wsS RX12 50 yX12_in wsX12_in) := goodIn_app (goodIn_of _ (by decide +kernel)) ggX12_toWrite_X12_in
set_option maxRecDepth 20000 in
theorem ggX12_toWrite_X12_lives : GoodIn wsX12_toWrite wsX12_lives := goodIn_r _ [16, 4, 33, 34, 35, 36, 37, 38, 39, 40, 41, 42, 43, 44, 45, 46, 47, 48, 49, 50, 51, 52, 53] (by decide +kernel) (by decide +kernel)
set_option maxRecDepth 20000 in
theorem gX12_toWrite_X12_lives : GoodIn wsX12_toWrite (wsV RX12 153 RX12 yX12_lives wsX12_lives) := goodIn_app (goodIn_of _ (by decide +kernel)) ggX12_toWrite_X12_lives
set_option maxRecDepth 20000 in
theorem ggX12_toWrite_X12_doneIn : GoodIn wsX12_toWrite wsX12_doneIn := goodIn_r _ [20, 4, 21, 22, 8, 23, 24, 25, 26, 27, 28, 29, 30, 31, 32, 33, 34, 35, 36, 37, 38, 39, 40, 41, 42, 43, 44, 45, 46, 47, 48, 49, 50, 51, 52, 53] (by decide +kernel) (by decide +kernel)
set_option maxRecDepth 20000 in
theorem gX12_toWrite_X12_doneIn : GoodIn wsX12_toWrite (wsV RX12 146 RX12 yX12_doneIn wsX12_doneIn) := goodIn_app (goodIn_of _ (by decide +kernel)) ggX12_toWrite_X12_doneIn
set_option maxRecDepth 20000 in
theorem ggX12_toWrite_X12_ones : GoodIn wsX12_toWrite wsX12_ones := goodIn_r _ [32] (by decide +kernel) (by decide +kernel)
set_option maxRecDepth 20000 in
theorem gX12_toWrite_X12_ones : GoodIn wsX12_toWrite (va_wsS RX12 139 yX12_ones wsX12_ones) := goodIn_app (goodIn_of _ (by decide +kernel)) ggX12_toWrite_X12_ones
theorem dX12_toWrite_0 : decode cX12_toWrite 0 = .ok (.aload_n 0, 1) := by decide +kernel
theorem dX12_toWrite_1 : decode cX12_toWrite 1 = .ok (.iload_n 1, 1) := by decide +kernel
theorem dX12_toWrite_2 : decode cX12_toWrite 2 = .ok (.invokevirtual 167, 3) := by decide +kernel
theorem dX12_toWrite_5 : decode cX12_toWrite 5 = .ok (.ifCond .eq 22, 3) := by decide +kernel
theorem dX12_toWrite_8 : decode cX12_toWrite 8 = .ok (.iload_n 2, 1) := by decide +kernel
theorem dX12_toWrite_9 : decode cX12_toWrite 9 = .ok (.iconst 0, 1) := by decide +kernel
theorem dX12_toWrite_10 : decode cX12_toWrite 10 = .ok (.bipush 63, 2) := by decide +kernel
theorem dX12_toWrite_12 : decode cX12_toWrite 12 = .ok (.invokestatic 50, 3) := by decide +kernel
theorem dX12_toWrite_15 : decode cX12_toWrite 15 = .ok (.ifCond .eq 12, 3) := by decide +kernel
theorem dX12_toWrite_18 : decode cX12_toWrite 18 = .ok (.iload_n 3, 1) := by decide +kernel
theorem dX12_toWrite_19 : decode cX12_toWrite 19 = .ok (.iconst 0, 1) := by decide +kernel
theorem dX12_toWrite_20 : decode cX12_toWrite 20 = .ok (.iconst 1, 1) := by decide +kernel
theorem dX12_toWrite_21 : decode cX12_toWrite 21 = .ok (.invokestatic 50, 3) := by decide +kernel
theorem dX12_toWrite_24 : decode cX12_toWrite 24 = .ok (.ifCond .ne 6, 3) := by decide +kernel
theorem dX12_toWrite_27 : decode cX12_toWrite 27 = .ok (.ldc 58, 2) := by decide +kernel
theorem dX12_toWrite_29 : decode cX12_toWrite 29 = .ok (.ireturn, 1) := by decide +kernel
theorem dX12_toWrite_30 : decode cX12_toWrite 30 = .ok (.aload_n 0, 1) := by decide +kernel
theorem dX12_toWrite_31 : decode cX12_toWrite 31 = .ok (.iload_n 1, 1) := by decide +kernel
theorem dX12_toWrite_32 : decode cX12_toWrite 32 = .ok (.invokevirtual 153, 3) := by decide +kernel
theorem dX12_toWrite_35 : decode cX12_toWrite 35 = .ok (.ifCond .ne 6, 3) := by decide +kernel
theorem dX12_toWrite_38 : decode cX12_toWrite 38 = .ok (.ldc 159, 2) := by decide +kernel
theorem dX12_toWrite_40 : decode cX12_toWrite 40 = .ok (.ireturn, 1) := by decide +kernel
theorem dX12_toWrite_41 : decode cX12_toWrite 41 = .ok (.iconst 4, 1) := by decide +kernel
theorem dX12_toWrite_42 : decode cX12_toWrite 42 = .ok (.iconst 4, 1) := by decide +kernel
theorem dX12_toWrite_43 : decode cX12_toWrite 43 = .ok (.iload_n 1, 1) := by decide +kernel
theorem dX12_toWrite_44 : decode cX12_toWrite 44 = .ok (.imul, 1) := by decide +kernel
theorem dX12_toWrite_45 : decode cX12_toWrite 45 = .ok (.iadd, 1) := by decide +kernel
theorem dX12_toWrite_46 : decode cX12_toWrite 46 = .ok (.istore 4, 2) := by decide +kernel
theorem dX12_toWrite_48 : decode cX12_toWrite 48 = .ok (.ldc 44, 2) := by decide +kernel
theorem dX12_toWrite_50 : decode cX12_toWrite 50 = .ok (.istore 5, 2) := by decide +kernel
theorem dX12_toWrite_52 : decode cX12_toWrite 52 = .ok (.ldc 44, 2) := by decide +kernel
theorem dX12_toWrite_54 : decode cX12_toWrite 54 = .ok (.istore 6, 2) := by decide +kernel
theorem dX12_toWrite_56 : decode cX12_toWrite 56 = .ok (.iconst 0, 1) := by decide +kernel
theorem dX12_toWrite_57 : decode cX12_toWrite 57 = .ok (.istore 7, 2) := by decide +kernel
theorem dX12_toWrite_59 : decode cX12_toWrite 59 = .ok (.iload 7, 2) := by decide +kernel
theorem dX12_toWrite_61 : decode cX12_toWrite 61 = .ok (.bipush 64, 2) := by decide +kernel
theorem dX12_toWrite_63 : decode cX12_toWrite 63 = .ok (.if_icmp .ge 104, 3) := by decide +kernel
theorem dX12_toWrite_66 : decode cX12_toWrite 66 = .ok (.aload_n 0, 1) := by decide +kernel
theorem dX12_toWrite_67 : decode cX12_toWrite 67 = .ok (.iload_n 1, 1) := by decide +kernel
theorem dX12_toWrite_68 : decode cX12_toWrite 68 = .ok (.aload_n 0, 1) := by decide +kernel
theorem dX12_toWrite_69 : decode cX12_toWrite 69 = .ok (.getfield 25, 3) := by decide +kernel
theorem dX12_toWrite_72 : decode cX12_toWrite 72 = .ok (.iload 4, 2) := by decide +kernel
theorem dX12_toWrite_74 : decode cX12_toWrite 74 = .ok (.iaload, 1) := by decide +kernel
theorem dX12_toWrite_75 : decode cX12_toWrite 75 = .ok (.aload_n 0, 1) := by decide +kernel
theorem dX12_toWrite_76 : decode cX12_toWrite 76 = .ok (.getfield 25, 3) := by decide +kernel
theorem dX12_toWrite_79 : decode cX12_toWrite 79 = .ok (.iload 4, 2) := by decide +kernel
theorem dX12_toWrite_81 : decode cX12_toWrite 81 = .ok (.iconst 1, 1) := by decide +kernel
theorem dX12_toWrite_82 : decode cX12_toWrite 82 = .ok (.iadd, 1) := by decide +kernel
theorem dX12_toWrite_83 : decode cX12_toWrite 83 = .ok (.iaload, 1) := by decide +kernel
theorem dX12_toWrite_84 : decode cX12_toWrite 84 = .ok (.iload 7, 2) := by decide +kernel
theorem dX12_toWrite_86 : decode cX12_toWrite 86 = .ok (.bipush 60, 2) := by decide +kernel
theorem dX12_toWrite_88 : decode cX12_toWrite 88 = .ok (.invokevirtual 146, 3) := by decide +kernel
theorem dX12_toWrite_91 : decode cX12_toWrite 91 = .ok (.istore 8, 2) := by decide +kernel
theorem dX12_toWrite_93 : decode cX12_toWrite 93 = .ok (.iload 8, 2) := by decide +kernel
theorem dX12_toWrite_95 : decode cX12_toWrite 95 = .ok (.iload 7, 2) := by decide +kernel
theorem dX12_toWrite_97 : decode cX12_toWrite 97 = .ok (.ixor, 1) := by decide +kernel
theorem dX12_toWrite_98 : decode cX12_toWrite 98 = .ok (.invokestatic 139, 3) := by decide +kernel
theorem dX12_toWrite_101 : decode cX12_toWrite 101 = .ok (.istore 9, 2) := by decide +kernel
theorem dX12_toWrite_103 : decode cX12_toWrite 103 = .ok (.iload_n 2, 1) := by decide +kernel
theorem dX12_toWrite_104 : decode cX12_toWrite 104 = .ok (.iload 8, 2) := by decide +kernel
theorem dX12_toWrite_106 : decode cX12_toWrite 106 = .ok (.iconst (-1), 1) := by decide +kernel
theorem dX12_toWrite_107 : decode cX12_toWrite 107 = .ok (.ixor, 1) := by decide +kernel
theorem dX12_toWrite_108 : decode cX12_toWrite 108 = .ok (.iand, 1) := by decide +kernel
theorem dX12_toWrite_109 : decode cX12_toWrite 109 = .ok (.ifCond .ne 21, 3) := by decide +kernel
theorem dX12_toWrite_112 : decode cX12_toWrite 112 = .ok (.iload 5, 2) := by decide +kernel
theorem dX12_toWrite_114 : decode cX12_toWrite 114 = .ok (.ldc 44, 2) := by decide +kernel
theorem dX12_toWrite_116 : decode cX12_toWrite 116 = .ok (.if_icmp .eq 10, 3) := by decide +kernel
theorem dX12_toWrite_119 : decode cX12_toWrite 119 = .ok (.iload 9, 2) := by decide +kernel
theorem dX12_toWrite_121 : decode cX12_toWrite 121 = .ok (.iload 6, 2) := by decide +kernel
theorem dX12_toWrite_123 : decode cX12_toWrite 123 = .ok (.if_icmp .ge 7, 3) := by decide +kernel
theorem dX12_toWrite_126 : decode cX12_toWrite 126 = .ok (.iconst 1, 1) := by decide +kernel
theorem dX12_toWrite_127 : decode cX12_toWrite 127 = .ok (.goto 4, 3) := by decide +kernel
theorem dX12_toWrite_130 : decode cX12_toWrite 130 = .ok (.iconst 0, 1) := by decide +kernel
theorem dX12_toWrite_131 : decode cX12_toWrite 131 = .ok (.istore 10, 2) := by decide +kernel
theorem dX12_toWrite_133 : decode cX12_toWrite 133 = .ok (.iload 10, 2) := by decide +kernel
theorem dX12_toWrite_135 : decode cX12_toWrite 135 = .ok (.ifCond .eq 8, 3) := by decide +kernel
theorem dX12_toWrite_138 : decode cX12_toWrite 138 = .ok (.iload 7, 2) := by decide +kernel
theorem dX12_toWrite_140 : decode cX12_toWrite 140 = .ok (.goto 5, 3) := by decide +kernel
theorem dX12_toWrite_143 : decode cX12_toWrite 143 = .ok (.iload 5, 2) := by decide +kernel
theorem dX12_toWrite_145 : decode cX12_toWrite 145 = .ok (.istore 5, 2) := by decide +kernel
theorem dX12_toWrite_147 : decode cX12_toWrite 147 = .ok (.iload 10, 2) := by decide +kernel
theorem dX12_toWrite_149 : decode cX12_toWrite 149 = .ok (.ifCond .eq 8, 3) := by decide +kernel
theorem dX12_toWrite_152 : decode cX12_toWrite 152 = .ok (.iload 9, 2) := by decide +kernel
theorem dX12_toWrite_154 : decode cX12_toWrite 154 = .ok (.goto 5, 3) := by decide +kernel
theorem dX12_toWrite_157 : decode cX12_toWrite 157 = .ok (.iload 6, 2) := by decide +kernel
theorem dX12_toWrite_159 : decode cX12_toWrite 159 = .ok (.istore 6, 2) := by decide +kernel
theorem dX12_toWrite_161 : decode cX12_toWrite 161 = .ok (.iinc 7 1, 3) := by decide +kernel
theorem dX12_toWrite_164 : decode cX12_toWrite 164 = .ok (.goto (-105), 3) := by decide +kernel
theorem dX12_toWrite_167 : decode cX12_toWrite 167 = .ok (.iload_n 3, 1) := by decide +kernel
theorem dX12_toWrite_168 : decode cX12_toWrite 168 = .ok (.ifCond .ne 8, 3) := by decide +kernel
theorem dX12_toWrite_171 : decode cX12_toWrite 171 = .ok (.iload 6, 2) := by decide +kernel
theorem dX12_toWrite_173 : decode cX12_toWrite 173 = .ok (.goto 5, 3) := by decide +kernel
theorem dX12_toWrite_176 : decode cX12_toWrite 176 = .ok (.iload 5, 2) := by decide +kernel
theorem dX12_toWrite_178 : decode cX12_toWrite 178 = .ok (.ireturn, 1) := by decide +kernel
set_option maxRecDepth 20000 in
theorem ggX12_toDeny_X12_isReader : GoodIn wsX12_toDeny wsX12_isReader := goodIn_r _ [8, 3, 9, 10, 7, 11, 28, 29, 30, 31, 32, 33, 34, 35, 36, 37, 38, 39, 40, 41, 42, 43, 44, 45, 46, 47, 48] (by decide +kernel) (by decide +kernel)
set_option maxRecDepth 20000 in
theorem gX12_toDeny_X12_isReader : GoodIn wsX12_toDeny (wsV RX12 167 RX12 yX12_isReader wsX12_isReader) := goodIn_app (goodIn_of _ (by decide +kernel)) ggX12_toDeny_X12_isReader
set_option maxRecDepth 20000 in
theorem ggX12_toDeny_X12_in : GoodIn wsX12_toDeny wsX12_in := goodIn_r _ [11] (by decide +kernel) (by decide +kernel)
set_option maxRecDepth 20000 in
theorem gX12_toDeny_X12_in : GoodIn wsX12_toDeny (va_wsS RX12 50 yX12_in wsX12_in) := goodIn_app (goodIn_of _ (by decide +kernel)) ggX12_toDeny_X12_in
set_option maxRecDepth 20000 in
theorem ggX12_toDeny_X12_doneIn : GoodIn wsX12_toDeny wsX12_doneIn := goodIn_r _ [15, 3, 16, 17, 7, 18, 19, 20, 21, 22, 23, 24, 25, 26, 27, 28, 29, 30, 31, 32, 33, 34, 35, 36, 37, 38, 39, 40, 41, 42, 43, 44, 45, 46, 47, 48] (by decide +kernel) (by decide +kernel)
set_option maxRecDepth 20000 in
theorem gX12_toDeny_X12_doneIn : GoodIn wsX12_toDeny (wsV RX12 146 RX12 yX12_doneIn wsX12_doneIn) := goodIn_app (goodIn_of _ (by decide +kernel)) ggX12_toDeny_X12_doneIn
set_option maxRecDepth 20000 in
theorem ggX12_toDeny_X12_ones : GoodIn wsX12_toDeny wsX12_ones := goodIn_r _ [27] (by decide +kernel) (by decide +kernel)
set_option maxRecDepth 20000 in
theorem gX12_toDeny_X12_ones : GoodIn wsX12_toDeny (va_wsS RX12 139 yX12_ones wsX12_ones) := goodIn_app (goodIn_of _ (by decide +kernel)) ggX12_toDeny_X12_ones
theorem dX12_toDeny_0 : decode cX12_toDeny 0 = .ok (.aload_n 0, 1) := by decide +kernel
theorem dX12_toDeny_1 : decode cX12_toDeny 1 = .ok (.iload_n 1, 1) := by decide +kernel
theorem dX12_toDeny_2 : decode cX12_toDeny 2 = .ok (.invokevirtual 167, 3) := by decide +kernel
theorem dX12_toDeny_5 : decode cX12_toDeny 5 = .ok (.ifCond .eq 12, 3) := by decide +kernel
theorem dX12_toDeny_8 : decode cX12_toDeny 8 = .ok (.iload_n 2, 1) := by decide +kernel
theorem dX12_toDeny_9 : decode cX12_toDeny 9 = .ok (.iconst 0, 1) := by decide +kernel
theorem dX12_toDeny_10 : decode cX12_toDeny 10 = .ok (.iconst 1, 1) := by decide +kernel
theorem dX12_toDeny_11 : decode cX12_toDeny 11 = .ok (.invokestatic 50, 3) := by decide +kernel
theorem dX12_toDeny_14 : decode cX12_toDeny 14 = .ok (.ifCond .ne 6, 3) := by decide +kernel
theorem dX12_toDeny_17 : decode cX12_toDeny 17 = .ok (.ldc 58, 2) := by decide +kernel
theorem dX12_toDeny_19 : decode cX12_toDeny 19 = .ok (.ireturn, 1) := by decide +kernel
theorem dX12_toDeny_20 : decode cX12_toDeny 20 = .ok (.iconst 4, 1) := by decide +kernel
theorem dX12_toDeny_21 : decode cX12_toDeny 21 = .ok (.iconst 4, 1) := by decide +kernel
theorem dX12_toDeny_22 : decode cX12_toDeny 22 = .ok (.iload_n 1, 1) := by decide +kernel
theorem dX12_toDeny_23 : decode cX12_toDeny 23 = .ok (.imul, 1) := by decide +kernel
theorem dX12_toDeny_24 : decode cX12_toDeny 24 = .ok (.iadd, 1) := by decide +kernel
theorem dX12_toDeny_25 : decode cX12_toDeny 25 = .ok (.istore_n 3, 1) := by decide +kernel
theorem dX12_toDeny_26 : decode cX12_toDeny 26 = .ok (.ldc 44, 2) := by decide +kernel
theorem dX12_toDeny_28 : decode cX12_toDeny 28 = .ok (.istore 4, 2) := by decide +kernel
theorem dX12_toDeny_30 : decode cX12_toDeny 30 = .ok (.iconst 0, 1) := by decide +kernel
theorem dX12_toDeny_31 : decode cX12_toDeny 31 = .ok (.istore 5, 2) := by decide +kernel
theorem dX12_toDeny_33 : decode cX12_toDeny 33 = .ok (.iload 5, 2) := by decide +kernel
theorem dX12_toDeny_35 : decode cX12_toDeny 35 = .ok (.bipush 64, 2) := by decide +kernel
theorem dX12_toDeny_37 : decode cX12_toDeny 37 = .ok (.if_icmp .ge 115, 3) := by decide +kernel
theorem dX12_toDeny_40 : decode cX12_toDeny 40 = .ok (.aload_n 0, 1) := by decide +kernel
theorem dX12_toDeny_41 : decode cX12_toDeny 41 = .ok (.iload_n 1, 1) := by decide +kernel
theorem dX12_toDeny_42 : decode cX12_toDeny 42 = .ok (.aload_n 0, 1) := by decide +kernel
theorem dX12_toDeny_43 : decode cX12_toDeny 43 = .ok (.getfield 25, 3) := by decide +kernel
theorem dX12_toDeny_46 : decode cX12_toDeny 46 = .ok (.iload_n 3, 1) := by decide +kernel
theorem dX12_toDeny_47 : decode cX12_toDeny 47 = .ok (.iaload, 1) := by decide +kernel
theorem dX12_toDeny_48 : decode cX12_toDeny 48 = .ok (.aload_n 0, 1) := by decide +kernel
theorem dX12_toDeny_49 : decode cX12_toDeny 49 = .ok (.getfield 25, 3) := by decide +kernel
theorem dX12_toDeny_52 : decode cX12_toDeny 52 = .ok (.iload_n 3, 1) := by decide +kernel
theorem dX12_toDeny_53 : decode cX12_toDeny 53 = .ok (.iconst 1, 1) := by decide +kernel
theorem dX12_toDeny_54 : decode cX12_toDeny 54 = .ok (.iadd, 1) := by decide +kernel
theorem dX12_toDeny_55 : decode cX12_toDeny 55 = .ok (.iaload, 1) := by decide +kernel
theorem dX12_toDeny_56 : decode cX12_toDeny 56 = .ok (.iload 5, 2) := by decide +kernel
theorem dX12_toDeny_58 : decode cX12_toDeny 58 = .ok (.iconst (-1), 1) := by decide +kernel
theorem dX12_toDeny_59 : decode cX12_toDeny 59 = .ok (.ixor, 1) := by decide +kernel
theorem dX12_toDeny_60 : decode cX12_toDeny 60 = .ok (.iand, 1) := by decide +kernel
theorem dX12_toDeny_61 : decode cX12_toDeny 61 = .ok (.aload_n 0, 1) := by decide +kernel
theorem dX12_toDeny_62 : decode cX12_toDeny 62 = .ok (.getfield 25, 3) := by decide +kernel
theorem dX12_toDeny_65 : decode cX12_toDeny 65 = .ok (.iload_n 3, 1) := by decide +kernel
theorem dX12_toDeny_66 : decode cX12_toDeny 66 = .ok (.iconst 2, 1) := by decide +kernel
theorem dX12_toDeny_67 : decode cX12_toDeny 67 = .ok (.iadd, 1) := by decide +kernel
theorem dX12_toDeny_68 : decode cX12_toDeny 68 = .ok (.iaload, 1) := by decide +kernel
theorem dX12_toDeny_69 : decode cX12_toDeny 69 = .ok (.bipush 60, 2) := by decide +kernel
theorem dX12_toDeny_71 : decode cX12_toDeny 71 = .ok (.invokevirtual 146, 3) := by decide +kernel
theorem dX12_toDeny_74 : decode cX12_toDeny 74 = .ok (.istore 6, 2) := by decide +kernel
theorem dX12_toDeny_76 : decode cX12_toDeny 76 = .ok (.iload 5, 2) := by decide +kernel
theorem dX12_toDeny_78 : decode cX12_toDeny 78 = .ok (.aload_n 0, 1) := by decide +kernel
theorem dX12_toDeny_79 : decode cX12_toDeny 79 = .ok (.getfield 25, 3) := by decide +kernel
theorem dX12_toDeny_82 : decode cX12_toDeny 82 = .ok (.iload_n 3, 1) := by decide +kernel
theorem dX12_toDeny_83 : decode cX12_toDeny 83 = .ok (.iconst 1, 1) := by decide +kernel
theorem dX12_toDeny_84 : decode cX12_toDeny 84 = .ok (.iadd, 1) := by decide +kernel
theorem dX12_toDeny_85 : decode cX12_toDeny 85 = .ok (.iaload, 1) := by decide +kernel
theorem dX12_toDeny_86 : decode cX12_toDeny 86 = .ok (.iconst (-1), 1) := by decide +kernel
theorem dX12_toDeny_87 : decode cX12_toDeny 87 = .ok (.ixor, 1) := by decide +kernel
theorem dX12_toDeny_88 : decode cX12_toDeny 88 = .ok (.iand, 1) := by decide +kernel
theorem dX12_toDeny_89 : decode cX12_toDeny 89 = .ok (.ifCond .ne 20, 3) := by decide +kernel
theorem dX12_toDeny_92 : decode cX12_toDeny 92 = .ok (.iload 6, 2) := by decide +kernel
theorem dX12_toDeny_94 : decode cX12_toDeny 94 = .ok (.aload_n 0, 1) := by decide +kernel
theorem dX12_toDeny_95 : decode cX12_toDeny 95 = .ok (.getfield 25, 3) := by decide +kernel
theorem dX12_toDeny_98 : decode cX12_toDeny 98 = .ok (.iload_n 3, 1) := by decide +kernel
theorem dX12_toDeny_99 : decode cX12_toDeny 99 = .ok (.iconst 2, 1) := by decide +kernel
theorem dX12_toDeny_100 : decode cX12_toDeny 100 = .ok (.iadd, 1) := by decide +kernel
theorem dX12_toDeny_101 : decode cX12_toDeny 101 = .ok (.iaload, 1) := by decide +kernel
theorem dX12_toDeny_102 : decode cX12_toDeny 102 = .ok (.if_icmp .ne 7, 3) := by decide +kernel
theorem dX12_toDeny_105 : decode cX12_toDeny 105 = .ok (.iconst 1, 1) := by decide +kernel
theorem dX12_toDeny_106 : decode cX12_toDeny 106 = .ok (.goto 4, 3) := by decide +kernel
theorem dX12_toDeny_109 : decode cX12_toDeny 109 = .ok (.iconst 0, 1) := by decide +kernel
theorem dX12_toDeny_110 : decode cX12_toDeny 110 = .ok (.istore 7, 2) := by decide +kernel
theorem dX12_toDeny_112 : decode cX12_toDeny 112 = .ok (.iload 7, 2) := by decide +kernel
theorem dX12_toDeny_114 : decode cX12_toDeny 114 = .ok (.ifCond .eq 28, 3) := by decide +kernel
theorem dX12_toDeny_117 : decode cX12_toDeny 117 = .ok (.iload 4, 2) := by decide +kernel
theorem dX12_toDeny_119 : decode cX12_toDeny 119 = .ok (.ldc 44, 2) := by decide +kernel
theorem dX12_toDeny_121 : decode cX12_toDeny 121 = .ok (.if_icmp .eq 16, 3) := by decide +kernel
theorem dX12_toDeny_124 : decode cX12_toDeny 124 = .ok (.iload 5, 2) := by decide +kernel
theorem dX12_toDeny_126 : decode cX12_toDeny 126 = .ok (.invokestatic 139, 3) := by decide +kernel
theorem dX12_toDeny_129 : decode cX12_toDeny 129 = .ok (.iload 4, 2) := by decide +kernel
theorem dX12_toDeny_131 : decode cX12_toDeny 131 = .ok (.invokestatic 139, 3) := by decide +kernel
theorem dX12_toDeny_134 : decode cX12_toDeny 134 = .ok (.if_icmp .ge 8, 3) := by decide +kernel
theorem dX12_toDeny_137 : decode cX12_toDeny 137 = .ok (.iload 5, 2) := by decide +kernel
theorem dX12_toDeny_139 : decode cX12_toDeny 139 = .ok (.goto 5, 3) := by decide +kernel
theorem dX12_toDeny_142 : decode cX12_toDeny 142 = .ok (.iload 4, 2) := by decide +kernel
theorem dX12_toDeny_144 : decode cX12_toDeny 144 = .ok (.istore 4, 2) := by decide +kernel
theorem dX12_toDeny_146 : decode cX12_toDeny 146 = .ok (.iinc 5 1, 3) := by decide +kernel
theorem dX12_toDeny_149 : decode cX12_toDeny 149 = .ok (.goto (-116), 3) := by decide +kernel
theorem dX12_toDeny_152 : decode cX12_toDeny 152 = .ok (.iload 4, 2) := by decide +kernel
theorem dX12_toDeny_154 : decode cX12_toDeny 154 = .ok (.ldc 44, 2) := by decide +kernel
theorem dX12_toDeny_156 : decode cX12_toDeny 156 = .ok (.if_icmp .eq 8, 3) := by decide +kernel
theorem dX12_toDeny_159 : decode cX12_toDeny 159 = .ok (.iload_n 2, 1) := by decide +kernel
theorem dX12_toDeny_160 : decode cX12_toDeny 160 = .ok (.iconst 1, 1) := by decide +kernel
theorem dX12_toDeny_161 : decode cX12_toDeny 161 = .ok (.if_icmp .ne 8, 3) := by decide +kernel
theorem dX12_toDeny_164 : decode cX12_toDeny 164 = .ok (.iload 4, 2) := by decide +kernel
theorem dX12_toDeny_166 : decode cX12_toDeny 166 = .ok (.goto 8, 3) := by decide +kernel
theorem dX12_toDeny_169 : decode cX12_toDeny 169 = .ok (.iload 4, 2) := by decide +kernel
theorem dX12_toDeny_171 : decode cX12_toDeny 171 = .ok (.invokestatic 139, 3) := by decide +kernel
theorem dX12_toDeny_174 : decode cX12_toDeny 174 = .ok (.ireturn, 1) := by decide +kernel
set_option maxRecDepth 20000 in
theorem ggX12_print_X12_isTown : GoodIn wsX12_print wsX12_isTown := goodIn_r _ [8, 3, 18, 19, 20, 21, 22, 23, 24, 25, 26, 27, 28, 29, 30, 31, 32, 33, 34, 35, 36, 37, 38] (by decide +kernel) (by decide +kernel)
set_option maxRecDepth 20000 in
theorem gX12_print_X12_isTown : GoodIn wsX12_print (wsV RX12 156 RX12 yX12_isTown wsX12_isTown) := goodIn_app (goodIn_of _ (by decide +kernel)) ggX12_print_X12_isTown
set_option maxRecDepth 20000 in
theorem ggX12_print_X12_in : GoodIn wsX12_print wsX12_in := goodIn_r _ [11] (by decide +kernel) (by decide +kernel)
set_option maxRecDepth 20000 in
theorem gX12_print_X12_in : GoodIn wsX12_print (va_wsS RX12 50 yX12_in wsX12_in) := goodIn_app (goodIn_of _ (by decide +kernel)) ggX12_print_X12_in
set_option maxRecDepth 20000 in
theorem ggX12_print_X12_has : GoodIn wsX12_print wsX12_has := goodIn_r _ [14] (by decide +kernel) (by decide +kernel)
set_option maxRecDepth 20000 in
theorem gX12_print_X12_has : GoodIn wsX12_print (va_wsS RX12 132 yX12_has wsX12_has) := goodIn_app (goodIn_of _ (by decide +kernel)) ggX12_print_X12_has
set_option maxRecDepth 20000 in
theorem ggX12_print_X12_ones : GoodIn wsX12_print wsX12_ones := goodIn_r _ [17] (by decide +kernel) (by decide +kernel)
set_option maxRecDepth 20000 in
theorem gX12_print_X12_ones : GoodIn wsX12_print (va_wsS RX12 139 yX12_ones wsX12_ones) := goodIn_app (goodIn_of _ (by decide +kernel)) ggX12_print_X12_ones
theorem dX12_print_0 : decode cX12_print 0 = .ok (.aload_n 0, 1) := by decide +kernel
theorem dX12_print_1 : decode cX12_print 1 = .ok (.invokevirtual 156, 3) := by decide +kernel
theorem dX12_print_4 : decode cX12_print 4 = .ok (.ifCond .ne 6, 3) := by decide +kernel
theorem dX12_print_7 : decode cX12_print 7 = .ok (.ldc 159, 2) := by decide +kernel
theorem dX12_print_9 : decode cX12_print 9 = .ok (.ireturn, 1) := by decide +kernel
theorem dX12_print_10 : decode cX12_print 10 = .ok (.iload_n 1, 1) := by decide +kernel
theorem dX12_print_11 : decode cX12_print 11 = .ok (.iconst 0, 1) := by decide +kernel
theorem dX12_print_12 : decode cX12_print 12 = .ok (.iconst 1, 1) := by decide +kernel
theorem dX12_print_13 : decode cX12_print 13 = .ok (.invokestatic 50, 3) := by decide +kernel
theorem dX12_print_16 : decode cX12_print 16 = .ok (.ifCond .ne 6, 3) := by decide +kernel
theorem dX12_print_19 : decode cX12_print 19 = .ok (.ldc 58, 2) := by decide +kernel
theorem dX12_print_21 : decode cX12_print 21 = .ok (.ireturn, 1) := by decide +kernel
theorem dX12_print_22 : decode cX12_print 22 = .ok (.iconst 0, 1) := by decide +kernel
theorem dX12_print_23 : decode cX12_print 23 = .ok (.istore_n 2, 1) := by decide +kernel
theorem dX12_print_24 : decode cX12_print 24 = .ok (.iconst 0, 1) := by decide +kernel
theorem dX12_print_25 : decode cX12_print 25 = .ok (.istore_n 3, 1) := by decide +kernel
theorem dX12_print_26 : decode cX12_print 26 = .ok (.iconst 1, 1) := by decide +kernel
theorem dX12_print_27 : decode cX12_print 27 = .ok (.istore 4, 2) := by decide +kernel
theorem dX12_print_29 : decode cX12_print 29 = .ok (.iload 4, 2) := by decide +kernel
theorem dX12_print_31 : decode cX12_print 31 = .ok (.iconst 1, 1) := by decide +kernel
theorem dX12_print_32 : decode cX12_print 32 = .ok (.aload_n 0, 1) := by decide +kernel
theorem dX12_print_33 : decode cX12_print 33 = .ok (.getfield 25, 3) := by decide +kernel
theorem dX12_print_36 : decode cX12_print 36 = .ok (.iconst 3, 1) := by decide +kernel
theorem dX12_print_37 : decode cX12_print 37 = .ok (.iaload, 1) := by decide +kernel
theorem dX12_print_38 : decode cX12_print 38 = .ok (.ishl, 1) := by decide +kernel
theorem dX12_print_39 : decode cX12_print 39 = .ok (.if_icmp .ge 181, 3) := by decide +kernel
theorem dX12_print_42 : decode cX12_print 42 = .ok (.iconst 0, 1) := by decide +kernel
theorem dX12_print_43 : decode cX12_print 43 = .ok (.istore 5, 2) := by decide +kernel
theorem dX12_print_45 : decode cX12_print 45 = .ok (.iconst 0, 1) := by decide +kernel
theorem dX12_print_46 : decode cX12_print 46 = .ok (.istore 6, 2) := by decide +kernel
theorem dX12_print_48 : decode cX12_print 48 = .ok (.iconst 0, 1) := by decide +kernel
theorem dX12_print_49 : decode cX12_print 49 = .ok (.istore 7, 2) := by decide +kernel
theorem dX12_print_51 : decode cX12_print 51 = .ok (.iload 7, 2) := by decide +kernel
theorem dX12_print_53 : decode cX12_print 53 = .ok (.aload_n 0, 1) := by decide +kernel
theorem dX12_print_54 : decode cX12_print 54 = .ok (.getfield 25, 3) := by decide +kernel
theorem dX12_print_57 : decode cX12_print 57 = .ok (.iconst 3, 1) := by decide +kernel
theorem dX12_print_58 : decode cX12_print 58 = .ok (.iaload, 1) := by decide +kernel
theorem dX12_print_59 : decode cX12_print 59 = .ok (.if_icmp .ge 89, 3) := by decide +kernel
theorem dX12_print_62 : decode cX12_print 62 = .ok (.iconst 4, 1) := by decide +kernel
theorem dX12_print_63 : decode cX12_print 63 = .ok (.iconst 4, 1) := by decide +kernel
theorem dX12_print_64 : decode cX12_print 64 = .ok (.iload 7, 2) := by decide +kernel
theorem dX12_print_66 : decode cX12_print 66 = .ok (.imul, 1) := by decide +kernel
theorem dX12_print_67 : decode cX12_print 67 = .ok (.iadd, 1) := by decide +kernel
theorem dX12_print_68 : decode cX12_print 68 = .ok (.istore 8, 2) := by decide +kernel
theorem dX12_print_70 : decode cX12_print 70 = .ok (.iload 5, 2) := by decide +kernel
theorem dX12_print_72 : decode cX12_print 72 = .ok (.iload 4, 2) := by decide +kernel
theorem dX12_print_74 : decode cX12_print 74 = .ok (.iload 7, 2) := by decide +kernel
theorem dX12_print_76 : decode cX12_print 76 = .ok (.invokestatic 132, 3) := by decide +kernel
theorem dX12_print_79 : decode cX12_print 79 = .ok (.ifCond .eq 18, 3) := by decide +kernel
theorem dX12_print_82 : decode cX12_print 82 = .ok (.aload_n 0, 1) := by decide +kernel
theorem dX12_print_83 : decode cX12_print 83 = .ok (.getfield 25, 3) := by decide +kernel
theorem dX12_print_86 : decode cX12_print 86 = .ok (.iload 8, 2) := by decide +kernel
theorem dX12_print_88 : decode cX12_print 88 = .ok (.iconst 2, 1) := by decide +kernel
theorem dX12_print_89 : decode cX12_print 89 = .ok (.iadd, 1) := by decide +kernel
theorem dX12_print_90 : decode cX12_print 90 = .ok (.iaload, 1) := by decide +kernel
theorem dX12_print_91 : decode cX12_print 91 = .ok (.invokestatic 139, 3) := by decide +kernel
theorem dX12_print_94 : decode cX12_print 94 = .ok (.goto 4, 3) := by decide +kernel
theorem dX12_print_97 : decode cX12_print 97 = .ok (.iconst 0, 1) := by decide +kernel
theorem dX12_print_98 : decode cX12_print 98 = .ok (.iadd, 1) := by decide +kernel
theorem dX12_print_99 : decode cX12_print 99 = .ok (.istore 5, 2) := by decide +kernel
theorem dX12_print_101 : decode cX12_print 101 = .ok (.iload 6, 2) := by decide +kernel
theorem dX12_print_103 : decode cX12_print 103 = .ok (.iload 4, 2) := by decide +kernel
theorem dX12_print_105 : decode cX12_print 105 = .ok (.iload 7, 2) := by decide +kernel
theorem dX12_print_107 : decode cX12_print 107 = .ok (.invokestatic 132, 3) := by decide +kernel
theorem dX12_print_110 : decode cX12_print 110 = .ok (.ifCond .eq 28, 3) := by decide +kernel
theorem dX12_print_113 : decode cX12_print 113 = .ok (.aload_n 0, 1) := by decide +kernel
theorem dX12_print_114 : decode cX12_print 114 = .ok (.getfield 25, 3) := by decide +kernel
theorem dX12_print_117 : decode cX12_print 117 = .ok (.iload 8, 2) := by decide +kernel
theorem dX12_print_119 : decode cX12_print 119 = .ok (.iconst 2, 1) := by decide +kernel
theorem dX12_print_120 : decode cX12_print 120 = .ok (.iadd, 1) := by decide +kernel
theorem dX12_print_121 : decode cX12_print 121 = .ok (.iaload, 1) := by decide +kernel
theorem dX12_print_122 : decode cX12_print 122 = .ok (.aload_n 0, 1) := by decide +kernel
theorem dX12_print_123 : decode cX12_print 123 = .ok (.getfield 25, 3) := by decide +kernel
theorem dX12_print_126 : decode cX12_print 126 = .ok (.iload 8, 2) := by decide +kernel
theorem dX12_print_128 : decode cX12_print 128 = .ok (.iconst 1, 1) := by decide +kernel
theorem dX12_print_129 : decode cX12_print 129 = .ok (.iadd, 1) := by decide +kernel
theorem dX12_print_130 : decode cX12_print 130 = .ok (.iaload, 1) := by decide +kernel
theorem dX12_print_131 : decode cX12_print 131 = .ok (.iand, 1) := by decide +kernel
theorem dX12_print_132 : decode cX12_print 132 = .ok (.invokestatic 139, 3) := by decide +kernel
theorem dX12_print_135 : decode cX12_print 135 = .ok (.goto 4, 3) := by decide +kernel
theorem dX12_print_138 : decode cX12_print 138 = .ok (.iconst 0, 1) := by decide +kernel
theorem dX12_print_139 : decode cX12_print 139 = .ok (.iadd, 1) := by decide +kernel
theorem dX12_print_140 : decode cX12_print 140 = .ok (.istore 6, 2) := by decide +kernel
theorem dX12_print_142 : decode cX12_print 142 = .ok (.iinc 7 1, 3) := by decide +kernel
theorem dX12_print_145 : decode cX12_print 145 = .ok (.goto (-94), 3) := by decide +kernel
theorem dX12_print_148 : decode cX12_print 148 = .ok (.iload 5, 2) := by decide +kernel
theorem dX12_print_150 : decode cX12_print 150 = .ok (.aload_n 0, 1) := by decide +kernel
theorem dX12_print_151 : decode cX12_print 151 = .ok (.getfield 25, 3) := by decide +kernel
theorem dX12_print_154 : decode cX12_print 154 = .ok (.iconst 1, 1) := by decide +kernel
theorem dX12_print_155 : decode cX12_print 155 = .ok (.iaload, 1) := by decide +kernel
theorem dX12_print_156 : decode cX12_print 156 = .ok (.if_icmp .gt 31, 3) := by decide +kernel
theorem dX12_print_159 : decode cX12_print 159 = .ok (.iload 6, 2) := by decide +kernel
theorem dX12_print_161 : decode cX12_print 161 = .ok (.iload_n 3, 1) := by decide +kernel
theorem dX12_print_162 : decode cX12_print 162 = .ok (.if_icmp .gt 21, 3) := by decide +kernel
theorem dX12_print_165 : decode cX12_print 165 = .ok (.iload 6, 2) := by decide +kernel
theorem dX12_print_167 : decode cX12_print 167 = .ok (.iload_n 3, 1) := by decide +kernel
theorem dX12_print_168 : decode cX12_print 168 = .ok (.if_icmp .ne 19, 3) := by decide +kernel
theorem dX12_print_171 : decode cX12_print 171 = .ok (.iload 4, 2) := by decide +kernel
theorem dX12_print_173 : decode cX12_print 173 = .ok (.invokestatic 139, 3) := by decide +kernel
theorem dX12_print_176 : decode cX12_print 176 = .ok (.iload_n 2, 1) := by decide +kernel
theorem dX12_print_177 : decode cX12_print 177 = .ok (.invokestatic 139, 3) := by decide +kernel
theorem dX12_print_180 : decode cX12_print 180 = .ok (.if_icmp .ge 7, 3) := by decide +kernel
theorem dX12_print_183 : decode cX12_print 183 = .ok (.iconst 1, 1) := by decide +kernel
theorem dX12_print_184 : decode cX12_print 184 = .ok (.goto 4, 3) := by decide +kernel
theorem dX12_print_187 : decode cX12_print 187 = .ok (.iconst 0, 1) := by decide +kernel
theorem dX12_print_188 : decode cX12_print 188 = .ok (.istore 7, 2) := by decide +kernel
theorem dX12_print_190 : decode cX12_print 190 = .ok (.iload 7, 2) := by decide +kernel
theorem dX12_print_192 : decode cX12_print 192 = .ok (.ifCond .eq 8, 3) := by decide +kernel
theorem dX12_print_195 : decode cX12_print 195 = .ok (.iload 4, 2) := by decide +kernel
theorem dX12_print_197 : decode cX12_print 197 = .ok (.goto 4, 3) := by decide +kernel
theorem dX12_print_200 : decode cX12_print 200 = .ok (.iload_n 2, 1) := by decide +kernel
theorem dX12_print_201 : decode cX12_print 201 = .ok (.istore_n 2, 1) := by decide +kernel
theorem dX12_print_202 : decode cX12_print 202 = .ok (.iload 7, 2) := by decide +kernel
theorem dX12_print_204 : decode cX12_print 204 = .ok (.ifCond .eq 8, 3) := by decide +kernel
theorem dX12_print_207 : decode cX12_print 207 = .ok (.iload 6, 2) := by decide +kernel
theorem dX12_print_209 : decode cX12_print 209 = .ok (.goto 4, 3) := by decide +kernel
theorem dX12_print_212 : decode cX12_print 212 = .ok (.iload_n 3, 1) := by decide +kernel
theorem dX12_print_213 : decode cX12_print 213 = .ok (.istore_n 3, 1) := by decide +kernel
theorem dX12_print_214 : decode cX12_print 214 = .ok (.iinc 4 1, 3) := by decide +kernel
theorem dX12_print_217 : decode cX12_print 217 = .ok (.goto (-188), 3) := by decide +kernel
theorem dX12_print_220 : decode cX12_print 220 = .ok (.iload_n 1, 1) := by decide +kernel
theorem dX12_print_221 : decode cX12_print 221 = .ok (.ifCond .ne 7, 3) := by decide +kernel
theorem dX12_print_224 : decode cX12_print 224 = .ok (.iload_n 3, 1) := by decide +kernel
theorem dX12_print_225 : decode cX12_print 225 = .ok (.goto 4, 3) := by decide +kernel
theorem dX12_print_228 : decode cX12_print 228 = .ok (.iload_n 2, 1) := by decide +kernel
theorem dX12_print_229 : decode cX12_print 229 = .ok (.ireturn, 1) := by decide +kernel
set_option maxRecDepth 20000 in
theorem ggX12_goesSo_X12_doneIn : GoodIn wsX12_goesSo wsX12_doneIn := goodIn_r _ [7, 1, 8, 9, 6, 10, 11, 12, 13, 14, 15, 16, 17, 18, 19, 20, 21, 22, 23, 24, 25, 26, 27, 28, 29, 30, 31, 32, 33, 34, 35, 36, 37, 38, 39, 40] (by decide +kernel) (by decide +kernel)
set_option maxRecDepth 20000 in
theorem gX12_goesSo_X12_doneIn : GoodIn wsX12_goesSo (wsV RX12 146 RX12 yX12_doneIn wsX12_doneIn) := goodIn_app (goodIn_of _ (by decide +kernel)) ggX12_goesSo_X12_doneIn
theorem dX12_goesSo_0 : decode cX12_goesSo 0 = .ok (.iconst 1, 1) := by decide +kernel
theorem dX12_goesSo_1 : decode cX12_goesSo 1 = .ok (.istore 6, 2) := by decide +kernel
theorem dX12_goesSo_3 : decode cX12_goesSo 3 = .ok (.iconst 1, 1) := by decide +kernel
theorem dX12_goesSo_4 : decode cX12_goesSo 4 = .ok (.istore 7, 2) := by decide +kernel
theorem dX12_goesSo_6 : decode cX12_goesSo 6 = .ok (.iload 7, 2) := by decide +kernel
theorem dX12_goesSo_8 : decode cX12_goesSo 8 = .ok (.iload 5, 2) := by decide +kernel
theorem dX12_goesSo_10 : decode cX12_goesSo 10 = .ok (.if_icmp .gt 57, 3) := by decide +kernel
theorem dX12_goesSo_13 : decode cX12_goesSo 13 = .ok (.iload 6, 2) := by decide +kernel
theorem dX12_goesSo_15 : decode cX12_goesSo 15 = .ok (.ifCond .eq 52, 3) := by decide +kernel
theorem dX12_goesSo_18 : decode cX12_goesSo 18 = .ok (.aload_n 0, 1) := by decide +kernel
theorem dX12_goesSo_19 : decode cX12_goesSo 19 = .ok (.iload_n 1, 1) := by decide +kernel
theorem dX12_goesSo_20 : decode cX12_goesSo 20 = .ok (.iload_n 2, 1) := by decide +kernel
theorem dX12_goesSo_21 : decode cX12_goesSo 21 = .ok (.aload_n 0, 1) := by decide +kernel
theorem dX12_goesSo_22 : decode cX12_goesSo 22 = .ok (.getfield 25, 3) := by decide +kernel
theorem dX12_goesSo_25 : decode cX12_goesSo 25 = .ok (.iconst 4, 1) := by decide +kernel
theorem dX12_goesSo_26 : decode cX12_goesSo 26 = .ok (.iconst 4, 1) := by decide +kernel
theorem dX12_goesSo_27 : decode cX12_goesSo 27 = .ok (.iload_n 1, 1) := by decide +kernel
theorem dX12_goesSo_28 : decode cX12_goesSo 28 = .ok (.imul, 1) := by decide +kernel
theorem dX12_goesSo_29 : decode cX12_goesSo 29 = .ok (.iadd, 1) := by decide +kernel
theorem dX12_goesSo_30 : decode cX12_goesSo 30 = .ok (.iconst 1, 1) := by decide +kernel
theorem dX12_goesSo_31 : decode cX12_goesSo 31 = .ok (.iadd, 1) := by decide +kernel
theorem dX12_goesSo_32 : decode cX12_goesSo 32 = .ok (.iaload, 1) := by decide +kernel
theorem dX12_goesSo_33 : decode cX12_goesSo 33 = .ok (.iload_n 3, 1) := by decide +kernel
theorem dX12_goesSo_34 : decode cX12_goesSo 34 = .ok (.iload 7, 2) := by decide +kernel
theorem dX12_goesSo_36 : decode cX12_goesSo 36 = .ok (.invokevirtual 146, 3) := by decide +kernel
theorem dX12_goesSo_39 : decode cX12_goesSo 39 = .ok (.aload_n 0, 1) := by decide +kernel
theorem dX12_goesSo_40 : decode cX12_goesSo 40 = .ok (.getfield 16, 3) := by decide +kernel
theorem dX12_goesSo_43 : decode cX12_goesSo 43 = .ok (.iload 4, 2) := by decide +kernel
theorem dX12_goesSo_45 : decode cX12_goesSo 45 = .ok (.iload 7, 2) := by decide +kernel
theorem dX12_goesSo_47 : decode cX12_goesSo 47 = .ok (.iadd, 1) := by decide +kernel
theorem dX12_goesSo_48 : decode cX12_goesSo 48 = .ok (.iconst 1, 1) := by decide +kernel
theorem dX12_goesSo_49 : decode cX12_goesSo 49 = .ok (.isub, 1) := by decide +kernel
theorem dX12_goesSo_50 : decode cX12_goesSo 50 = .ok (.iaload, 1) := by decide +kernel
theorem dX12_goesSo_51 : decode cX12_goesSo 51 = .ok (.if_icmp .ne 7, 3) := by decide +kernel
theorem dX12_goesSo_54 : decode cX12_goesSo 54 = .ok (.iconst 1, 1) := by decide +kernel
theorem dX12_goesSo_55 : decode cX12_goesSo 55 = .ok (.goto 4, 3) := by decide +kernel
theorem dX12_goesSo_58 : decode cX12_goesSo 58 = .ok (.iconst 0, 1) := by decide +kernel
theorem dX12_goesSo_59 : decode cX12_goesSo 59 = .ok (.istore 6, 2) := by decide +kernel
theorem dX12_goesSo_61 : decode cX12_goesSo 61 = .ok (.iinc 7 1, 3) := by decide +kernel
theorem dX12_goesSo_64 : decode cX12_goesSo 64 = .ok (.goto (-58), 3) := by decide +kernel
theorem dX12_goesSo_67 : decode cX12_goesSo 67 = .ok (.iload 6, 2) := by decide +kernel
theorem dX12_goesSo_69 : decode cX12_goesSo 69 = .ok (.ireturn, 1) := by decide +kernel
set_option maxRecDepth 20000 in
theorem ggX12_temper_X12_isReader : GoodIn wsX12_temper wsX12_isReader := goodIn_r _ [7, 2, 8, 9, 6, 10, 56, 57, 58, 59, 60, 61, 62, 63, 64, 65, 66, 67, 68, 69, 70, 71, 72, 73, 74, 75, 76] (by decide +kernel) (by decide +kernel)
set_option maxRecDepth 20000 in
theorem gX12_temper_X12_isReader : GoodIn wsX12_temper (wsV RX12 167 RX12 yX12_isReader wsX12_isReader) := goodIn_app (goodIn_of _ (by decide +kernel)) ggX12_temper_X12_isReader
set_option maxRecDepth 20000 in
theorem ggX12_temper_X12_isRow : GoodIn wsX12_temper wsX12_isRow := goodIn_r _ [13, 8, 9, 6, 10] (by decide +kernel) (by decide +kernel)
set_option maxRecDepth 20000 in
theorem gX12_temper_X12_isRow : GoodIn wsX12_temper (va_wsS RX12 54 yX12_isRow wsX12_isRow) := goodIn_app (goodIn_of _ (by decide +kernel)) ggX12_temper_X12_isRow
set_option maxRecDepth 20000 in
theorem ggX12_temper_X12_in : GoodIn wsX12_temper wsX12_in := goodIn_r _ [10] (by decide +kernel) (by decide +kernel)
set_option maxRecDepth 20000 in
theorem gX12_temper_X12_in : GoodIn wsX12_temper (va_wsS RX12 50 yX12_in wsX12_in) := goodIn_app (goodIn_of _ (by decide +kernel)) ggX12_temper_X12_in
set_option maxRecDepth 20000 in
theorem ggX12_temper_X12_isMissing : GoodIn wsX12_temper wsX12_isMissing := goodIn_r _ [17, 18, 19, 56, 57, 58, 59, 60, 61, 62, 63, 64, 65, 66, 67, 68, 69, 70, 71, 72, 73, 74, 75, 76] (by decide +kernel) (by decide +kernel)
set_option maxRecDepth 20000 in
theorem gX12_temper_X12_isMissing : GoodIn wsX12_temper (wsV RX12 66 RX12 yX12_isMissing wsX12_isMissing) := goodIn_app (goodIn_of _ (by decide +kernel)) ggX12_temper_X12_isMissing
set_option maxRecDepth 20000 in
theorem ggX12_temper_X12_found : GoodIn wsX12_temper wsX12_found := goodIn_r _ [23, 24, 25, 56, 57, 58, 59, 60, 61, 62, 63, 64, 65, 66, 67, 68, 69, 70, 71, 72, 73, 74, 75, 76] (by decide +kernel) (by decide +kernel)
set_option maxRecDepth 20000 in
theorem gX12_temper_X12_found : GoodIn wsX12_temper (wsV RX12 59 RX12 yX12_found wsX12_found) := goodIn_app (goodIn_of _ (by decide +kernel)) ggX12_temper_X12_found
set_option maxRecDepth 20000 in
theorem ggX12_temper_X12_isPart : GoodIn wsX12_temper wsX12_isPart := goodIn_r _ [29, 30, 56, 57, 58, 59, 60, 61, 62, 63, 64, 65, 66, 67, 68, 69, 70, 71, 72, 73, 74, 75, 76] (by decide +kernel) (by decide +kernel)
set_option maxRecDepth 20000 in
theorem gX12_temper_X12_isPart : GoodIn wsX12_temper (wsV RX12 73 RX12 yX12_isPart wsX12_isPart) := goodIn_app (goodIn_of _ (by decide +kernel)) ggX12_temper_X12_isPart
set_option maxRecDepth 20000 in
theorem ggX12_temper_X12_goesSo : GoodIn wsX12_temper wsX12_goesSo := goodIn_r _ [34, 2, 35, 36, 37, 38, 6, 39, 40, 41, 42, 43, 44, 45, 46, 47, 48, 49, 50, 51, 56, 57, 58, 59, 60, 61, 62, 63, 64, 65, 66, 67, 68, 69, 70, 71, 72, 73, 74, 75, 76] (by decide +kernel) (by decide +kernel)
set_option maxRecDepth 20000 in
theorem gX12_temper_X12_goesSo : GoodIn wsX12_temper (wsV RX12 176 RX12 yX12_goesSo wsX12_goesSo) := goodIn_app (goodIn_of _ (by decide +kernel)) ggX12_temper_X12_goesSo
set_option maxRecDepth 20000 in
theorem ggX12_temper_X12_well : GoodIn wsX12_temper wsX12_well := goodIn_r _ [55, 24, 56, 57, 58, 59, 60, 61, 62, 63, 64, 65, 66, 67, 68, 69, 70, 71, 72, 73, 74, 75, 76] (by decide +kernel) (by decide +kernel)
set_option maxRecDepth 20000 in
theorem gX12_temper_X12_well : GoodIn wsX12_temper (wsV RX12 63 RX12 yX12_well wsX12_well) := goodIn_app (goodIn_of _ (by decide +kernel)) ggX12_temper_X12_well
theorem dX12_temper_0 : decode cX12_temper 0 = .ok (.aload_n 0, 1) := by decide +kernel
theorem dX12_temper_1 : decode cX12_temper 1 = .ok (.iload_n 1, 1) := by decide +kernel
theorem dX12_temper_2 : decode cX12_temper 2 = .ok (.invokevirtual 167, 3) := by decide +kernel
theorem dX12_temper_5 : decode cX12_temper 5 = .ok (.ifCond .eq 21, 3) := by decide +kernel
theorem dX12_temper_8 : decode cX12_temper 8 = .ok (.iload_n 2, 1) := by decide +kernel
theorem dX12_temper_9 : decode cX12_temper 9 = .ok (.invokestatic 54, 3) := by decide +kernel
theorem dX12_temper_12 : decode cX12_temper 12 = .ok (.ifCond .eq 14, 3) := by decide +kernel
theorem dX12_temper_15 : decode cX12_temper 15 = .ok (.iload 4, 2) := by decide +kernel
theorem dX12_temper_17 : decode cX12_temper 17 = .ok (.iconst 1, 1) := by decide +kernel
theorem dX12_temper_18 : decode cX12_temper 18 = .ok (.bipush 16, 2) := by decide +kernel
theorem dX12_temper_20 : decode cX12_temper 20 = .ok (.invokestatic 50, 3) := by decide +kernel
theorem dX12_temper_23 : decode cX12_temper 23 = .ok (.ifCond .ne 6, 3) := by decide +kernel
theorem dX12_temper_26 : decode cX12_temper 26 = .ok (.ldc 58, 2) := by decide +kernel
theorem dX12_temper_28 : decode cX12_temper 28 = .ok (.ireturn, 1) := by decide +kernel
theorem dX12_temper_29 : decode cX12_temper 29 = .ok (.aload_n 0, 1) := by decide +kernel
theorem dX12_temper_30 : decode cX12_temper 30 = .ok (.iload_n 2, 1) := by decide +kernel
theorem dX12_temper_31 : decode cX12_temper 31 = .ok (.invokevirtual 66, 3) := by decide +kernel
theorem dX12_temper_34 : decode cX12_temper 34 = .ok (.ifCond .eq 9, 3) := by decide +kernel
theorem dX12_temper_37 : decode cX12_temper 37 = .ok (.aload_n 0, 1) := by decide +kernel
theorem dX12_temper_38 : decode cX12_temper 38 = .ok (.iconst 1, 1) := by decide +kernel
theorem dX12_temper_39 : decode cX12_temper 39 = .ok (.invokevirtual 59, 3) := by decide +kernel
theorem dX12_temper_42 : decode cX12_temper 42 = .ok (.ireturn, 1) := by decide +kernel
theorem dX12_temper_43 : decode cX12_temper 43 = .ok (.aload_n 0, 1) := by decide +kernel
theorem dX12_temper_44 : decode cX12_temper 44 = .ok (.iload_n 2, 1) := by decide +kernel
theorem dX12_temper_45 : decode cX12_temper 45 = .ok (.iload_n 3, 1) := by decide +kernel
theorem dX12_temper_46 : decode cX12_temper 46 = .ok (.iload 4, 2) := by decide +kernel
theorem dX12_temper_48 : decode cX12_temper 48 = .ok (.invokevirtual 73, 3) := by decide +kernel
theorem dX12_temper_51 : decode cX12_temper 51 = .ok (.ifCond .ne 9, 3) := by decide +kernel
theorem dX12_temper_54 : decode cX12_temper 54 = .ok (.aload_n 0, 1) := by decide +kernel
theorem dX12_temper_55 : decode cX12_temper 55 = .ok (.iconst 2, 1) := by decide +kernel
theorem dX12_temper_56 : decode cX12_temper 56 = .ok (.invokevirtual 59, 3) := by decide +kernel
theorem dX12_temper_59 : decode cX12_temper 59 = .ok (.ireturn, 1) := by decide +kernel
theorem dX12_temper_60 : decode cX12_temper 60 = .ok (.iconst 0, 1) := by decide +kernel
theorem dX12_temper_61 : decode cX12_temper 61 = .ok (.istore 5, 2) := by decide +kernel
theorem dX12_temper_63 : decode cX12_temper 63 = .ok (.iconst 1, 1) := by decide +kernel
theorem dX12_temper_64 : decode cX12_temper 64 = .ok (.istore 6, 2) := by decide +kernel
theorem dX12_temper_66 : decode cX12_temper 66 = .ok (.iload 6, 2) := by decide +kernel
theorem dX12_temper_68 : decode cX12_temper 68 = .ok (.bipush 6, 2) := by decide +kernel
theorem dX12_temper_70 : decode cX12_temper 70 = .ok (.if_icmp .ge 52, 3) := by decide +kernel
theorem dX12_temper_73 : decode cX12_temper 73 = .ok (.iload 5, 2) := by decide +kernel
theorem dX12_temper_75 : decode cX12_temper 75 = .ok (.aload_n 0, 1) := by decide +kernel
theorem dX12_temper_76 : decode cX12_temper 76 = .ok (.iload_n 1, 1) := by decide +kernel
theorem dX12_temper_77 : decode cX12_temper 77 = .ok (.iload 6, 2) := by decide +kernel
theorem dX12_temper_79 : decode cX12_temper 79 = .ok (.aload_n 0, 1) := by decide +kernel
theorem dX12_temper_80 : decode cX12_temper 80 = .ok (.getfield 25, 3) := by decide +kernel
theorem dX12_temper_83 : decode cX12_temper 83 = .ok (.iconst 4, 1) := by decide +kernel
theorem dX12_temper_84 : decode cX12_temper 84 = .ok (.iconst 4, 1) := by decide +kernel
theorem dX12_temper_85 : decode cX12_temper 85 = .ok (.iload_n 1, 1) := by decide +kernel
theorem dX12_temper_86 : decode cX12_temper 86 = .ok (.imul, 1) := by decide +kernel
theorem dX12_temper_87 : decode cX12_temper 87 = .ok (.iadd, 1) := by decide +kernel
theorem dX12_temper_88 : decode cX12_temper 88 = .ok (.iconst 2, 1) := by decide +kernel
theorem dX12_temper_89 : decode cX12_temper 89 = .ok (.iadd, 1) := by decide +kernel
theorem dX12_temper_90 : decode cX12_temper 90 = .ok (.iaload, 1) := by decide +kernel
theorem dX12_temper_91 : decode cX12_temper 91 = .ok (.bipush 40, 2) := by decide +kernel
theorem dX12_temper_93 : decode cX12_temper 93 = .ok (.iload_n 2, 1) := by decide +kernel
theorem dX12_temper_94 : decode cX12_temper 94 = .ok (.imul, 1) := by decide +kernel
theorem dX12_temper_95 : decode cX12_temper 95 = .ok (.iload_n 3, 1) := by decide +kernel
theorem dX12_temper_96 : decode cX12_temper 96 = .ok (.iadd, 1) := by decide +kernel
theorem dX12_temper_97 : decode cX12_temper 97 = .ok (.iload 4, 2) := by decide +kernel
theorem dX12_temper_99 : decode cX12_temper 99 = .ok (.invokevirtual 176, 3) := by decide +kernel
theorem dX12_temper_102 : decode cX12_temper 102 = .ok (.ifCond .eq 10, 3) := by decide +kernel
theorem dX12_temper_105 : decode cX12_temper 105 = .ok (.iconst 1, 1) := by decide +kernel
theorem dX12_temper_106 : decode cX12_temper 106 = .ok (.iload 6, 2) := by decide +kernel
theorem dX12_temper_108 : decode cX12_temper 108 = .ok (.ishl, 1) := by decide +kernel
theorem dX12_temper_109 : decode cX12_temper 109 = .ok (.goto 4, 3) := by decide +kernel
theorem dX12_temper_112 : decode cX12_temper 112 = .ok (.iconst 0, 1) := by decide +kernel
theorem dX12_temper_113 : decode cX12_temper 113 = .ok (.ior, 1) := by decide +kernel
theorem dX12_temper_114 : decode cX12_temper 114 = .ok (.istore 5, 2) := by decide +kernel
theorem dX12_temper_116 : decode cX12_temper 116 = .ok (.iinc 6 1, 3) := by decide +kernel
theorem dX12_temper_119 : decode cX12_temper 119 = .ok (.goto (-53), 3) := by decide +kernel
theorem dX12_temper_122 : decode cX12_temper 122 = .ok (.aload_n 0, 1) := by decide +kernel
theorem dX12_temper_123 : decode cX12_temper 123 = .ok (.iload 5, 2) := by decide +kernel
theorem dX12_temper_125 : decode cX12_temper 125 = .ok (.invokevirtual 63, 3) := by decide +kernel
theorem dX12_temper_128 : decode cX12_temper 128 = .ok (.ireturn, 1) := by decide +kernel
set_option maxRecDepth 20000 in
theorem ggX12_told_X12_isReader : GoodIn wsX12_told wsX12_isReader := goodIn_r _ [8, 3, 9, 10, 7, 11, 56, 57, 58, 59, 60, 61, 62, 63, 64, 65, 66, 67, 68, 69, 70, 71, 72, 73, 74, 75, 76] (by decide +kernel) (by decide +kernel)
set_option maxRecDepth 20000 in
theorem gX12_told_X12_isReader : GoodIn wsX12_told (wsV RX12 167 RX12 yX12_isReader wsX12_isReader) := goodIn_app (goodIn_of _ (by decide +kernel)) ggX12_told_X12_isReader
set_option maxRecDepth 20000 in
theorem ggX12_told_X12_isRow : GoodIn wsX12_told wsX12_isRow := goodIn_r _ [14, 9, 10, 7, 11] (by decide +kernel) (by decide +kernel)
set_option maxRecDepth 20000 in
theorem gX12_told_X12_isRow : GoodIn wsX12_told (va_wsS RX12 54 yX12_isRow wsX12_isRow) := goodIn_app (goodIn_of _ (by decide +kernel)) ggX12_told_X12_isRow
set_option maxRecDepth 20000 in
theorem ggX12_told_X12_in : GoodIn wsX12_told wsX12_in := goodIn_r _ [11] (by decide +kernel) (by decide +kernel)
set_option maxRecDepth 20000 in
theorem gX12_told_X12_in : GoodIn wsX12_told (va_wsS RX12 50 yX12_in wsX12_in) := goodIn_app (goodIn_of _ (by decide +kernel)) ggX12_told_X12_in
set_option maxRecDepth 20000 in
theorem ggX12_told_X12_isMissing : GoodIn wsX12_told wsX12_isMissing := goodIn_r _ [18, 19, 2, 56, 57, 58, 59, 60, 61, 62, 63, 64, 65, 66, 67, 68, 69, 70, 71, 72, 73, 74, 75, 76] (by decide +kernel) (by decide +kernel)
set_option maxRecDepth 20000 in
theorem gX12_told_X12_isMissing : GoodIn wsX12_told (wsV RX12 66 RX12 yX12_isMissing wsX12_isMissing) := goodIn_app (goodIn_of _ (by decide +kernel)) ggX12_told_X12_isMissing
set_option maxRecDepth 20000 in
theorem ggX12_told_X12_found : GoodIn wsX12_told wsX12_found := goodIn_r _ [23, 24, 25, 56, 57, 58, 59, 60, 61, 62, 63, 64, 65, 66, 67, 68, 69, 70, 71, 72, 73, 74, 75, 76] (by decide +kernel) (by decide +kernel)
set_option maxRecDepth 20000 in
theorem gX12_told_X12_found : GoodIn wsX12_told (wsV RX12 59 RX12 yX12_found wsX12_found) := goodIn_app (goodIn_of _ (by decide +kernel)) ggX12_told_X12_found
set_option maxRecDepth 20000 in
theorem ggX12_told_X12_isPart : GoodIn wsX12_told wsX12_isPart := goodIn_r _ [29, 30, 56, 57, 58, 59, 60, 61, 62, 63, 64, 65, 66, 67, 68, 69, 70, 71, 72, 73, 74, 75, 76] (by decide +kernel) (by decide +kernel)
set_option maxRecDepth 20000 in
theorem gX12_told_X12_isPart : GoodIn wsX12_told (wsV RX12 73 RX12 yX12_isPart wsX12_isPart) := goodIn_app (goodIn_of _ (by decide +kernel)) ggX12_told_X12_isPart
set_option maxRecDepth 20000 in
theorem ggX12_told_X12_goesSo : GoodIn wsX12_told wsX12_goesSo := goodIn_r _ [34, 3, 35, 36, 37, 38, 7, 39, 40, 41, 42, 43, 44, 45, 46, 47, 48, 49, 50, 51, 56, 57, 58, 59, 60, 61, 62, 63, 64, 65, 66, 67, 68, 69, 70, 71, 72, 73, 74, 75, 76] (by decide +kernel) (by decide +kernel)
set_option maxRecDepth 20000 in
theorem gX12_told_X12_goesSo : GoodIn wsX12_told (wsV RX12 176 RX12 yX12_goesSo wsX12_goesSo) := goodIn_app (goodIn_of _ (by decide +kernel)) ggX12_told_X12_goesSo
set_option maxRecDepth 20000 in
theorem ggX12_told_X12_well : GoodIn wsX12_told wsX12_well := goodIn_r _ [55, 24, 56, 57, 58, 59, 60, 61, 62, 63, 64, 65, 66, 67, 68, 69, 70, 71, 72, 73, 74, 75, 76] (by decide +kernel) (by decide +kernel)
set_option maxRecDepth 20000 in
theorem gX12_told_X12_well : GoodIn wsX12_told (wsV RX12 63 RX12 yX12_well wsX12_well) := goodIn_app (goodIn_of _ (by decide +kernel)) ggX12_told_X12_well
theorem dX12_told_0 : decode cX12_told 0 = .ok (.aload_n 0, 1) := by decide +kernel
theorem dX12_told_1 : decode cX12_told 1 = .ok (.iload_n 1, 1) := by decide +kernel
theorem dX12_told_2 : decode cX12_told 2 = .ok (.invokevirtual 167, 3) := by decide +kernel
theorem dX12_told_5 : decode cX12_told 5 = .ok (.ifCond .eq 31, 3) := by decide +kernel
theorem dX12_told_8 : decode cX12_told 8 = .ok (.iload_n 2, 1) := by decide +kernel
theorem dX12_told_9 : decode cX12_told 9 = .ok (.invokestatic 54, 3) := by decide +kernel
theorem dX12_told_12 : decode cX12_told 12 = .ok (.ifCond .eq 24, 3) := by decide +kernel
theorem dX12_told_15 : decode cX12_told 15 = .ok (.iload 4, 2) := by decide +kernel
theorem dX12_told_17 : decode cX12_told 17 = .ok (.iconst 1, 1) := by decide +kernel
theorem dX12_told_18 : decode cX12_told 18 = .ok (.bipush 16, 2) := by decide +kernel
theorem dX12_told_20 : decode cX12_told 20 = .ok (.invokestatic 50, 3) := by decide +kernel
theorem dX12_told_23 : decode cX12_told 23 = .ok (.ifCond .eq 13, 3) := by decide +kernel
theorem dX12_told_26 : decode cX12_told 26 = .ok (.iload 5, 2) := by decide +kernel
theorem dX12_told_28 : decode cX12_told 28 = .ok (.iconst 0, 1) := by decide +kernel
theorem dX12_told_29 : decode cX12_told 29 = .ok (.iconst 1, 1) := by decide +kernel
theorem dX12_told_30 : decode cX12_told 30 = .ok (.invokestatic 50, 3) := by decide +kernel
theorem dX12_told_33 : decode cX12_told 33 = .ok (.ifCond .ne 6, 3) := by decide +kernel
theorem dX12_told_36 : decode cX12_told 36 = .ok (.ldc 58, 2) := by decide +kernel
theorem dX12_told_38 : decode cX12_told 38 = .ok (.ireturn, 1) := by decide +kernel
theorem dX12_told_39 : decode cX12_told 39 = .ok (.aload_n 0, 1) := by decide +kernel
theorem dX12_told_40 : decode cX12_told 40 = .ok (.iload_n 2, 1) := by decide +kernel
theorem dX12_told_41 : decode cX12_told 41 = .ok (.invokevirtual 66, 3) := by decide +kernel
theorem dX12_told_44 : decode cX12_told 44 = .ok (.ifCond .eq 9, 3) := by decide +kernel
theorem dX12_told_47 : decode cX12_told 47 = .ok (.aload_n 0, 1) := by decide +kernel
theorem dX12_told_48 : decode cX12_told 48 = .ok (.iconst 1, 1) := by decide +kernel
theorem dX12_told_49 : decode cX12_told 49 = .ok (.invokevirtual 59, 3) := by decide +kernel
theorem dX12_told_52 : decode cX12_told 52 = .ok (.ireturn, 1) := by decide +kernel
theorem dX12_told_53 : decode cX12_told 53 = .ok (.aload_n 0, 1) := by decide +kernel
theorem dX12_told_54 : decode cX12_told 54 = .ok (.iload_n 2, 1) := by decide +kernel
theorem dX12_told_55 : decode cX12_told 55 = .ok (.iload_n 3, 1) := by decide +kernel
theorem dX12_told_56 : decode cX12_told 56 = .ok (.iload 4, 2) := by decide +kernel
theorem dX12_told_58 : decode cX12_told 58 = .ok (.invokevirtual 73, 3) := by decide +kernel
theorem dX12_told_61 : decode cX12_told 61 = .ok (.ifCond .ne 9, 3) := by decide +kernel
theorem dX12_told_64 : decode cX12_told 64 = .ok (.aload_n 0, 1) := by decide +kernel
theorem dX12_told_65 : decode cX12_told 65 = .ok (.iconst 2, 1) := by decide +kernel
theorem dX12_told_66 : decode cX12_told 66 = .ok (.invokevirtual 59, 3) := by decide +kernel
theorem dX12_told_69 : decode cX12_told 69 = .ok (.ireturn, 1) := by decide +kernel
theorem dX12_told_70 : decode cX12_told 70 = .ok (.iconst 0, 1) := by decide +kernel
theorem dX12_told_71 : decode cX12_told 71 = .ok (.istore 6, 2) := by decide +kernel
theorem dX12_told_73 : decode cX12_told 73 = .ok (.ldc 44, 2) := by decide +kernel
theorem dX12_told_75 : decode cX12_told 75 = .ok (.istore 7, 2) := by decide +kernel
theorem dX12_told_77 : decode cX12_told 77 = .ok (.iconst 0, 1) := by decide +kernel
theorem dX12_told_78 : decode cX12_told 78 = .ok (.istore 8, 2) := by decide +kernel
theorem dX12_told_80 : decode cX12_told 80 = .ok (.iload 8, 2) := by decide +kernel
theorem dX12_told_82 : decode cX12_told 82 = .ok (.bipush 64, 2) := by decide +kernel
theorem dX12_told_84 : decode cX12_told 84 = .ok (.if_icmp .ge 70, 3) := by decide +kernel
theorem dX12_told_87 : decode cX12_told 87 = .ok (.aload_n 0, 1) := by decide +kernel
theorem dX12_told_88 : decode cX12_told 88 = .ok (.iload_n 1, 1) := by decide +kernel
theorem dX12_told_89 : decode cX12_told 89 = .ok (.aload_n 0, 1) := by decide +kernel
theorem dX12_told_90 : decode cX12_told 90 = .ok (.getfield 25, 3) := by decide +kernel
theorem dX12_told_93 : decode cX12_told 93 = .ok (.iconst 4, 1) := by decide +kernel
theorem dX12_told_94 : decode cX12_told 94 = .ok (.iconst 4, 1) := by decide +kernel
theorem dX12_told_95 : decode cX12_told 95 = .ok (.iload_n 1, 1) := by decide +kernel
theorem dX12_told_96 : decode cX12_told 96 = .ok (.imul, 1) := by decide +kernel
theorem dX12_told_97 : decode cX12_told 97 = .ok (.iadd, 1) := by decide +kernel
theorem dX12_told_98 : decode cX12_told 98 = .ok (.iaload, 1) := by decide +kernel
theorem dX12_told_99 : decode cX12_told 99 = .ok (.iload 8, 2) := by decide +kernel
theorem dX12_told_101 : decode cX12_told 101 = .ok (.bipush 40, 2) := by decide +kernel
theorem dX12_told_103 : decode cX12_told 103 = .ok (.iload_n 2, 1) := by decide +kernel
theorem dX12_told_104 : decode cX12_told 104 = .ok (.imul, 1) := by decide +kernel
theorem dX12_told_105 : decode cX12_told 105 = .ok (.iload_n 3, 1) := by decide +kernel
theorem dX12_told_106 : decode cX12_told 106 = .ok (.iadd, 1) := by decide +kernel
theorem dX12_told_107 : decode cX12_told 107 = .ok (.iload 4, 2) := by decide +kernel
theorem dX12_told_109 : decode cX12_told 109 = .ok (.invokevirtual 176, 3) := by decide +kernel
theorem dX12_told_112 : decode cX12_told 112 = .ok (.istore 9, 2) := by decide +kernel
theorem dX12_told_114 : decode cX12_told 114 = .ok (.iload 9, 2) := by decide +kernel
theorem dX12_told_116 : decode cX12_told 116 = .ok (.ifCond .eq 13, 3) := by decide +kernel
theorem dX12_told_119 : decode cX12_told 119 = .ok (.iload 6, 2) := by decide +kernel
theorem dX12_told_121 : decode cX12_told 121 = .ok (.ifCond .ne 8, 3) := by decide +kernel
theorem dX12_told_124 : decode cX12_told 124 = .ok (.iload 8, 2) := by decide +kernel
theorem dX12_told_126 : decode cX12_told 126 = .ok (.goto 5, 3) := by decide +kernel
theorem dX12_told_129 : decode cX12_told 129 = .ok (.iload 7, 2) := by decide +kernel
theorem dX12_told_131 : decode cX12_told 131 = .ok (.istore 7, 2) := by decide +kernel
theorem dX12_told_133 : decode cX12_told 133 = .ok (.iload 6, 2) := by decide +kernel
theorem dX12_told_135 : decode cX12_told 135 = .ok (.iload 9, 2) := by decide +kernel
theorem dX12_told_137 : decode cX12_told 137 = .ok (.ifCond .eq 7, 3) := by decide +kernel
theorem dX12_told_140 : decode cX12_told 140 = .ok (.iconst 1, 1) := by decide +kernel
theorem dX12_told_141 : decode cX12_told 141 = .ok (.goto 4, 3) := by decide +kernel
theorem dX12_told_144 : decode cX12_told 144 = .ok (.iconst 0, 1) := by decide +kernel
theorem dX12_told_145 : decode cX12_told 145 = .ok (.iadd, 1) := by decide +kernel
theorem dX12_told_146 : decode cX12_told 146 = .ok (.istore 6, 2) := by decide +kernel
theorem dX12_told_148 : decode cX12_told 148 = .ok (.iinc 8 1, 3) := by decide +kernel
theorem dX12_told_151 : decode cX12_told 151 = .ok (.goto (-71), 3) := by decide +kernel
theorem dX12_told_154 : decode cX12_told 154 = .ok (.aload_n 0, 1) := by decide +kernel
theorem dX12_told_155 : decode cX12_told 155 = .ok (.iload 5, 2) := by decide +kernel
theorem dX12_told_157 : decode cX12_told 157 = .ok (.ifCond .ne 8, 3) := by decide +kernel
theorem dX12_told_160 : decode cX12_told 160 = .ok (.iload 6, 2) := by decide +kernel
theorem dX12_told_162 : decode cX12_told 162 = .ok (.goto 5, 3) := by decide +kernel
theorem dX12_told_165 : decode cX12_told 165 = .ok (.iload 7, 2) := by decide +kernel
theorem dX12_told_167 : decode cX12_told 167 = .ok (.invokevirtual 63, 3) := by decide +kernel
theorem dX12_told_170 : decode cX12_told 170 = .ok (.ireturn, 1) := by decide +kernel
set_option maxRecDepth 20000 in
theorem ggX12_odds_X12_isTown : GoodIn wsX12_odds wsX12_isTown := goodIn_r _ [8, 3, 44, 45, 46, 47, 48, 49, 50, 51, 52, 53, 54, 55, 56, 57, 58, 59, 60, 61, 62, 63, 64] (by decide +kernel) (by decide +kernel)
set_option maxRecDepth 20000 in
theorem gX12_odds_X12_isTown : GoodIn wsX12_odds (wsV RX12 156 RX12 yX12_isTown wsX12_isTown) := goodIn_app (goodIn_of _ (by decide +kernel)) ggX12_odds_X12_isTown
set_option maxRecDepth 20000 in
theorem ggX12_odds_X12_in : GoodIn wsX12_odds wsX12_in := goodIn_r _ [11] (by decide +kernel) (by decide +kernel)
set_option maxRecDepth 20000 in
theorem gX12_odds_X12_in : GoodIn wsX12_odds (va_wsS RX12 50 yX12_in wsX12_in) := goodIn_app (goodIn_of _ (by decide +kernel)) ggX12_odds_X12_in
set_option maxRecDepth 20000 in
theorem ggX12_odds_X12_living : GoodIn wsX12_odds wsX12_living := goodIn_r _ [15, 3, 16, 17, 18, 7, 19, 44, 45, 46, 47, 48, 49, 50, 51, 52, 53, 54, 55, 56, 57, 58, 59, 60, 61, 62, 63, 64] (by decide +kernel) (by decide +kernel)
set_option maxRecDepth 20000 in
theorem gX12_odds_X12_living : GoodIn wsX12_odds (wsV RX12 163 RX12 yX12_living wsX12_living) := goodIn_app (goodIn_of _ (by decide +kernel)) ggX12_odds_X12_living
set_option maxRecDepth 20000 in
theorem ggX12_odds_X12_has : GoodIn wsX12_odds wsX12_has := goodIn_r _ [22] (by decide +kernel) (by decide +kernel)
set_option maxRecDepth 20000 in
theorem gX12_odds_X12_has : GoodIn wsX12_odds (va_wsS RX12 132 yX12_has wsX12_has) := goodIn_app (goodIn_of _ (by decide +kernel)) ggX12_odds_X12_has
set_option maxRecDepth 20000 in
theorem ggX12_odds_X12_falseIn : GoodIn wsX12_odds wsX12_falseIn := goodIn_r _ [26, 3, 27, 28, 29, 7, 30, 31, 32, 33, 34, 35, 36, 37, 38, 39, 40, 20, 21, 22, 41, 42, 43, 44, 45, 46, 47, 48, 49, 50, 51, 52, 53, 54, 55, 56, 57, 58, 59, 60, 61, 62, 63, 64] (by decide +kernel) (by decide +kernel)
set_option maxRecDepth 20000 in
theorem gX12_odds_X12_falseIn : GoodIn wsX12_odds (wsV RX12 170 RX12 yX12_falseIn wsX12_falseIn) := goodIn_app (goodIn_of _ (by decide +kernel)) ggX12_odds_X12_falseIn
theorem dX12_odds_0 : decode cX12_odds 0 = .ok (.aload_n 0, 1) := by decide +kernel
theorem dX12_odds_1 : decode cX12_odds 1 = .ok (.invokevirtual 156, 3) := by decide +kernel
