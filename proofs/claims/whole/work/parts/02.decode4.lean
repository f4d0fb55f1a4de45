theorem dX12_odds_4 : decode cX12_odds 4 = .ok (.ifCond .ne 6, 3) := by decide +kernel
theorem dX12_odds_7 : decode cX12_odds 7 = .ok (.ldc 159, 2) := by decide +kernel
theorem dX12_odds_9 : decode cX12_odds 9 = .ok (.ireturn, 1) := by decide +kernel
theorem dX12_odds_10 : decode cX12_odds 10 = .ok (.iload_n 1, 1) := by decide +kernel
theorem dX12_odds_11 : decode cX12_odds 11 = .ok (.iconst 0, 1) := by decide +kernel
theorem dX12_odds_12 : decode cX12_odds 12 = .ok (.bipush 6, 2) := by decide +kernel
theorem dX12_odds_14 : decode cX12_odds 14 = .ok (.invokestatic 50, 3) := by decide +kernel
theorem dX12_odds_17 : decode cX12_odds 17 = .ok (.ifCond .eq 22, 3) := by decide +kernel
theorem dX12_odds_20 : decode cX12_odds 20 = .ok (.iload_n 2, 1) := by decide +kernel
theorem dX12_odds_21 : decode cX12_odds 21 = .ok (.iconst 0, 1) := by decide +kernel
theorem dX12_odds_22 : decode cX12_odds 22 = .ok (.bipush 10, 2) := by decide +kernel
theorem dX12_odds_24 : decode cX12_odds 24 = .ok (.invokestatic 50, 3) := by decide +kernel
theorem dX12_odds_27 : decode cX12_odds 27 = .ok (.ifCond .eq 12, 3) := by decide +kernel
theorem dX12_odds_30 : decode cX12_odds 30 = .ok (.iload_n 3, 1) := by decide +kernel
theorem dX12_odds_31 : decode cX12_odds 31 = .ok (.iconst 0, 1) := by decide +kernel
theorem dX12_odds_32 : decode cX12_odds 32 = .ok (.iconst 1, 1) := by decide +kernel
theorem dX12_odds_33 : decode cX12_odds 33 = .ok (.invokestatic 50, 3) := by decide +kernel
theorem dX12_odds_36 : decode cX12_odds 36 = .ok (.ifCond .ne 6, 3) := by decide +kernel
theorem dX12_odds_39 : decode cX12_odds 39 = .ok (.ldc 58, 2) := by decide +kernel
theorem dX12_odds_41 : decode cX12_odds 41 = .ok (.ireturn, 1) := by decide +kernel
theorem dX12_odds_42 : decode cX12_odds 42 = .ok (.aload_n 0, 1) := by decide +kernel
theorem dX12_odds_43 : decode cX12_odds 43 = .ok (.invokevirtual 163, 3) := by decide +kernel
theorem dX12_odds_46 : decode cX12_odds 46 = .ok (.istore 4, 2) := by decide +kernel
theorem dX12_odds_48 : decode cX12_odds 48 = .ok (.iconst 0, 1) := by decide +kernel
theorem dX12_odds_49 : decode cX12_odds 49 = .ok (.istore 5, 2) := by decide +kernel
theorem dX12_odds_51 : decode cX12_odds 51 = .ok (.iconst 1, 1) := by decide +kernel
theorem dX12_odds_52 : decode cX12_odds 52 = .ok (.istore 6, 2) := by decide +kernel
theorem dX12_odds_54 : decode cX12_odds 54 = .ok (.iconst 0, 1) := by decide +kernel
theorem dX12_odds_55 : decode cX12_odds 55 = .ok (.istore 7, 2) := by decide +kernel
theorem dX12_odds_57 : decode cX12_odds 57 = .ok (.iload 7, 2) := by decide +kernel
theorem dX12_odds_59 : decode cX12_odds 59 = .ok (.aload_n 0, 1) := by decide +kernel
theorem dX12_odds_60 : decode cX12_odds 60 = .ok (.getfield 25, 3) := by decide +kernel
theorem dX12_odds_63 : decode cX12_odds 63 = .ok (.iconst 3, 1) := by decide +kernel
theorem dX12_odds_64 : decode cX12_odds 64 = .ok (.iaload, 1) := by decide +kernel
theorem dX12_odds_65 : decode cX12_odds 65 = .ok (.if_icmp .ge 30, 3) := by decide +kernel
theorem dX12_odds_68 : decode cX12_odds 68 = .ok (.iload 6, 2) := by decide +kernel
theorem dX12_odds_70 : decode cX12_odds 70 = .ok (.iload 4, 2) := by decide +kernel
theorem dX12_odds_72 : decode cX12_odds 72 = .ok (.iload 7, 2) := by decide +kernel
theorem dX12_odds_74 : decode cX12_odds 74 = .ok (.invokestatic 132, 3) := by decide +kernel
theorem dX12_odds_77 : decode cX12_odds 77 = .ok (.ifCond .eq 8, 3) := by decide +kernel
theorem dX12_odds_80 : decode cX12_odds 80 = .ok (.bipush 10, 2) := by decide +kernel
theorem dX12_odds_82 : decode cX12_odds 82 = .ok (.goto 4, 3) := by decide +kernel
theorem dX12_odds_85 : decode cX12_odds 85 = .ok (.iconst 1, 1) := by decide +kernel
theorem dX12_odds_86 : decode cX12_odds 86 = .ok (.imul, 1) := by decide +kernel
theorem dX12_odds_87 : decode cX12_odds 87 = .ok (.istore 6, 2) := by decide +kernel
theorem dX12_odds_89 : decode cX12_odds 89 = .ok (.iinc 7 1, 3) := by decide +kernel
theorem dX12_odds_92 : decode cX12_odds 92 = .ok (.goto (-35), 3) := by decide +kernel
theorem dX12_odds_95 : decode cX12_odds 95 = .ok (.iconst 0, 1) := by decide +kernel
theorem dX12_odds_96 : decode cX12_odds 96 = .ok (.istore 7, 2) := by decide +kernel
theorem dX12_odds_98 : decode cX12_odds 98 = .ok (.iload 7, 2) := by decide +kernel
theorem dX12_odds_100 : decode cX12_odds 100 = .ok (.iconst 1, 1) := by decide +kernel
theorem dX12_odds_101 : decode cX12_odds 101 = .ok (.aload_n 0, 1) := by decide +kernel
theorem dX12_odds_102 : decode cX12_odds 102 = .ok (.getfield 25, 3) := by decide +kernel
theorem dX12_odds_105 : decode cX12_odds 105 = .ok (.iconst 3, 1) := by decide +kernel
theorem dX12_odds_106 : decode cX12_odds 106 = .ok (.iaload, 1) := by decide +kernel
theorem dX12_odds_107 : decode cX12_odds 107 = .ok (.ishl, 1) := by decide +kernel
theorem dX12_odds_108 : decode cX12_odds 108 = .ok (.if_icmp .ge 138, 3) := by decide +kernel
theorem dX12_odds_111 : decode cX12_odds 111 = .ok (.iload 7, 2) := by decide +kernel
theorem dX12_odds_113 : decode cX12_odds 113 = .ok (.iload 4, 2) := by decide +kernel
theorem dX12_odds_115 : decode cX12_odds 115 = .ok (.iconst (-1), 1) := by decide +kernel
theorem dX12_odds_116 : decode cX12_odds 116 = .ok (.ixor, 1) := by decide +kernel
theorem dX12_odds_117 : decode cX12_odds 117 = .ok (.iand, 1) := by decide +kernel
theorem dX12_odds_118 : decode cX12_odds 118 = .ok (.ifCond .ne 7, 3) := by decide +kernel
theorem dX12_odds_121 : decode cX12_odds 121 = .ok (.iconst 1, 1) := by decide +kernel
theorem dX12_odds_122 : decode cX12_odds 122 = .ok (.goto 4, 3) := by decide +kernel
theorem dX12_odds_125 : decode cX12_odds 125 = .ok (.iconst 0, 1) := by decide +kernel
theorem dX12_odds_126 : decode cX12_odds 126 = .ok (.istore 8, 2) := by decide +kernel
theorem dX12_odds_128 : decode cX12_odds 128 = .ok (.iconst 0, 1) := by decide +kernel
theorem dX12_odds_129 : decode cX12_odds 129 = .ok (.istore 9, 2) := by decide +kernel
theorem dX12_odds_131 : decode cX12_odds 131 = .ok (.iconst 0, 1) := by decide +kernel
theorem dX12_odds_132 : decode cX12_odds 132 = .ok (.istore 10, 2) := by decide +kernel
theorem dX12_odds_134 : decode cX12_odds 134 = .ok (.iload 10, 2) := by decide +kernel
theorem dX12_odds_136 : decode cX12_odds 136 = .ok (.aload_n 0, 1) := by decide +kernel
theorem dX12_odds_137 : decode cX12_odds 137 = .ok (.getfield 25, 3) := by decide +kernel
theorem dX12_odds_140 : decode cX12_odds 140 = .ok (.iconst 3, 1) := by decide +kernel
theorem dX12_odds_141 : decode cX12_odds 141 = .ok (.iaload, 1) := by decide +kernel
theorem dX12_odds_142 : decode cX12_odds 142 = .ok (.if_icmp .ge 81, 3) := by decide +kernel
theorem dX12_odds_145 : decode cX12_odds 145 = .ok (.iload 8, 2) := by decide +kernel
theorem dX12_odds_147 : decode cX12_odds 147 = .ok (.iload 4, 2) := by decide +kernel
theorem dX12_odds_149 : decode cX12_odds 149 = .ok (.iload 10, 2) := by decide +kernel
theorem dX12_odds_151 : decode cX12_odds 151 = .ok (.invokestatic 132, 3) := by decide +kernel
theorem dX12_odds_154 : decode cX12_odds 154 = .ok (.ifCond .ne 7, 3) := by decide +kernel
theorem dX12_odds_157 : decode cX12_odds 157 = .ok (.iconst 1, 1) := by decide +kernel
theorem dX12_odds_158 : decode cX12_odds 158 = .ok (.goto 21, 3) := by decide +kernel
theorem dX12_odds_161 : decode cX12_odds 161 = .ok (.iload 7, 2) := by decide +kernel
theorem dX12_odds_163 : decode cX12_odds 163 = .ok (.iload 10, 2) := by decide +kernel
theorem dX12_odds_165 : decode cX12_odds 165 = .ok (.invokestatic 132, 3) := by decide +kernel
theorem dX12_odds_168 : decode cX12_odds 168 = .ok (.ifCond .eq 7, 3) := by decide +kernel
theorem dX12_odds_171 : decode cX12_odds 171 = .ok (.iload_n 2, 1) := by decide +kernel
theorem dX12_odds_172 : decode cX12_odds 172 = .ok (.goto 7, 3) := by decide +kernel
theorem dX12_odds_175 : decode cX12_odds 175 = .ok (.bipush 10, 2) := by decide +kernel
theorem dX12_odds_177 : decode cX12_odds 177 = .ok (.iload_n 2, 1) := by decide +kernel
theorem dX12_odds_178 : decode cX12_odds 178 = .ok (.isub, 1) := by decide +kernel
theorem dX12_odds_179 : decode cX12_odds 179 = .ok (.imul, 1) := by decide +kernel
theorem dX12_odds_180 : decode cX12_odds 180 = .ok (.istore 8, 2) := by decide +kernel
theorem dX12_odds_182 : decode cX12_odds 182 = .ok (.iload 9, 2) := by decide +kernel
theorem dX12_odds_184 : decode cX12_odds 184 = .ok (.aload_n 0, 1) := by decide +kernel
theorem dX12_odds_185 : decode cX12_odds 185 = .ok (.iload 10, 2) := by decide +kernel
theorem dX12_odds_187 : decode cX12_odds 187 = .ok (.iload 7, 2) := by decide +kernel
theorem dX12_odds_189 : decode cX12_odds 189 = .ok (.iload 10, 2) := by decide +kernel
theorem dX12_odds_191 : decode cX12_odds 191 = .ok (.invokestatic 132, 3) := by decide +kernel
theorem dX12_odds_194 : decode cX12_odds 194 = .ok (.ifCond .eq 7, 3) := by decide +kernel
theorem dX12_odds_197 : decode cX12_odds 197 = .ok (.iconst 0, 1) := by decide +kernel
theorem dX12_odds_198 : decode cX12_odds 198 = .ok (.goto 5, 3) := by decide +kernel
theorem dX12_odds_201 : decode cX12_odds 201 = .ok (.bipush 60, 2) := by decide +kernel
theorem dX12_odds_203 : decode cX12_odds 203 = .ok (.invokevirtual 170, 3) := by decide +kernel
theorem dX12_odds_206 : decode cX12_odds 206 = .ok (.ifCond .ne 7, 3) := by decide +kernel
theorem dX12_odds_209 : decode cX12_odds 209 = .ok (.iconst 1, 1) := by decide +kernel
theorem dX12_odds_210 : decode cX12_odds 210 = .ok (.goto 4, 3) := by decide +kernel
theorem dX12_odds_213 : decode cX12_odds 213 = .ok (.iconst 0, 1) := by decide +kernel
theorem dX12_odds_214 : decode cX12_odds 214 = .ok (.iadd, 1) := by decide +kernel
theorem dX12_odds_215 : decode cX12_odds 215 = .ok (.istore 9, 2) := by decide +kernel
theorem dX12_odds_217 : decode cX12_odds 217 = .ok (.iinc 10 1, 3) := by decide +kernel
theorem dX12_odds_220 : decode cX12_odds 220 = .ok (.goto (-86), 3) := by decide +kernel
theorem dX12_odds_223 : decode cX12_odds 223 = .ok (.iload 5, 2) := by decide +kernel
theorem dX12_odds_225 : decode cX12_odds 225 = .ok (.iload 9, 2) := by decide +kernel
theorem dX12_odds_227 : decode cX12_odds 227 = .ok (.iload_n 1, 1) := by decide +kernel
theorem dX12_odds_228 : decode cX12_odds 228 = .ok (.if_icmp .lt 8, 3) := by decide +kernel
theorem dX12_odds_231 : decode cX12_odds 231 = .ok (.iload 8, 2) := by decide +kernel
theorem dX12_odds_233 : decode cX12_odds 233 = .ok (.goto 4, 3) := by decide +kernel
theorem dX12_odds_236 : decode cX12_odds 236 = .ok (.iconst 0, 1) := by decide +kernel
theorem dX12_odds_237 : decode cX12_odds 237 = .ok (.iadd, 1) := by decide +kernel
theorem dX12_odds_238 : decode cX12_odds 238 = .ok (.istore 5, 2) := by decide +kernel
theorem dX12_odds_240 : decode cX12_odds 240 = .ok (.iinc 7 1, 3) := by decide +kernel
theorem dX12_odds_243 : decode cX12_odds 243 = .ok (.goto (-145), 3) := by decide +kernel
theorem dX12_odds_246 : decode cX12_odds 246 = .ok (.iload 5, 2) := by decide +kernel
theorem dX12_odds_248 : decode cX12_odds 248 = .ok (.istore 7, 2) := by decide +kernel
theorem dX12_odds_250 : decode cX12_odds 250 = .ok (.iload 6, 2) := by decide +kernel
theorem dX12_odds_252 : decode cX12_odds 252 = .ok (.istore 8, 2) := by decide +kernel
theorem dX12_odds_254 : decode cX12_odds 254 = .ok (.iload 8, 2) := by decide +kernel
theorem dX12_odds_256 : decode cX12_odds 256 = .ok (.ifCond .eq 21, 3) := by decide +kernel
theorem dX12_odds_259 : decode cX12_odds 259 = .ok (.iload 7, 2) := by decide +kernel
theorem dX12_odds_261 : decode cX12_odds 261 = .ok (.iload 8, 2) := by decide +kernel
theorem dX12_odds_263 : decode cX12_odds 263 = .ok (.irem, 1) := by decide +kernel
theorem dX12_odds_264 : decode cX12_odds 264 = .ok (.istore 9, 2) := by decide +kernel
theorem dX12_odds_266 : decode cX12_odds 266 = .ok (.iload 8, 2) := by decide +kernel
theorem dX12_odds_268 : decode cX12_odds 268 = .ok (.istore 7, 2) := by decide +kernel
theorem dX12_odds_270 : decode cX12_odds 270 = .ok (.iload 9, 2) := by decide +kernel
theorem dX12_odds_272 : decode cX12_odds 272 = .ok (.istore 8, 2) := by decide +kernel
theorem dX12_odds_274 : decode cX12_odds 274 = .ok (.goto (-20), 3) := by decide +kernel
theorem dX12_odds_277 : decode cX12_odds 277 = .ok (.iload_n 3, 1) := by decide +kernel
theorem dX12_odds_278 : decode cX12_odds 278 = .ok (.ifCond .ne 8, 3) := by decide +kernel
theorem dX12_odds_281 : decode cX12_odds 281 = .ok (.iload 5, 2) := by decide +kernel
theorem dX12_odds_283 : decode cX12_odds 283 = .ok (.goto 5, 3) := by decide +kernel
theorem dX12_odds_286 : decode cX12_odds 286 = .ok (.iload 6, 2) := by decide +kernel
theorem dX12_odds_288 : decode cX12_odds 288 = .ok (.iload 7, 2) := by decide +kernel
theorem dX12_odds_290 : decode cX12_odds 290 = .ok (.idiv, 1) := by decide +kernel
theorem dX12_odds_291 : decode cX12_odds 291 = .ok (.ireturn, 1) := by decide +kernel
set_option maxRecDepth 20000 in
theorem ggX12_image_X12_in : GoodIn wsX12_image wsX12_in := goodIn_r _ [9] (by decide +kernel) (by decide +kernel)
set_option maxRecDepth 20000 in
theorem gX12_image_X12_in : GoodIn wsX12_image (va_wsS RX12 50 yX12_in wsX12_in) := goodIn_app (goodIn_of _ (by decide +kernel)) ggX12_image_X12_in
set_option maxRecDepth 20000 in
theorem ggX12_image_X12_isTown : GoodIn wsX12_image wsX12_isTown := goodIn_r _ [13, 3, 17, 18, 19, 20, 21, 22, 23, 24, 25, 26, 27, 28, 29, 30, 31, 32, 33, 34, 35, 36, 37] (by decide +kernel) (by decide +kernel)
set_option maxRecDepth 20000 in
theorem gX12_image_X12_isTown : GoodIn wsX12_image (wsV RX12 156 RX12 yX12_isTown wsX12_isTown) := goodIn_app (goodIn_of _ (by decide +kernel)) ggX12_image_X12_isTown
set_option maxRecDepth 20000 in
theorem ggX12_image_X12_copies : GoodIn wsX12_image wsX12_copies := goodIn_r _ [16] (by decide +kernel) (by decide +kernel)
set_option maxRecDepth 20000 in
theorem gX12_image_X12_copies : GoodIn wsX12_image (va_wsS RX12 125 yX12_copies wsX12_copies) := goodIn_app (goodIn_of _ (by decide +kernel)) ggX12_image_X12_copies
theorem dX12_image_0 : decode cX12_image 0 = .ok (.iload_n 1, 1) := by decide +kernel
theorem dX12_image_1 : decode cX12_image 1 = .ok (.iconst 0, 1) := by decide +kernel
theorem dX12_image_2 : decode cX12_image 2 = .ok (.iconst 1, 1) := by decide +kernel
theorem dX12_image_3 : decode cX12_image 3 = .ok (.invokestatic 50, 3) := by decide +kernel
theorem dX12_image_6 : decode cX12_image 6 = .ok (.ifCond .ne 6, 3) := by decide +kernel
theorem dX12_image_9 : decode cX12_image 9 = .ok (.ldc 58, 2) := by decide +kernel
theorem dX12_image_11 : decode cX12_image 11 = .ok (.ireturn, 1) := by decide +kernel
theorem dX12_image_12 : decode cX12_image 12 = .ok (.aload_n 0, 1) := by decide +kernel
theorem dX12_image_13 : decode cX12_image 13 = .ok (.invokevirtual 156, 3) := by decide +kernel
theorem dX12_image_16 : decode cX12_image 16 = .ok (.ifCond .ne 6, 3) := by decide +kernel
theorem dX12_image_19 : decode cX12_image 19 = .ok (.ldc 159, 2) := by decide +kernel
theorem dX12_image_21 : decode cX12_image 21 = .ok (.ireturn, 1) := by decide +kernel
theorem dX12_image_22 : decode cX12_image 22 = .ok (.aload_n 0, 1) := by decide +kernel
theorem dX12_image_23 : decode cX12_image 23 = .ok (.getfield 25, 3) := by decide +kernel
theorem dX12_image_26 : decode cX12_image 26 = .ok (.iconst 0, 1) := by decide +kernel
theorem dX12_image_27 : decode cX12_image 27 = .ok (.aload_n 0, 1) := by decide +kernel
theorem dX12_image_28 : decode cX12_image 28 = .ok (.getfield 34, 3) := by decide +kernel
theorem dX12_image_31 : decode cX12_image 31 = .ok (.bipush 28, 2) := by decide +kernel
theorem dX12_image_33 : decode cX12_image 33 = .ok (.iload_n 1, 1) := by decide +kernel
theorem dX12_image_34 : decode cX12_image 34 = .ok (.imul, 1) := by decide +kernel
theorem dX12_image_35 : decode cX12_image 35 = .ok (.invokestatic 125, 3) := by decide +kernel
theorem dX12_image_38 : decode cX12_image 38 = .ok (.aload_n 0, 1) := by decide +kernel
theorem dX12_image_39 : decode cX12_image 39 = .ok (.getfield 37, 3) := by decide +kernel
theorem dX12_image_42 : decode cX12_image 42 = .ok (.iload_n 1, 1) := by decide +kernel
theorem dX12_image_43 : decode cX12_image 43 = .ok (.iconst 1, 1) := by decide +kernel
theorem dX12_image_44 : decode cX12_image 44 = .ok (.bastore, 1) := by decide +kernel
theorem dX12_image_45 : decode cX12_image 45 = .ok (.iconst 1, 1) := by decide +kernel
theorem dX12_image_46 : decode cX12_image 46 = .ok (.ireturn, 1) := by decide +kernel
set_option maxRecDepth 20000 in
theorem ggX12_restore_X12_in : GoodIn wsX12_restore wsX12_in := goodIn_r _ [10] (by decide +kernel) (by decide +kernel)
set_option maxRecDepth 20000 in
theorem gX12_restore_X12_in : GoodIn wsX12_restore (va_wsS RX12 50 yX12_in wsX12_in) := goodIn_app (goodIn_of _ (by decide +kernel)) ggX12_restore_X12_in
set_option maxRecDepth 20000 in
theorem ggX12_restore_X12_copies : GoodIn wsX12_restore wsX12_copies := goodIn_r _ [13] (by decide +kernel) (by decide +kernel)
set_option maxRecDepth 20000 in
theorem gX12_restore_X12_copies : GoodIn wsX12_restore (va_wsS RX12 125 yX12_copies wsX12_copies) := goodIn_app (goodIn_of _ (by decide +kernel)) ggX12_restore_X12_copies
theorem dX12_restore_0 : decode cX12_restore 0 = .ok (.iload_n 1, 1) := by decide +kernel
theorem dX12_restore_1 : decode cX12_restore 1 = .ok (.iconst 0, 1) := by decide +kernel
theorem dX12_restore_2 : decode cX12_restore 2 = .ok (.iconst 1, 1) := by decide +kernel
theorem dX12_restore_3 : decode cX12_restore 3 = .ok (.invokestatic 50, 3) := by decide +kernel
theorem dX12_restore_6 : decode cX12_restore 6 = .ok (.ifCond .ne 6, 3) := by decide +kernel
theorem dX12_restore_9 : decode cX12_restore 9 = .ok (.ldc 58, 2) := by decide +kernel
theorem dX12_restore_11 : decode cX12_restore 11 = .ok (.ireturn, 1) := by decide +kernel
theorem dX12_restore_12 : decode cX12_restore 12 = .ok (.aload_n 0, 1) := by decide +kernel
theorem dX12_restore_13 : decode cX12_restore 13 = .ok (.getfield 37, 3) := by decide +kernel
theorem dX12_restore_16 : decode cX12_restore 16 = .ok (.iload_n 1, 1) := by decide +kernel
theorem dX12_restore_17 : decode cX12_restore 17 = .ok (.baload, 1) := by decide +kernel
theorem dX12_restore_18 : decode cX12_restore 18 = .ok (.ifCond .ne 6, 3) := by decide +kernel
theorem dX12_restore_21 : decode cX12_restore 21 = .ok (.ldc 159, 2) := by decide +kernel
theorem dX12_restore_23 : decode cX12_restore 23 = .ok (.ireturn, 1) := by decide +kernel
theorem dX12_restore_24 : decode cX12_restore 24 = .ok (.aload_n 0, 1) := by decide +kernel
theorem dX12_restore_25 : decode cX12_restore 25 = .ok (.getfield 34, 3) := by decide +kernel
theorem dX12_restore_28 : decode cX12_restore 28 = .ok (.bipush 28, 2) := by decide +kernel
theorem dX12_restore_30 : decode cX12_restore 30 = .ok (.iload_n 1, 1) := by decide +kernel
theorem dX12_restore_31 : decode cX12_restore 31 = .ok (.imul, 1) := by decide +kernel
theorem dX12_restore_32 : decode cX12_restore 32 = .ok (.aload_n 0, 1) := by decide +kernel
theorem dX12_restore_33 : decode cX12_restore 33 = .ok (.getfield 25, 3) := by decide +kernel
theorem dX12_restore_36 : decode cX12_restore 36 = .ok (.iconst 0, 1) := by decide +kernel
theorem dX12_restore_37 : decode cX12_restore 37 = .ok (.invokestatic 125, 3) := by decide +kernel
theorem dX12_restore_40 : decode cX12_restore 40 = .ok (.aload_n 0, 1) := by decide +kernel
theorem dX12_restore_41 : decode cX12_restore 41 = .ok (.iconst 0, 1) := by decide +kernel
theorem dX12_restore_42 : decode cX12_restore 42 = .ok (.putfield 129, 3) := by decide +kernel
theorem dX12_restore_45 : decode cX12_restore 45 = .ok (.iconst 1, 1) := by decide +kernel
theorem dX12_restore_46 : decode cX12_restore 46 = .ok (.ireturn, 1) := by decide +kernel
theorem dX12_kindIn_0 : decode cX12_kindIn 0 = .ok (.aload_n 0, 1) := by decide +kernel
theorem dX12_kindIn_1 : decode cX12_kindIn 1 = .ok (.getfield 25, 3) := by decide +kernel
theorem dX12_kindIn_4 : decode cX12_kindIn 4 = .ok (.iconst 4, 1) := by decide +kernel
theorem dX12_kindIn_5 : decode cX12_kindIn 5 = .ok (.iconst 4, 1) := by decide +kernel
theorem dX12_kindIn_6 : decode cX12_kindIn 6 = .ok (.iload_n 1, 1) := by decide +kernel
theorem dX12_kindIn_7 : decode cX12_kindIn 7 = .ok (.imul, 1) := by decide +kernel
theorem dX12_kindIn_8 : decode cX12_kindIn 8 = .ok (.iadd, 1) := by decide +kernel
theorem dX12_kindIn_9 : decode cX12_kindIn 9 = .ok (.iaload, 1) := by decide +kernel
theorem dX12_kindIn_10 : decode cX12_kindIn 10 = .ok (.ireturn, 1) := by decide +kernel
set_option maxRecDepth 20000 in
theorem ggX12_kind_X12_isReader : GoodIn wsX12_kind wsX12_isReader := goodIn_r _ [6, 7, 8, 9, 5, 10, 15, 16, 17, 18, 19, 20, 21, 22, 23, 24, 25, 26, 27, 28, 29, 30, 31, 32, 33, 34, 35] (by decide +kernel) (by decide +kernel)
set_option maxRecDepth 20000 in
theorem gX12_kind_X12_isReader : GoodIn wsX12_kind (wsV RX12 167 RX12 yX12_isReader wsX12_isReader) := goodIn_app (goodIn_of _ (by decide +kernel)) ggX12_kind_X12_isReader
set_option maxRecDepth 20000 in
theorem ggX12_kind_X12_kindIn : GoodIn wsX12_kind wsX12_kindIn := goodIn_r _ [14, 7, 15, 16, 17, 18, 19, 20, 21, 22, 23, 24, 25, 26, 27, 28, 29, 30, 31, 32, 33, 34, 35] (by decide +kernel) (by decide +kernel)
set_option maxRecDepth 20000 in
theorem gX12_kind_X12_kindIn : GoodIn wsX12_kind (wsV RX12 180 RX12 yX12_kindIn wsX12_kindIn) := goodIn_app (goodIn_of _ (by decide +kernel)) ggX12_kind_X12_kindIn
theorem dX12_kind_0 : decode cX12_kind 0 = .ok (.aload_n 0, 1) := by decide +kernel
theorem dX12_kind_1 : decode cX12_kind 1 = .ok (.iload_n 1, 1) := by decide +kernel
theorem dX12_kind_2 : decode cX12_kind 2 = .ok (.invokevirtual 167, 3) := by decide +kernel
theorem dX12_kind_5 : decode cX12_kind 5 = .ok (.ifCond .eq 11, 3) := by decide +kernel
theorem dX12_kind_8 : decode cX12_kind 8 = .ok (.aload_n 0, 1) := by decide +kernel
theorem dX12_kind_9 : decode cX12_kind 9 = .ok (.iload_n 1, 1) := by decide +kernel
theorem dX12_kind_10 : decode cX12_kind 10 = .ok (.invokevirtual 180, 3) := by decide +kernel
theorem dX12_kind_13 : decode cX12_kind 13 = .ok (.goto 5, 3) := by decide +kernel
theorem dX12_kind_16 : decode cX12_kind 16 = .ok (.ldc 58, 2) := by decide +kernel
theorem dX12_kind_18 : decode cX12_kind 18 = .ok (.ireturn, 1) := by decide +kernel
set_option maxRecDepth 20000 in
theorem ggX12_as_X12_isReader : GoodIn wsX12_as wsX12_isReader := goodIn_r _ [6, 7, 8, 9, 5, 10, 25, 26, 27, 28, 29, 30, 31, 32, 33, 34, 35, 36, 37, 38, 39, 40, 41, 42, 43, 44, 45] (by decide +kernel) (by decide +kernel)
set_option maxRecDepth 20000 in
theorem gX12_as_X12_isReader : GoodIn wsX12_as (wsV RX12 167 RX12 yX12_isReader wsX12_isReader) := goodIn_app (goodIn_of _ (by decide +kernel)) ggX12_as_X12_isReader
set_option maxRecDepth 20000 in
theorem ggX12_as_X12_in : GoodIn wsX12_as wsX12_in := goodIn_r _ [10] (by decide +kernel) (by decide +kernel)
set_option maxRecDepth 20000 in
theorem gX12_as_X12_in : GoodIn wsX12_as (va_wsS RX12 50 yX12_in wsX12_in) := goodIn_app (goodIn_of _ (by decide +kernel)) ggX12_as_X12_in
set_option maxRecDepth 20000 in
theorem ggX12_as_X12_kindIn : GoodIn wsX12_as wsX12_kindIn := goodIn_r _ [14, 7, 25, 26, 27, 28, 29, 30, 31, 32, 33, 34, 35, 36, 37, 38, 39, 40, 41, 42, 43, 44, 45] (by decide +kernel) (by decide +kernel)
set_option maxRecDepth 20000 in
theorem gX12_as_X12_kindIn : GoodIn wsX12_as (wsV RX12 180 RX12 yX12_kindIn wsX12_kindIn) := goodIn_app (goodIn_of _ (by decide +kernel)) ggX12_as_X12_kindIn
set_option maxRecDepth 20000 in
theorem ggX12_as_X12_well : GoodIn wsX12_as wsX12_well := goodIn_r _ [18, 19, 25, 26, 27, 28, 29, 30, 31, 32, 33, 34, 35, 36, 37, 38, 39, 40, 41, 42, 43, 44, 45] (by decide +kernel) (by decide +kernel)
set_option maxRecDepth 20000 in
theorem gX12_as_X12_well : GoodIn wsX12_as (wsV RX12 63 RX12 yX12_well wsX12_well) := goodIn_app (goodIn_of _ (by decide +kernel)) ggX12_as_X12_well
set_option maxRecDepth 20000 in
theorem ggX12_as_X12_found : GoodIn wsX12_as wsX12_found := goodIn_r _ [23, 19, 24, 25, 26, 27, 28, 29, 30, 31, 32, 33, 34, 35, 36, 37, 38, 39, 40, 41, 42, 43, 44, 45] (by decide +kernel) (by decide +kernel)
set_option maxRecDepth 20000 in
theorem gX12_as_X12_found : GoodIn wsX12_as (wsV RX12 59 RX12 yX12_found wsX12_found) := goodIn_app (goodIn_of _ (by decide +kernel)) ggX12_as_X12_found
theorem dX12_as_0 : decode cX12_as 0 = .ok (.aload_n 0, 1) := by decide +kernel
theorem dX12_as_1 : decode cX12_as 1 = .ok (.iload_n 1, 1) := by decide +kernel
theorem dX12_as_2 : decode cX12_as 2 = .ok (.invokevirtual 167, 3) := by decide +kernel
theorem dX12_as_5 : decode cX12_as 5 = .ok (.ifCond .eq 12, 3) := by decide +kernel
theorem dX12_as_8 : decode cX12_as 8 = .ok (.iload_n 2, 1) := by decide +kernel
theorem dX12_as_9 : decode cX12_as 9 = .ok (.iconst 0, 1) := by decide +kernel
theorem dX12_as_10 : decode cX12_as 10 = .ok (.iconst 5, 1) := by decide +kernel
theorem dX12_as_11 : decode cX12_as 11 = .ok (.invokestatic 50, 3) := by decide +kernel
theorem dX12_as_14 : decode cX12_as 14 = .ok (.ifCond .ne 6, 3) := by decide +kernel
theorem dX12_as_17 : decode cX12_as 17 = .ok (.ldc 58, 2) := by decide +kernel
theorem dX12_as_19 : decode cX12_as 19 = .ok (.ireturn, 1) := by decide +kernel
theorem dX12_as_20 : decode cX12_as 20 = .ok (.aload_n 0, 1) := by decide +kernel
theorem dX12_as_21 : decode cX12_as 21 = .ok (.iload_n 1, 1) := by decide +kernel
theorem dX12_as_22 : decode cX12_as 22 = .ok (.invokevirtual 180, 3) := by decide +kernel
theorem dX12_as_25 : decode cX12_as 25 = .ok (.istore_n 3, 1) := by decide +kernel
theorem dX12_as_26 : decode cX12_as 26 = .ok (.iload_n 2, 1) := by decide +kernel
theorem dX12_as_27 : decode cX12_as 27 = .ok (.ifCond .eq 28, 3) := by decide +kernel
theorem dX12_as_30 : decode cX12_as 30 = .ok (.iload_n 2, 1) := by decide +kernel
theorem dX12_as_31 : decode cX12_as 31 = .ok (.iload_n 3, 1) := by decide +kernel
theorem dX12_as_32 : decode cX12_as 32 = .ok (.if_icmp .eq 23, 3) := by decide +kernel
theorem dX12_as_35 : decode cX12_as 35 = .ok (.iload_n 2, 1) := by decide +kernel
theorem dX12_as_36 : decode cX12_as 36 = .ok (.iconst 1, 1) := by decide +kernel
theorem dX12_as_37 : decode cX12_as 37 = .ok (.if_icmp .ne 8, 3) := by decide +kernel
theorem dX12_as_40 : decode cX12_as 40 = .ok (.iload_n 3, 1) := by decide +kernel
theorem dX12_as_41 : decode cX12_as 41 = .ok (.iconst 4, 1) := by decide +kernel
theorem dX12_as_42 : decode cX12_as 42 = .ok (.if_icmp .lt 13, 3) := by decide +kernel
theorem dX12_as_45 : decode cX12_as 45 = .ok (.iload_n 2, 1) := by decide +kernel
theorem dX12_as_46 : decode cX12_as 46 = .ok (.iconst 4, 1) := by decide +kernel
theorem dX12_as_47 : decode cX12_as 47 = .ok (.if_icmp .ne 12, 3) := by decide +kernel
theorem dX12_as_50 : decode cX12_as 50 = .ok (.iload_n 3, 1) := by decide +kernel
theorem dX12_as_51 : decode cX12_as 51 = .ok (.iconst 5, 1) := by decide +kernel
theorem dX12_as_52 : decode cX12_as 52 = .ok (.if_icmp .ne 7, 3) := by decide +kernel
theorem dX12_as_55 : decode cX12_as 55 = .ok (.iconst 1, 1) := by decide +kernel
theorem dX12_as_56 : decode cX12_as 56 = .ok (.goto 4, 3) := by decide +kernel
theorem dX12_as_59 : decode cX12_as 59 = .ok (.iconst 0, 1) := by decide +kernel
theorem dX12_as_60 : decode cX12_as 60 = .ok (.istore 4, 2) := by decide +kernel
theorem dX12_as_62 : decode cX12_as 62 = .ok (.iload 4, 2) := by decide +kernel
theorem dX12_as_64 : decode cX12_as 64 = .ok (.ifCond .eq 11, 3) := by decide +kernel
theorem dX12_as_67 : decode cX12_as 67 = .ok (.aload_n 0, 1) := by decide +kernel
theorem dX12_as_68 : decode cX12_as 68 = .ok (.iload_n 1, 1) := by decide +kernel
theorem dX12_as_69 : decode cX12_as 69 = .ok (.invokevirtual 63, 3) := by decide +kernel
theorem dX12_as_72 : decode cX12_as 72 = .ok (.goto 8, 3) := by decide +kernel
theorem dX12_as_75 : decode cX12_as 75 = .ok (.aload_n 0, 1) := by decide +kernel
theorem dX12_as_76 : decode cX12_as 76 = .ok (.iconst 3, 1) := by decide +kernel
theorem dX12_as_77 : decode cX12_as 77 = .ok (.invokevirtual 59, 3) := by decide +kernel
theorem dX12_as_80 : decode cX12_as 80 = .ok (.ireturn, 1) := by decide +kernel
theorem dX12_begins_0 : decode cX12_begins 0 = .ok (.aload_n 0, 1) := by decide +kernel
theorem dX12_begins_1 : decode cX12_begins 1 = .ok (.getfield 183, 3) := by decide +kernel
theorem dX12_begins_4 : decode cX12_begins 4 = .ok (.bipush 16, 2) := by decide +kernel
theorem dX12_begins_6 : decode cX12_begins 6 = .ok (.if_icmp .ge 23, 3) := by decide +kernel
theorem dX12_begins_9 : decode cX12_begins 9 = .ok (.aload_n 0, 1) := by decide +kernel
theorem dX12_begins_10 : decode cX12_begins 10 = .ok (.getfield 41, 3) := by decide +kernel
theorem dX12_begins_13 : decode cX12_begins 13 = .ok (.aload_n 0, 1) := by decide +kernel
theorem dX12_begins_14 : decode cX12_begins 14 = .ok (.getfield 183, 3) := by decide +kernel
theorem dX12_begins_17 : decode cX12_begins 17 = .ok (.iload_n 1, 1) := by decide +kernel
theorem dX12_begins_18 : decode cX12_begins 18 = .ok (.iastore, 1) := by decide +kernel
theorem dX12_begins_19 : decode cX12_begins 19 = .ok (.aload_n 0, 1) := by decide +kernel
theorem dX12_begins_20 : decode cX12_begins 20 = .ok (.dup, 1) := by decide +kernel
theorem dX12_begins_21 : decode cX12_begins 21 = .ok (.getfield 183, 3) := by decide +kernel
theorem dX12_begins_24 : decode cX12_begins 24 = .ok (.iconst 1, 1) := by decide +kernel
theorem dX12_begins_25 : decode cX12_begins 25 = .ok (.iadd, 1) := by decide +kernel
theorem dX12_begins_26 : decode cX12_begins 26 = .ok (.putfield 183, 3) := by decide +kernel
theorem dX12_begins_29 : decode cX12_begins 29 = .ok (.return_, 1) := by decide +kernel
set_option maxRecDepth 20000 in
theorem ggX12_proudMark_X12_kindIn : GoodIn wsX12_proudMark wsX12_kindIn := goodIn_r _ [6, 1, 16, 17, 18, 19, 20, 21, 22, 23, 24, 25, 26, 27, 28, 29, 30, 31, 32, 33, 34, 35, 36] (by decide +kernel) (by decide +kernel)
set_option maxRecDepth 20000 in
theorem gX12_proudMark_X12_kindIn : GoodIn wsX12_proudMark (wsV RX12 180 RX12 yX12_kindIn wsX12_kindIn) := goodIn_app (goodIn_of _ (by decide +kernel)) ggX12_proudMark_X12_kindIn
set_option maxRecDepth 20000 in
theorem ggX12_proudMark_X12_begins : GoodIn wsX12_proudMark wsX12_begins := goodIn_r _ [10, 11, 12, 16, 17, 18, 19, 20, 21, 22, 23, 24, 25, 26, 27, 28, 29, 30, 31, 32, 33, 34, 35, 36] (by decide +kernel) (by decide +kernel)
set_option maxRecDepth 20000 in
theorem gX12_proudMark_X12_begins : GoodIn wsX12_proudMark (wsV RX12 186 RX12 yX12_begins wsX12_begins) := goodIn_app (goodIn_of _ (by decide +kernel)) ggX12_proudMark_X12_begins
set_option maxRecDepth 20000 in
theorem ggX12_proudMark_X12_ones : GoodIn wsX12_proudMark wsX12_ones := goodIn_r _ [15] (by decide +kernel) (by decide +kernel)
set_option maxRecDepth 20000 in
theorem gX12_proudMark_X12_ones : GoodIn wsX12_proudMark (va_wsS RX12 139 yX12_ones wsX12_ones) := goodIn_app (goodIn_of _ (by decide +kernel)) ggX12_proudMark_X12_ones
theorem dX12_proudMark_0 : decode cX12_proudMark 0 = .ok (.aload_n 0, 1) := by decide +kernel
theorem dX12_proudMark_1 : decode cX12_proudMark 1 = .ok (.iload_n 1, 1) := by decide +kernel
theorem dX12_proudMark_2 : decode cX12_proudMark 2 = .ok (.invokevirtual 180, 3) := by decide +kernel
theorem dX12_proudMark_5 : decode cX12_proudMark 5 = .ok (.istore_n 2, 1) := by decide +kernel
theorem dX12_proudMark_6 : decode cX12_proudMark 6 = .ok (.iload_n 2, 1) := by decide +kernel
theorem dX12_proudMark_7 : decode cX12_proudMark 7 = .ok (.iconst 1, 1) := by decide +kernel
theorem dX12_proudMark_8 : decode cX12_proudMark 8 = .ok (.if_icmp .eq 19, 3) := by decide +kernel
theorem dX12_proudMark_11 : decode cX12_proudMark 11 = .ok (.aload_n 0, 1) := by decide +kernel
theorem dX12_proudMark_12 : decode cX12_proudMark 12 = .ok (.iload_n 2, 1) := by decide +kernel
theorem dX12_proudMark_13 : decode cX12_proudMark 13 = .ok (.iconst 2, 1) := by decide +kernel
theorem dX12_proudMark_14 : decode cX12_proudMark 14 = .ok (.if_icmp .ne 8, 3) := by decide +kernel
theorem dX12_proudMark_17 : decode cX12_proudMark 17 = .ok (.bipush 24, 2) := by decide +kernel
theorem dX12_proudMark_19 : decode cX12_proudMark 19 = .ok (.goto 5, 3) := by decide +kernel
theorem dX12_proudMark_22 : decode cX12_proudMark 22 = .ok (.bipush 22, 2) := by decide +kernel
theorem dX12_proudMark_24 : decode cX12_proudMark 24 = .ok (.invokevirtual 186, 3) := by decide +kernel
theorem dX12_proudMark_27 : decode cX12_proudMark 27 = .ok (.aload_n 0, 1) := by decide +kernel
theorem dX12_proudMark_28 : decode cX12_proudMark 28 = .ok (.bipush 21, 2) := by decide +kernel
theorem dX12_proudMark_30 : decode cX12_proudMark 30 = .ok (.invokevirtual 186, 3) := by decide +kernel
theorem dX12_proudMark_33 : decode cX12_proudMark 33 = .ok (.aload_n 0, 1) := by decide +kernel
theorem dX12_proudMark_34 : decode cX12_proudMark 34 = .ok (.bipush 20, 2) := by decide +kernel
theorem dX12_proudMark_36 : decode cX12_proudMark 36 = .ok (.invokevirtual 186, 3) := by decide +kernel
theorem dX12_proudMark_39 : decode cX12_proudMark 39 = .ok (.iload_n 1, 1) := by decide +kernel
theorem dX12_proudMark_40 : decode cX12_proudMark 40 = .ok (.aload_n 0, 1) := by decide +kernel
theorem dX12_proudMark_41 : decode cX12_proudMark 41 = .ok (.getfield 25, 3) := by decide +kernel
theorem dX12_proudMark_44 : decode cX12_proudMark 44 = .ok (.iconst 4, 1) := by decide +kernel
theorem dX12_proudMark_45 : decode cX12_proudMark 45 = .ok (.iconst 4, 1) := by decide +kernel
theorem dX12_proudMark_46 : decode cX12_proudMark 46 = .ok (.iload_n 1, 1) := by decide +kernel
theorem dX12_proudMark_47 : decode cX12_proudMark 47 = .ok (.imul, 1) := by decide +kernel
theorem dX12_proudMark_48 : decode cX12_proudMark 48 = .ok (.iadd, 1) := by decide +kernel
theorem dX12_proudMark_49 : decode cX12_proudMark 49 = .ok (.iconst 1, 1) := by decide +kernel
theorem dX12_proudMark_50 : decode cX12_proudMark 50 = .ok (.iadd, 1) := by decide +kernel
theorem dX12_proudMark_51 : decode cX12_proudMark 51 = .ok (.iaload, 1) := by decide +kernel
theorem dX12_proudMark_52 : decode cX12_proudMark 52 = .ok (.invokestatic 139, 3) := by decide +kernel
theorem dX12_proudMark_55 : decode cX12_proudMark 55 = .ok (.iadd, 1) := by decide +kernel
theorem dX12_proudMark_56 : decode cX12_proudMark 56 = .ok (.istore_n 3, 1) := by decide +kernel
theorem dX12_proudMark_57 : decode cX12_proudMark 57 = .ok (.iload_n 2, 1) := by decide +kernel
theorem dX12_proudMark_58 : decode cX12_proudMark 58 = .ok (.iconst 2, 1) := by decide +kernel
theorem dX12_proudMark_59 : decode cX12_proudMark 59 = .ok (.if_icmp .ne 9, 3) := by decide +kernel
theorem dX12_proudMark_62 : decode cX12_proudMark 62 = .ok (.iconst 2, 1) := by decide +kernel
theorem dX12_proudMark_63 : decode cX12_proudMark 63 = .ok (.iload_n 3, 1) := by decide +kernel
theorem dX12_proudMark_64 : decode cX12_proudMark 64 = .ok (.imul, 1) := by decide +kernel
theorem dX12_proudMark_65 : decode cX12_proudMark 65 = .ok (.goto 17, 3) := by decide +kernel
theorem dX12_proudMark_68 : decode cX12_proudMark 68 = .ok (.iload_n 2, 1) := by decide +kernel
theorem dX12_proudMark_69 : decode cX12_proudMark 69 = .ok (.iconst 3, 1) := by decide +kernel
theorem dX12_proudMark_70 : decode cX12_proudMark 70 = .ok (.if_icmp .ne 11, 3) := by decide +kernel
theorem dX12_proudMark_73 : decode cX12_proudMark 73 = .ok (.iload_n 3, 1) := by decide +kernel
theorem dX12_proudMark_74 : decode cX12_proudMark 74 = .ok (.sipush 1000, 3) := by decide +kernel
theorem dX12_proudMark_77 : decode cX12_proudMark 77 = .ok (.isub, 1) := by decide +kernel
theorem dX12_proudMark_78 : decode cX12_proudMark 78 = .ok (.goto 4, 3) := by decide +kernel
theorem dX12_proudMark_81 : decode cX12_proudMark 81 = .ok (.iload_n 3, 1) := by decide +kernel
theorem dX12_proudMark_82 : decode cX12_proudMark 82 = .ok (.ireturn, 1) := by decide +kernel
set_option maxRecDepth 20000 in
theorem ggX12_crossSize_X12_kindIn : GoodIn wsX12_crossSize wsX12_kindIn := goodIn_r _ [6, 1, 16, 17, 18, 19, 20, 21, 22, 23, 24, 25, 26, 27, 28, 29, 30, 31, 32, 33, 34, 35, 36] (by decide +kernel) (by decide +kernel)
set_option maxRecDepth 20000 in
theorem gX12_crossSize_X12_kindIn : GoodIn wsX12_crossSize (wsV RX12 180 RX12 yX12_kindIn wsX12_kindIn) := goodIn_app (goodIn_of _ (by decide +kernel)) ggX12_crossSize_X12_kindIn
set_option maxRecDepth 20000 in
theorem ggX12_crossSize_X12_begins : GoodIn wsX12_crossSize wsX12_begins := goodIn_r _ [10, 11, 12, 16, 17, 18, 19, 20, 21, 22, 23, 24, 25, 26, 27, 28, 29, 30, 31, 32, 33, 34, 35, 36] (by decide +kernel) (by decide +kernel)
set_option maxRecDepth 20000 in
theorem gX12_crossSize_X12_begins : GoodIn wsX12_crossSize (wsV RX12 186 RX12 yX12_begins wsX12_begins) := goodIn_app (goodIn_of _ (by decide +kernel)) ggX12_crossSize_X12_begins
set_option maxRecDepth 20000 in
theorem ggX12_crossSize_X12_ones : GoodIn wsX12_crossSize wsX12_ones := goodIn_r _ [15] (by decide +kernel) (by decide +kernel)
set_option maxRecDepth 20000 in
theorem gX12_crossSize_X12_ones : GoodIn wsX12_crossSize (va_wsS RX12 139 yX12_ones wsX12_ones) := goodIn_app (goodIn_of _ (by decide +kernel)) ggX12_crossSize_X12_ones
theorem dX12_crossSize_0 : decode cX12_crossSize 0 = .ok (.aload_n 0, 1) := by decide +kernel
theorem dX12_crossSize_1 : decode cX12_crossSize 1 = .ok (.iload_n 1, 1) := by decide +kernel
theorem dX12_crossSize_2 : decode cX12_crossSize 2 = .ok (.invokevirtual 180, 3) := by decide +kernel
theorem dX12_crossSize_5 : decode cX12_crossSize 5 = .ok (.iconst 5, 1) := by decide +kernel
theorem dX12_crossSize_6 : decode cX12_crossSize 6 = .ok (.if_icmp .ne 7, 3) := by decide +kernel
theorem dX12_crossSize_9 : decode cX12_crossSize 9 = .ok (.iconst 1, 1) := by decide +kernel
theorem dX12_crossSize_10 : decode cX12_crossSize 10 = .ok (.goto 4, 3) := by decide +kernel
theorem dX12_crossSize_13 : decode cX12_crossSize 13 = .ok (.iconst 0, 1) := by decide +kernel
theorem dX12_crossSize_14 : decode cX12_crossSize 14 = .ok (.istore_n 2, 1) := by decide +kernel
theorem dX12_crossSize_15 : decode cX12_crossSize 15 = .ok (.iload_n 2, 1) := by decide +kernel
theorem dX12_crossSize_16 : decode cX12_crossSize 16 = .ok (.ifCond .eq 9, 3) := by decide +kernel
theorem dX12_crossSize_19 : decode cX12_crossSize 19 = .ok (.aload_n 0, 1) := by decide +kernel
theorem dX12_crossSize_20 : decode cX12_crossSize 20 = .ok (.bipush 14, 2) := by decide +kernel
theorem dX12_crossSize_22 : decode cX12_crossSize 22 = .ok (.invokevirtual 186, 3) := by decide +kernel
theorem dX12_crossSize_25 : decode cX12_crossSize 25 = .ok (.aload_n 0, 1) := by decide +kernel
theorem dX12_crossSize_26 : decode cX12_crossSize 26 = .ok (.bipush 13, 2) := by decide +kernel
theorem dX12_crossSize_28 : decode cX12_crossSize 28 = .ok (.invokevirtual 186, 3) := by decide +kernel
theorem dX12_crossSize_31 : decode cX12_crossSize 31 = .ok (.aload_n 0, 1) := by decide +kernel
theorem dX12_crossSize_32 : decode cX12_crossSize 32 = .ok (.bipush 10, 2) := by decide +kernel
theorem dX12_crossSize_34 : decode cX12_crossSize 34 = .ok (.invokevirtual 186, 3) := by decide +kernel
theorem dX12_crossSize_37 : decode cX12_crossSize 37 = .ok (.aload_n 0, 1) := by decide +kernel
theorem dX12_crossSize_38 : decode cX12_crossSize 38 = .ok (.getfield 25, 3) := by decide +kernel
theorem dX12_crossSize_41 : decode cX12_crossSize 41 = .ok (.iconst 4, 1) := by decide +kernel
theorem dX12_crossSize_42 : decode cX12_crossSize 42 = .ok (.iconst 4, 1) := by decide +kernel
theorem dX12_crossSize_43 : decode cX12_crossSize 43 = .ok (.iload_n 1, 1) := by decide +kernel
theorem dX12_crossSize_44 : decode cX12_crossSize 44 = .ok (.imul, 1) := by decide +kernel
theorem dX12_crossSize_45 : decode cX12_crossSize 45 = .ok (.iadd, 1) := by decide +kernel
theorem dX12_crossSize_46 : decode cX12_crossSize 46 = .ok (.iconst 2, 1) := by decide +kernel
theorem dX12_crossSize_47 : decode cX12_crossSize 47 = .ok (.iadd, 1) := by decide +kernel
theorem dX12_crossSize_48 : decode cX12_crossSize 48 = .ok (.iaload, 1) := by decide +kernel
theorem dX12_crossSize_49 : decode cX12_crossSize 49 = .ok (.invokestatic 139, 3) := by decide +kernel
theorem dX12_crossSize_52 : decode cX12_crossSize 52 = .ok (.bipush 100, 2) := by decide +kernel
theorem dX12_crossSize_54 : decode cX12_crossSize 54 = .ok (.isub, 1) := by decide +kernel
theorem dX12_crossSize_55 : decode cX12_crossSize 55 = .ok (.istore_n 3, 1) := by decide +kernel
theorem dX12_crossSize_56 : decode cX12_crossSize 56 = .ok (.iload_n 2, 1) := by decide +kernel
theorem dX12_crossSize_57 : decode cX12_crossSize 57 = .ok (.ifCond .eq 9, 3) := by decide +kernel
theorem dX12_crossSize_60 : decode cX12_crossSize 60 = .ok (.iconst 2, 1) := by decide +kernel
theorem dX12_crossSize_61 : decode cX12_crossSize 61 = .ok (.iload_n 3, 1) := by decide +kernel
theorem dX12_crossSize_62 : decode cX12_crossSize 62 = .ok (.imul, 1) := by decide +kernel
theorem dX12_crossSize_63 : decode cX12_crossSize 63 = .ok (.goto 4, 3) := by decide +kernel
theorem dX12_crossSize_66 : decode cX12_crossSize 66 = .ok (.iload_n 3, 1) := by decide +kernel
theorem dX12_crossSize_67 : decode cX12_crossSize 67 = .ok (.ireturn, 1) := by decide +kernel
set_option maxRecDepth 20000 in
theorem ggX12_proudSize_X12_kindIn : GoodIn wsX12_proudSize wsX12_kindIn := goodIn_r _ [6, 1, 20, 21, 22, 23, 24, 25, 26, 27, 28, 29, 30, 31, 32, 33, 34, 35, 36, 37, 38, 39, 40] (by decide +kernel) (by decide +kernel)
set_option maxRecDepth 20000 in
theorem gX12_proudSize_X12_kindIn : GoodIn wsX12_proudSize (wsV RX12 180 RX12 yX12_kindIn wsX12_kindIn) := goodIn_app (goodIn_of _ (by decide +kernel)) ggX12_proudSize_X12_kindIn
set_option maxRecDepth 20000 in
theorem ggX12_proudSize_X12_begins : GoodIn wsX12_proudSize wsX12_begins := goodIn_r _ [10, 11, 12, 20, 21, 22, 23, 24, 25, 26, 27, 28, 29, 30, 31, 32, 33, 34, 35, 36, 37, 38, 39, 40] (by decide +kernel) (by decide +kernel)
set_option maxRecDepth 20000 in
theorem gX12_proudSize_X12_begins : GoodIn wsX12_proudSize (wsV RX12 186 RX12 yX12_begins wsX12_begins) := goodIn_app (goodIn_of _ (by decide +kernel)) ggX12_proudSize_X12_begins
set_option maxRecDepth 20000 in
theorem ggX12_proudSize_X12_ones : GoodIn wsX12_proudSize wsX12_ones := goodIn_r _ [15] (by decide +kernel) (by decide +kernel)
set_option maxRecDepth 20000 in
theorem gX12_proudSize_X12_ones : GoodIn wsX12_proudSize (va_wsS RX12 139 yX12_ones wsX12_ones) := goodIn_app (goodIn_of _ (by decide +kernel)) ggX12_proudSize_X12_ones
set_option maxRecDepth 20000 in
theorem ggX12_proudSize_X12_proudMark : GoodIn wsX12_proudSize wsX12_proudMark := goodIn_r _ [19, 1, 2, 3, 4, 5, 6, 7, 8, 9, 10, 11, 12, 13, 14, 15, 20, 21, 22, 23, 24, 25, 26, 27, 28, 29, 30, 31, 32, 33, 34, 35, 36, 37, 38, 39, 40] (by decide +kernel) (by decide +kernel)
set_option maxRecDepth 20000 in
theorem gX12_proudSize_X12_proudMark : GoodIn wsX12_proudSize (wsV RX12 190 RX12 yX12_proudMark wsX12_proudMark) := goodIn_app (goodIn_of _ (by decide +kernel)) ggX12_proudSize_X12_proudMark
theorem dX12_proudSize_0 : decode cX12_proudSize 0 = .ok (.aload_n 0, 1) := by decide +kernel
theorem dX12_proudSize_1 : decode cX12_proudSize 1 = .ok (.iload_n 1, 1) := by decide +kernel
theorem dX12_proudSize_2 : decode cX12_proudSize 2 = .ok (.invokevirtual 180, 3) := by decide +kernel
theorem dX12_proudSize_5 : decode cX12_proudSize 5 = .ok (.iconst 2, 1) := by decide +kernel
theorem dX12_proudSize_6 : decode cX12_proudSize 6 = .ok (.if_icmp .ne 7, 3) := by decide +kernel
theorem dX12_proudSize_9 : decode cX12_proudSize 9 = .ok (.iconst 1, 1) := by decide +kernel
theorem dX12_proudSize_10 : decode cX12_proudSize 10 = .ok (.goto 4, 3) := by decide +kernel
theorem dX12_proudSize_13 : decode cX12_proudSize 13 = .ok (.iconst 0, 1) := by decide +kernel
theorem dX12_proudSize_14 : decode cX12_proudSize 14 = .ok (.istore_n 2, 1) := by decide +kernel
theorem dX12_proudSize_15 : decode cX12_proudSize 15 = .ok (.iload_n 2, 1) := by decide +kernel
theorem dX12_proudSize_16 : decode cX12_proudSize 16 = .ok (.ifCond .eq 9, 3) := by decide +kernel
theorem dX12_proudSize_19 : decode cX12_proudSize 19 = .ok (.aload_n 0, 1) := by decide +kernel
theorem dX12_proudSize_20 : decode cX12_proudSize 20 = .ok (.bipush 12, 2) := by decide +kernel
theorem dX12_proudSize_22 : decode cX12_proudSize 22 = .ok (.invokevirtual 186, 3) := by decide +kernel
theorem dX12_proudSize_25 : decode cX12_proudSize 25 = .ok (.aload_n 0, 1) := by decide +kernel
theorem dX12_proudSize_26 : decode cX12_proudSize 26 = .ok (.bipush 11, 2) := by decide +kernel
theorem dX12_proudSize_28 : decode cX12_proudSize 28 = .ok (.invokevirtual 186, 3) := by decide +kernel
theorem dX12_proudSize_31 : decode cX12_proudSize 31 = .ok (.aload_n 0, 1) := by decide +kernel
theorem dX12_proudSize_32 : decode cX12_proudSize 32 = .ok (.bipush 10, 2) := by decide +kernel
theorem dX12_proudSize_34 : decode cX12_proudSize 34 = .ok (.invokevirtual 186, 3) := by decide +kernel
theorem dX12_proudSize_37 : decode cX12_proudSize 37 = .ok (.aload_n 0, 1) := by decide +kernel
theorem dX12_proudSize_38 : decode cX12_proudSize 38 = .ok (.getfield 25, 3) := by decide +kernel
theorem dX12_proudSize_41 : decode cX12_proudSize 41 = .ok (.iconst 4, 1) := by decide +kernel
theorem dX12_proudSize_42 : decode cX12_proudSize 42 = .ok (.iconst 4, 1) := by decide +kernel
theorem dX12_proudSize_43 : decode cX12_proudSize 43 = .ok (.iload_n 1, 1) := by decide +kernel
theorem dX12_proudSize_44 : decode cX12_proudSize 44 = .ok (.imul, 1) := by decide +kernel
theorem dX12_proudSize_45 : decode cX12_proudSize 45 = .ok (.iadd, 1) := by decide +kernel
theorem dX12_proudSize_46 : decode cX12_proudSize 46 = .ok (.iconst 2, 1) := by decide +kernel
theorem dX12_proudSize_47 : decode cX12_proudSize 47 = .ok (.iadd, 1) := by decide +kernel
theorem dX12_proudSize_48 : decode cX12_proudSize 48 = .ok (.iaload, 1) := by decide +kernel
theorem dX12_proudSize_49 : decode cX12_proudSize 49 = .ok (.invokestatic 139, 3) := by decide +kernel
theorem dX12_proudSize_52 : decode cX12_proudSize 52 = .ok (.aload_n 0, 1) := by decide +kernel
theorem dX12_proudSize_53 : decode cX12_proudSize 53 = .ok (.iload_n 1, 1) := by decide +kernel
theorem dX12_proudSize_54 : decode cX12_proudSize 54 = .ok (.invokevirtual 190, 3) := by decide +kernel
theorem dX12_proudSize_57 : decode cX12_proudSize 57 = .ok (.iadd, 1) := by decide +kernel
theorem dX12_proudSize_58 : decode cX12_proudSize 58 = .ok (.istore_n 3, 1) := by decide +kernel
theorem dX12_proudSize_59 : decode cX12_proudSize 59 = .ok (.iload_n 2, 1) := by decide +kernel
theorem dX12_proudSize_60 : decode cX12_proudSize 60 = .ok (.ifCond .eq 8, 3) := by decide +kernel
theorem dX12_proudSize_63 : decode cX12_proudSize 63 = .ok (.iload_n 3, 1) := by decide +kernel
theorem dX12_proudSize_64 : decode cX12_proudSize 64 = .ok (.ineg, 1) := by decide +kernel
theorem dX12_proudSize_65 : decode cX12_proudSize 65 = .ok (.goto 4, 3) := by decide +kernel
theorem dX12_proudSize_68 : decode cX12_proudSize 68 = .ok (.iload_n 3, 1) := by decide +kernel
theorem dX12_proudSize_69 : decode cX12_proudSize 69 = .ok (.ireturn, 1) := by decide +kernel
set_option maxRecDepth 20000 in
theorem ggX12_crossMark_X12_begins : GoodIn wsX12_crossMark wsX12_begins := goodIn_r _ [5, 6, 7, 20, 21, 22, 23, 24, 25, 26, 27, 28, 29, 30, 31, 32, 33, 34, 35, 36, 37, 38, 39, 40] (by decide +kernel) (by decide +kernel)
set_option maxRecDepth 20000 in
theorem gX12_crossMark_X12_begins : GoodIn wsX12_crossMark (wsV RX12 186 RX12 yX12_begins wsX12_begins) := goodIn_app (goodIn_of _ (by decide +kernel)) ggX12_crossMark_X12_begins
set_option maxRecDepth 20000 in
theorem ggX12_crossMark_X12_crossSize : GoodIn wsX12_crossMark wsX12_crossSize := goodIn_r _ [11, 12, 13, 14, 15, 4, 16, 1, 2, 3, 5, 6, 7, 17, 18, 19, 20, 21, 22, 23, 24, 25, 26, 27, 28, 29, 30, 31, 32, 33, 34, 35, 36, 37, 38, 39, 40] (by decide +kernel) (by decide +kernel)
set_option maxRecDepth 20000 in
theorem gX12_crossMark_X12_crossSize : GoodIn wsX12_crossMark (wsV RX12 193 RX12 yX12_crossSize wsX12_crossSize) := goodIn_app (goodIn_of _ (by decide +kernel)) ggX12_crossMark_X12_crossSize
theorem dX12_crossMark_0 : decode cX12_crossMark 0 = .ok (.aload_n 0, 1) := by decide +kernel
theorem dX12_crossMark_1 : decode cX12_crossMark 1 = .ok (.bipush 23, 2) := by decide +kernel
theorem dX12_crossMark_3 : decode cX12_crossMark 3 = .ok (.invokevirtual 186, 3) := by decide +kernel
theorem dX12_crossMark_6 : decode cX12_crossMark 6 = .ok (.aload_n 0, 1) := by decide +kernel
theorem dX12_crossMark_7 : decode cX12_crossMark 7 = .ok (.bipush 20, 2) := by decide +kernel
theorem dX12_crossMark_9 : decode cX12_crossMark 9 = .ok (.invokevirtual 186, 3) := by decide +kernel
theorem dX12_crossMark_12 : decode cX12_crossMark 12 = .ok (.iload_n 1, 1) := by decide +kernel
theorem dX12_crossMark_13 : decode cX12_crossMark 13 = .ok (.aload_n 0, 1) := by decide +kernel
theorem dX12_crossMark_14 : decode cX12_crossMark 14 = .ok (.iload_n 1, 1) := by decide +kernel
theorem dX12_crossMark_15 : decode cX12_crossMark 15 = .ok (.invokevirtual 193, 3) := by decide +kernel
theorem dX12_crossMark_18 : decode cX12_crossMark 18 = .ok (.isub, 1) := by decide +kernel
theorem dX12_crossMark_19 : decode cX12_crossMark 19 = .ok (.ireturn, 1) := by decide +kernel
set_option maxRecDepth 20000 in
theorem ggX12_ask_X12_isReader : GoodIn wsX12_ask wsX12_isReader := goodIn_r _ [7, 8, 9, 10, 6, 11, 40, 41, 42, 43, 44, 45, 46, 47, 48, 49, 50, 51, 52, 53, 54, 55, 56, 57, 58, 59, 60] (by decide +kernel) (by decide +kernel)
set_option maxRecDepth 20000 in
theorem gX12_ask_X12_isReader : GoodIn wsX12_ask (wsV RX12 167 RX12 yX12_isReader wsX12_isReader) := goodIn_app (goodIn_of _ (by decide +kernel)) ggX12_ask_X12_isReader
set_option maxRecDepth 20000 in
theorem ggX12_ask_X12_in : GoodIn wsX12_ask wsX12_in := goodIn_r _ [11] (by decide +kernel) (by decide +kernel)
set_option maxRecDepth 20000 in
theorem gX12_ask_X12_in : GoodIn wsX12_ask (va_wsS RX12 50 yX12_in wsX12_in) := goodIn_app (goodIn_of _ (by decide +kernel)) ggX12_ask_X12_in
set_option maxRecDepth 20000 in
theorem ggX12_ask_X12_kindIn : GoodIn wsX12_ask wsX12_kindIn := goodIn_r _ [15, 8, 40, 41, 42, 43, 44, 45, 46, 47, 48, 49, 50, 51, 52, 53, 54, 55, 56, 57, 58, 59, 60] (by decide +kernel) (by decide +kernel)
set_option maxRecDepth 20000 in
theorem gX12_ask_X12_kindIn : GoodIn wsX12_ask (wsV RX12 180 RX12 yX12_kindIn wsX12_kindIn) := goodIn_app (goodIn_of _ (by decide +kernel)) ggX12_ask_X12_kindIn
set_option maxRecDepth 20000 in
theorem ggX12_ask_X12_crossSize : GoodIn wsX12_ask wsX12_crossSize := goodIn_r _ [19, 8, 12, 13, 14, 6, 15, 20, 21, 22, 23, 2, 24, 25, 26, 27, 40, 41, 42, 43, 44, 45, 46, 47, 48, 49, 50, 51, 52, 53, 54, 55, 56, 57, 58, 59, 60] (by decide +kernel) (by decide +kernel)
set_option maxRecDepth 20000 in
theorem gX12_ask_X12_crossSize : GoodIn wsX12_ask (wsV RX12 193 RX12 yX12_crossSize wsX12_crossSize) := goodIn_app (goodIn_of _ (by decide +kernel)) ggX12_ask_X12_crossSize
set_option maxRecDepth 20000 in
theorem ggX12_ask_X12_proudSize : GoodIn wsX12_ask wsX12_proudSize := goodIn_r _ [31, 8, 12, 13, 14, 6, 15, 20, 21, 22, 23, 2, 24, 25, 26, 27, 32, 33, 34, 35, 40, 41, 42, 43, 44, 45, 46, 47, 48, 49, 50, 51, 52, 53, 54, 55, 56, 57, 58, 59, 60] (by decide +kernel) (by decide +kernel)
set_option maxRecDepth 20000 in
theorem gX12_ask_X12_proudSize : GoodIn wsX12_ask (wsV RX12 196 RX12 yX12_proudSize wsX12_proudSize) := goodIn_app (goodIn_of _ (by decide +kernel)) ggX12_ask_X12_proudSize
set_option maxRecDepth 20000 in
theorem ggX12_ask_X12_crossMark : GoodIn wsX12_ask wsX12_crossMark := goodIn_r _ [39, 20, 21, 22, 6, 23, 2, 24, 16, 17, 18, 19, 8, 12, 13, 14, 15, 25, 26, 27, 40, 41, 42, 43, 44, 45, 46, 47, 48, 49, 50, 51, 52, 53, 54, 55, 56, 57, 58, 59, 60] (by decide +kernel) (by decide +kernel)
set_option maxRecDepth 20000 in
theorem gX12_ask_X12_crossMark : GoodIn wsX12_ask (wsV RX12 199 RX12 yX12_crossMark wsX12_crossMark) := goodIn_app (goodIn_of _ (by decide +kernel)) ggX12_ask_X12_crossMark
set_option maxRecDepth 20000 in
theorem ggX12_ask_X12_proudMark : GoodIn wsX12_ask wsX12_proudMark := goodIn_r _ [35, 8, 12, 13, 14, 6, 15, 20, 21, 22, 23, 2, 24, 25, 26, 27, 40, 41, 42, 43, 44, 45, 46, 47, 48, 49, 50, 51, 52, 53, 54, 55, 56, 57, 58, 59, 60] (by decide +kernel) (by decide +kernel)
set_option maxRecDepth 20000 in
theorem gX12_ask_X12_proudMark : GoodIn wsX12_ask (wsV RX12 190 RX12 yX12_proudMark wsX12_proudMark) := goodIn_app (goodIn_of _ (by decide +kernel)) ggX12_ask_X12_proudMark
theorem dX12_ask_0 : decode cX12_ask 0 = .ok (.aload_n 0, 1) := by decide +kernel
theorem dX12_ask_1 : decode cX12_ask 1 = .ok (.iload_n 1, 1) := by decide +kernel
theorem dX12_ask_2 : decode cX12_ask 2 = .ok (.invokevirtual 167, 3) := by decide +kernel
theorem dX12_ask_5 : decode cX12_ask 5 = .ok (.ifCond .eq 12, 3) := by decide +kernel
theorem dX12_ask_8 : decode cX12_ask 8 = .ok (.iload_n 2, 1) := by decide +kernel
theorem dX12_ask_9 : decode cX12_ask 9 = .ok (.iconst 0, 1) := by decide +kernel
theorem dX12_ask_10 : decode cX12_ask 10 = .ok (.iconst 1, 1) := by decide +kernel
theorem dX12_ask_11 : decode cX12_ask 11 = .ok (.invokestatic 50, 3) := by decide +kernel
theorem dX12_ask_14 : decode cX12_ask 14 = .ok (.ifCond .ne 6, 3) := by decide +kernel
theorem dX12_ask_17 : decode cX12_ask 17 = .ok (.ldc 58, 2) := by decide +kernel
theorem dX12_ask_19 : decode cX12_ask 19 = .ok (.ireturn, 1) := by decide +kernel
theorem dX12_ask_20 : decode cX12_ask 20 = .ok (.aload_n 0, 1) := by decide +kernel
theorem dX12_ask_21 : decode cX12_ask 21 = .ok (.iconst 0, 1) := by decide +kernel
theorem dX12_ask_22 : decode cX12_ask 22 = .ok (.putfield 183, 3) := by decide +kernel
theorem dX12_ask_25 : decode cX12_ask 25 = .ok (.aload_n 0, 1) := by decide +kernel
theorem dX12_ask_26 : decode cX12_ask 26 = .ok (.iload_n 1, 1) := by decide +kernel
theorem dX12_ask_27 : decode cX12_ask 27 = .ok (.invokevirtual 180, 3) := by decide +kernel
theorem dX12_ask_30 : decode cX12_ask 30 = .ok (.iconst 4, 1) := by decide +kernel
theorem dX12_ask_31 : decode cX12_ask 31 = .ok (.if_icmp .lt 7, 3) := by decide +kernel
theorem dX12_ask_34 : decode cX12_ask 34 = .ok (.iconst 1, 1) := by decide +kernel
theorem dX12_ask_35 : decode cX12_ask 35 = .ok (.goto 4, 3) := by decide +kernel
theorem dX12_ask_38 : decode cX12_ask 38 = .ok (.iconst 0, 1) := by decide +kernel
theorem dX12_ask_39 : decode cX12_ask 39 = .ok (.istore_n 3, 1) := by decide +kernel
theorem dX12_ask_40 : decode cX12_ask 40 = .ok (.iload_n 2, 1) := by decide +kernel
theorem dX12_ask_41 : decode cX12_ask 41 = .ok (.ifCond .ne 21, 3) := by decide +kernel
theorem dX12_ask_44 : decode cX12_ask 44 = .ok (.iload_n 3, 1) := by decide +kernel
theorem dX12_ask_45 : decode cX12_ask 45 = .ok (.ifCond .eq 11, 3) := by decide +kernel
theorem dX12_ask_48 : decode cX12_ask 48 = .ok (.aload_n 0, 1) := by decide +kernel
theorem dX12_ask_49 : decode cX12_ask 49 = .ok (.iload_n 1, 1) := by decide +kernel
theorem dX12_ask_50 : decode cX12_ask 50 = .ok (.invokevirtual 193, 3) := by decide +kernel
theorem dX12_ask_53 : decode cX12_ask 53 = .ok (.goto 8, 3) := by decide +kernel
theorem dX12_ask_56 : decode cX12_ask 56 = .ok (.aload_n 0, 1) := by decide +kernel
theorem dX12_ask_57 : decode cX12_ask 57 = .ok (.iload_n 1, 1) := by decide +kernel
theorem dX12_ask_58 : decode cX12_ask 58 = .ok (.invokevirtual 196, 3) := by decide +kernel
theorem dX12_ask_61 : decode cX12_ask 61 = .ok (.ireturn, 1) := by decide +kernel
theorem dX12_ask_62 : decode cX12_ask 62 = .ok (.iload_n 3, 1) := by decide +kernel
theorem dX12_ask_63 : decode cX12_ask 63 = .ok (.ifCond .eq 11, 3) := by decide +kernel
theorem dX12_ask_66 : decode cX12_ask 66 = .ok (.aload_n 0, 1) := by decide +kernel
theorem dX12_ask_67 : decode cX12_ask 67 = .ok (.iload_n 1, 1) := by decide +kernel
theorem dX12_ask_68 : decode cX12_ask 68 = .ok (.invokevirtual 199, 3) := by decide +kernel
theorem dX12_ask_71 : decode cX12_ask 71 = .ok (.goto 8, 3) := by decide +kernel
theorem dX12_ask_74 : decode cX12_ask 74 = .ok (.aload_n 0, 1) := by decide +kernel
theorem dX12_ask_75 : decode cX12_ask 75 = .ok (.iload_n 1, 1) := by decide +kernel
theorem dX12_ask_76 : decode cX12_ask 76 = .ok (.invokevirtual 190, 3) := by decide +kernel
theorem dX12_ask_79 : decode cX12_ask 79 = .ok (.ireturn, 1) := by decide +kernel
set_option maxRecDepth 20000 in
theorem ggX12_trace_X12_in : GoodIn wsX12_trace wsX12_in := goodIn_r _ [7] (by decide +kernel) (by decide +kernel)
set_option maxRecDepth 20000 in
theorem gX12_trace_X12_in : GoodIn wsX12_trace (va_wsS RX12 50 yX12_in wsX12_in) := goodIn_app (goodIn_of _ (by decide +kernel)) ggX12_trace_X12_in
theorem dX12_trace_0 : decode cX12_trace 0 = .ok (.iload_n 1, 1) := by decide +kernel
theorem dX12_trace_1 : decode cX12_trace 1 = .ok (.iconst 0, 1) := by decide +kernel
theorem dX12_trace_2 : decode cX12_trace 2 = .ok (.aload_n 0, 1) := by decide +kernel
theorem dX12_trace_3 : decode cX12_trace 3 = .ok (.getfield 183, 3) := by decide +kernel
theorem dX12_trace_6 : decode cX12_trace 6 = .ok (.iconst 1, 1) := by decide +kernel
theorem dX12_trace_7 : decode cX12_trace 7 = .ok (.isub, 1) := by decide +kernel
theorem dX12_trace_8 : decode cX12_trace 8 = .ok (.invokestatic 50, 3) := by decide +kernel
theorem dX12_trace_11 : decode cX12_trace 11 = .ok (.ifCond .eq 12, 3) := by decide +kernel
theorem dX12_trace_14 : decode cX12_trace 14 = .ok (.aload_n 0, 1) := by decide +kernel
theorem dX12_trace_15 : decode cX12_trace 15 = .ok (.getfield 41, 3) := by decide +kernel
theorem dX12_trace_18 : decode cX12_trace 18 = .ok (.iload_n 1, 1) := by decide +kernel
theorem dX12_trace_19 : decode cX12_trace 19 = .ok (.iaload, 1) := by decide +kernel
theorem dX12_trace_20 : decode cX12_trace 20 = .ok (.goto 5, 3) := by decide +kernel
theorem dX12_trace_23 : decode cX12_trace 23 = .ok (.ldc 44, 2) := by decide +kernel
theorem dX12_trace_25 : decode cX12_trace 25 = .ok (.ireturn, 1) := by decide +kernel
set_option maxRecDepth 20000 in
theorem ggX12_count_X12_isMissing : GoodIn wsX12_count wsX12_isMissing := goodIn_r _ [9, 10, 11, 44, 45, 46, 47, 48, 49, 50, 51, 52, 53, 54, 55, 56, 57, 58, 59, 60, 61, 62, 63, 64] (by decide +kernel) (by decide +kernel)
set_option maxRecDepth 20000 in
theorem gX12_count_X12_isMissing : GoodIn wsX12_count (wsV RX12 66 RX12 yX12_isMissing wsX12_isMissing) := goodIn_app (goodIn_of _ (by decide +kernel)) ggX12_count_X12_isMissing
set_option maxRecDepth 20000 in
theorem ggX12_count_X12_living : GoodIn wsX12_count wsX12_living := goodIn_r _ [15, 1, 16, 17, 18, 8, 19, 44, 45, 46, 47, 48, 49, 50, 51, 52, 53, 54, 55, 56, 57, 58, 59, 60, 61, 62, 63, 64] (by decide +kernel) (by decide +kernel)
set_option maxRecDepth 20000 in
theorem gX12_count_X12_living : GoodIn wsX12_count (wsV RX12 163 RX12 yX12_living wsX12_living) := goodIn_app (goodIn_of _ (by decide +kernel)) ggX12_count_X12_living
set_option maxRecDepth 20000 in
theorem ggX12_count_X12_ones : GoodIn wsX12_count wsX12_ones := goodIn_r _ [22] (by decide +kernel) (by decide +kernel)
set_option maxRecDepth 20000 in
theorem gX12_count_X12_ones : GoodIn wsX12_count (va_wsS RX12 139 yX12_ones wsX12_ones) := goodIn_app (goodIn_of _ (by decide +kernel)) ggX12_count_X12_ones
set_option maxRecDepth 20000 in
theorem ggX12_count_X12_falseIn : GoodIn wsX12_count wsX12_falseIn := goodIn_r _ [26, 1, 27, 28, 29, 8, 30, 31, 32, 33, 34, 35, 36, 37, 38, 39, 40, 41, 42, 43, 20, 21, 22, 44, 45, 46, 47, 48, 49, 50, 51, 52, 53, 54, 55, 56, 57, 58, 59, 60, 61, 62, 63, 64] (by decide +kernel) (by decide +kernel)
set_option maxRecDepth 20000 in
theorem gX12_count_X12_falseIn : GoodIn wsX12_count (wsV RX12 170 RX12 yX12_falseIn wsX12_falseIn) := goodIn_app (goodIn_of _ (by decide +kernel)) ggX12_count_X12_falseIn
theorem dX12_count_0 : decode cX12_count 0 = .ok (.iconst 0, 1) := by decide +kernel
theorem dX12_count_1 : decode cX12_count 1 = .ok (.istore_n 2, 1) := by decide +kernel
theorem dX12_count_2 : decode cX12_count 2 = .ok (.iload_n 1, 1) := by decide +kernel
theorem dX12_count_3 : decode cX12_count 3 = .ok (.tableswitch 153 0 7 #[45, 77, 84, 92, 99, 106, 143, 148], 45) := by decide +kernel
theorem dX12_count_48 : decode cX12_count 48 = .ok (.iconst 0, 1) := by decide +kernel
theorem dX12_count_49 : decode cX12_count 49 = .ok (.istore_n 3, 1) := by decide +kernel
theorem dX12_count_50 : decode cX12_count 50 = .ok (.iload_n 3, 1) := by decide +kernel
theorem dX12_count_51 : decode cX12_count 51 = .ok (.bipush 8, 2) := by decide +kernel
theorem dX12_count_53 : decode cX12_count 53 = .ok (.if_icmp .ge 25, 3) := by decide +kernel
theorem dX12_count_56 : decode cX12_count 56 = .ok (.iload_n 2, 1) := by decide +kernel
theorem dX12_count_57 : decode cX12_count 57 = .ok (.aload_n 0, 1) := by decide +kernel
theorem dX12_count_58 : decode cX12_count 58 = .ok (.iload_n 3, 1) := by decide +kernel
theorem dX12_count_59 : decode cX12_count 59 = .ok (.invokevirtual 66, 3) := by decide +kernel
theorem dX12_count_62 : decode cX12_count 62 = .ok (.ifCond .eq 7, 3) := by decide +kernel
theorem dX12_count_65 : decode cX12_count 65 = .ok (.iconst 0, 1) := by decide +kernel
theorem dX12_count_66 : decode cX12_count 66 = .ok (.goto 4, 3) := by decide +kernel
theorem dX12_count_69 : decode cX12_count 69 = .ok (.iconst 1, 1) := by decide +kernel
theorem dX12_count_70 : decode cX12_count 70 = .ok (.iadd, 1) := by decide +kernel
theorem dX12_count_71 : decode cX12_count 71 = .ok (.istore_n 2, 1) := by decide +kernel
theorem dX12_count_72 : decode cX12_count 72 = .ok (.iinc 3 1, 3) := by decide +kernel
theorem dX12_count_75 : decode cX12_count 75 = .ok (.goto (-25), 3) := by decide +kernel
theorem dX12_count_78 : decode cX12_count 78 = .ok (.iload_n 2, 1) := by decide +kernel
theorem dX12_count_79 : decode cX12_count 79 = .ok (.ireturn, 1) := by decide +kernel
theorem dX12_count_80 : decode cX12_count 80 = .ok (.aload_n 0, 1) := by decide +kernel
theorem dX12_count_81 : decode cX12_count 81 = .ok (.getfield 25, 3) := by decide +kernel
theorem dX12_count_84 : decode cX12_count 84 = .ok (.iconst 3, 1) := by decide +kernel
theorem dX12_count_85 : decode cX12_count 85 = .ok (.iaload, 1) := by decide +kernel
theorem dX12_count_86 : decode cX12_count 86 = .ok (.ireturn, 1) := by decide +kernel
theorem dX12_count_87 : decode cX12_count 87 = .ok (.aload_n 0, 1) := by decide +kernel
theorem dX12_count_88 : decode cX12_count 88 = .ok (.invokevirtual 163, 3) := by decide +kernel
theorem dX12_count_91 : decode cX12_count 91 = .ok (.invokestatic 139, 3) := by decide +kernel
theorem dX12_count_94 : decode cX12_count 94 = .ok (.ireturn, 1) := by decide +kernel
theorem dX12_count_95 : decode cX12_count 95 = .ok (.aload_n 0, 1) := by decide +kernel
theorem dX12_count_96 : decode cX12_count 96 = .ok (.getfield 25, 3) := by decide +kernel
theorem dX12_count_99 : decode cX12_count 99 = .ok (.iconst 2, 1) := by decide +kernel
theorem dX12_count_100 : decode cX12_count 100 = .ok (.iaload, 1) := by decide +kernel
theorem dX12_count_101 : decode cX12_count 101 = .ok (.ireturn, 1) := by decide +kernel
theorem dX12_count_102 : decode cX12_count 102 = .ok (.aload_n 0, 1) := by decide +kernel
theorem dX12_count_103 : decode cX12_count 103 = .ok (.getfield 25, 3) := by decide +kernel
theorem dX12_count_106 : decode cX12_count 106 = .ok (.iconst 1, 1) := by decide +kernel
theorem dX12_count_107 : decode cX12_count 107 = .ok (.iaload, 1) := by decide +kernel
theorem dX12_count_108 : decode cX12_count 108 = .ok (.ireturn, 1) := by decide +kernel
theorem dX12_count_109 : decode cX12_count 109 = .ok (.iconst 0, 1) := by decide +kernel
theorem dX12_count_110 : decode cX12_count 110 = .ok (.istore_n 3, 1) := by decide +kernel
theorem dX12_count_111 : decode cX12_count 111 = .ok (.iload_n 3, 1) := by decide +kernel
theorem dX12_count_112 : decode cX12_count 112 = .ok (.aload_n 0, 1) := by decide +kernel
theorem dX12_count_113 : decode cX12_count 113 = .ok (.getfield 25, 3) := by decide +kernel
theorem dX12_count_116 : decode cX12_count 116 = .ok (.iconst 3, 1) := by decide +kernel
theorem dX12_count_117 : decode cX12_count 117 = .ok (.iaload, 1) := by decide +kernel
theorem dX12_count_118 : decode cX12_count 118 = .ok (.if_icmp .ge 26, 3) := by decide +kernel
theorem dX12_count_121 : decode cX12_count 121 = .ok (.iload_n 2, 1) := by decide +kernel
theorem dX12_count_122 : decode cX12_count 122 = .ok (.aload_n 0, 1) := by decide +kernel
theorem dX12_count_123 : decode cX12_count 123 = .ok (.iload_n 3, 1) := by decide +kernel
theorem dX12_count_124 : decode cX12_count 124 = .ok (.iconst 0, 1) := by decide +kernel
theorem dX12_count_125 : decode cX12_count 125 = .ok (.invokevirtual 170, 3) := by decide +kernel
theorem dX12_count_128 : decode cX12_count 128 = .ok (.ifCond .ne 7, 3) := by decide +kernel
theorem dX12_count_131 : decode cX12_count 131 = .ok (.iconst 1, 1) := by decide +kernel
theorem dX12_count_132 : decode cX12_count 132 = .ok (.goto 4, 3) := by decide +kernel
theorem dX12_count_135 : decode cX12_count 135 = .ok (.iconst 0, 1) := by decide +kernel
theorem dX12_count_136 : decode cX12_count 136 = .ok (.iadd, 1) := by decide +kernel
theorem dX12_count_137 : decode cX12_count 137 = .ok (.istore_n 2, 1) := by decide +kernel
theorem dX12_count_138 : decode cX12_count 138 = .ok (.iinc 3 1, 3) := by decide +kernel
theorem dX12_count_141 : decode cX12_count 141 = .ok (.goto (-30), 3) := by decide +kernel
theorem dX12_count_144 : decode cX12_count 144 = .ok (.iload_n 2, 1) := by decide +kernel
theorem dX12_count_145 : decode cX12_count 145 = .ok (.ireturn, 1) := by decide +kernel
theorem dX12_count_146 : decode cX12_count 146 = .ok (.aload_n 0, 1) := by decide +kernel
theorem dX12_count_147 : decode cX12_count 147 = .ok (.getfield 129, 3) := by decide +kernel
theorem dX12_count_150 : decode cX12_count 150 = .ok (.ireturn, 1) := by decide +kernel
theorem dX12_count_151 : decode cX12_count 151 = .ok (.aload_n 0, 1) := by decide +kernel
theorem dX12_count_152 : decode cX12_count 152 = .ok (.getfield 76, 3) := by decide +kernel
theorem dX12_count_155 : decode cX12_count 155 = .ok (.ireturn, 1) := by decide +kernel
theorem dX12_count_156 : decode cX12_count 156 = .ok (.ldc 58, 2) := by decide +kernel
theorem dX12_count_158 : decode cX12_count 158 = .ok (.ireturn, 1) := by decide +kernel
theorem dX12_status_0 : decode cX12_status 0 = .ok (.aload_n 0, 1) := by decide +kernel
theorem dX12_status_1 : decode cX12_status 1 = .ok (.getfield 45, 3) := by decide +kernel
theorem dX12_status_4 : decode cX12_status 4 = .ok (.ireturn, 1) := by decide +kernel
theorem dJ6_bitCount_0f7a4_0 : decode cJ6_bitCount_0f7a4 0 = .ok (.iload_n 0, 1) := by decide +kernel
theorem dJ6_bitCount_0f7a4_1 : decode cJ6_bitCount_0f7a4 1 = .ok (.iload_n 0, 1) := by decide +kernel
theorem dJ6_bitCount_0f7a4_2 : decode cJ6_bitCount_0f7a4 2 = .ok (.iconst 1, 1) := by decide +kernel
theorem dJ6_bitCount_0f7a4_3 : decode cJ6_bitCount_0f7a4 3 = .ok (.iushr, 1) := by decide +kernel
theorem dJ6_bitCount_0f7a4_4 : decode cJ6_bitCount_0f7a4 4 = .ok (.ldc_w 265, 3) := by decide +kernel
theorem dJ6_bitCount_0f7a4_7 : decode cJ6_bitCount_0f7a4 7 = .ok (.iand, 1) := by decide +kernel
theorem dJ6_bitCount_0f7a4_8 : decode cJ6_bitCount_0f7a4 8 = .ok (.isub, 1) := by decide +kernel
theorem dJ6_bitCount_0f7a4_9 : decode cJ6_bitCount_0f7a4 9 = .ok (.istore_n 0, 1) := by decide +kernel
theorem dJ6_bitCount_0f7a4_10 : decode cJ6_bitCount_0f7a4 10 = .ok (.iload_n 0, 1) := by decide +kernel
theorem dJ6_bitCount_0f7a4_11 : decode cJ6_bitCount_0f7a4 11 = .ok (.ldc_w 266, 3) := by decide +kernel
theorem dJ6_bitCount_0f7a4_14 : decode cJ6_bitCount_0f7a4 14 = .ok (.iand, 1) := by decide +kernel
theorem dJ6_bitCount_0f7a4_15 : decode cJ6_bitCount_0f7a4 15 = .ok (.iload_n 0, 1) := by decide +kernel
theorem dJ6_bitCount_0f7a4_16 : decode cJ6_bitCount_0f7a4 16 = .ok (.iconst 2, 1) := by decide +kernel
theorem dJ6_bitCount_0f7a4_17 : decode cJ6_bitCount_0f7a4 17 = .ok (.iushr, 1) := by decide +kernel
theorem dJ6_bitCount_0f7a4_18 : decode cJ6_bitCount_0f7a4 18 = .ok (.ldc_w 266, 3) := by decide +kernel
theorem dJ6_bitCount_0f7a4_21 : decode cJ6_bitCount_0f7a4 21 = .ok (.iand, 1) := by decide +kernel
theorem dJ6_bitCount_0f7a4_22 : decode cJ6_bitCount_0f7a4 22 = .ok (.iadd, 1) := by decide +kernel
theorem dJ6_bitCount_0f7a4_23 : decode cJ6_bitCount_0f7a4 23 = .ok (.istore_n 0, 1) := by decide +kernel
theorem dJ6_bitCount_0f7a4_24 : decode cJ6_bitCount_0f7a4 24 = .ok (.iload_n 0, 1) := by decide +kernel
theorem dJ6_bitCount_0f7a4_25 : decode cJ6_bitCount_0f7a4 25 = .ok (.iload_n 0, 1) := by decide +kernel
theorem dJ6_bitCount_0f7a4_26 : decode cJ6_bitCount_0f7a4 26 = .ok (.iconst 4, 1) := by decide +kernel
theorem dJ6_bitCount_0f7a4_27 : decode cJ6_bitCount_0f7a4 27 = .ok (.iushr, 1) := by decide +kernel
theorem dJ6_bitCount_0f7a4_28 : decode cJ6_bitCount_0f7a4 28 = .ok (.iadd, 1) := by decide +kernel
theorem dJ6_bitCount_0f7a4_29 : decode cJ6_bitCount_0f7a4 29 = .ok (.ldc_w 267, 3) := by decide +kernel
theorem dJ6_bitCount_0f7a4_32 : decode cJ6_bitCount_0f7a4 32 = .ok (.iand, 1) := by decide +kernel
theorem dJ6_bitCount_0f7a4_33 : decode cJ6_bitCount_0f7a4 33 = .ok (.istore_n 0, 1) := by decide +kernel
theorem dJ6_bitCount_0f7a4_34 : decode cJ6_bitCount_0f7a4 34 = .ok (.iload_n 0, 1) := by decide +kernel
theorem dJ6_bitCount_0f7a4_35 : decode cJ6_bitCount_0f7a4 35 = .ok (.iload_n 0, 1) := by decide +kernel
theorem dJ6_bitCount_0f7a4_36 : decode cJ6_bitCount_0f7a4 36 = .ok (.bipush 8, 2) := by decide +kernel
theorem dJ6_bitCount_0f7a4_38 : decode cJ6_bitCount_0f7a4 38 = .ok (.iushr, 1) := by decide +kernel
theorem dJ6_bitCount_0f7a4_39 : decode cJ6_bitCount_0f7a4 39 = .ok (.iadd, 1) := by decide +kernel
theorem dJ6_bitCount_0f7a4_40 : decode cJ6_bitCount_0f7a4 40 = .ok (.istore_n 0, 1) := by decide +kernel
theorem dJ6_bitCount_0f7a4_41 : decode cJ6_bitCount_0f7a4 41 = .ok (.iload_n 0, 1) := by decide +kernel
theorem dJ6_bitCount_0f7a4_42 : decode cJ6_bitCount_0f7a4 42 = .ok (.iload_n 0, 1) := by decide +kernel
theorem dJ6_bitCount_0f7a4_43 : decode cJ6_bitCount_0f7a4 43 = .ok (.bipush 16, 2) := by decide +kernel
theorem dJ6_bitCount_0f7a4_45 : decode cJ6_bitCount_0f7a4 45 = .ok (.iushr, 1) := by decide +kernel
theorem dJ6_bitCount_0f7a4_46 : decode cJ6_bitCount_0f7a4 46 = .ok (.iadd, 1) := by decide +kernel
theorem dJ6_bitCount_0f7a4_47 : decode cJ6_bitCount_0f7a4 47 = .ok (.istore_n 0, 1) := by decide +kernel
theorem dJ6_bitCount_0f7a4_48 : decode cJ6_bitCount_0f7a4 48 = .ok (.iload_n 0, 1) := by decide +kernel
theorem dJ6_bitCount_0f7a4_49 : decode cJ6_bitCount_0f7a4 49 = .ok (.bipush 63, 2) := by decide +kernel
theorem dJ6_bitCount_0f7a4_51 : decode cJ6_bitCount_0f7a4 51 = .ok (.iand, 1) := by decide +kernel
theorem dJ6_bitCount_0f7a4_52 : decode cJ6_bitCount_0f7a4 52 = .ok (.ireturn, 1) := by decide +kernel
theorem dJ9_min_7cf53_0 : decode cJ9_min_7cf53 0 = .ok (.iload_n 0, 1) := by decide +kernel
theorem dJ9_min_7cf53_1 : decode cJ9_min_7cf53 1 = .ok (.iload_n 1, 1) := by decide +kernel
theorem dJ9_min_7cf53_2 : decode cJ9_min_7cf53 2 = .ok (.if_icmp .gt 7, 3) := by decide +kernel
theorem dJ9_min_7cf53_5 : decode cJ9_min_7cf53 5 = .ok (.iload_n 0, 1) := by decide +kernel
theorem dJ9_min_7cf53_6 : decode cJ9_min_7cf53 6 = .ok (.goto 4, 3) := by decide +kernel
theorem dJ9_min_7cf53_9 : decode cJ9_min_7cf53 9 = .ok (.iload_n 1, 1) := by decide +kernel
theorem dJ9_min_7cf53_10 : decode cJ9_min_7cf53 10 = .ok (.ireturn, 1) := by decide +kernel
abbrev vwCl : List vw_C := [(RX0, TX0, 0), (RX1, TX1, 0), (RX2, TX2, 7), (RX3, TX3, 0), (RX4, TX4, 3), (RX5, TX5, 0), (RX6, TX6, 5), (RX8, TX8, 8), (RX9, TX9, 2), (RX10, TX10, 0), (RX11, TX11, 11), (RX12, TX12, 21)]
