theorem dX7_in_0 : decode cX7_in 0 = .ok (.lload_n 0, 1) := by decide +kernel
theorem dX7_in_1 : decode cX7_in 1 = .ok (.lload_n 2, 1) := by decide +kernel
theorem dX7_in_2 : decode cX7_in 2 = .ok (.lcmp, 1) := by decide +kernel
theorem dX7_in_3 : decode cX7_in 3 = .ok (.ifCond .lt 14, 3) := by decide +kernel
theorem dX7_in_6 : decode cX7_in 6 = .ok (.lload_n 0, 1) := by decide +kernel
theorem dX7_in_7 : decode cX7_in 7 = .ok (.lload 4, 2) := by decide +kernel
theorem dX7_in_9 : decode cX7_in 9 = .ok (.lcmp, 1) := by decide +kernel
theorem dX7_in_10 : decode cX7_in 10 = .ok (.ifCond .gt 7, 3) := by decide +kernel
theorem dX7_in_13 : decode cX7_in 13 = .ok (.iconst 1, 1) := by decide +kernel
theorem dX7_in_14 : decode cX7_in 14 = .ok (.goto 4, 3) := by decide +kernel
theorem dX7_in_17 : decode cX7_in 17 = .ok (.iconst 0, 1) := by decide +kernel
theorem dX7_in_18 : decode cX7_in 18 = .ok (.ireturn, 1) := by decide +kernel
theorem dX7_init_0 : decode cX7_init 0 = .ok (.aload_n 0, 1) := by decide +kernel
theorem dX7_init_1 : decode cX7_init 1 = .ok (.invokespecial 1, 3) := by decide +kernel
theorem dX7_init_4 : decode cX7_init 4 = .ok (.aload_n 0, 1) := by decide +kernel
theorem dX7_init_5 : decode cX7_init 5 = .ok (.bipush 6, 2) := by decide +kernel
theorem dX7_init_7 : decode cX7_init 7 = .ok (.newarray .int, 2) := by decide +kernel
theorem dX7_init_9 : decode cX7_init 9 = .ok (.putfield 7, 3) := by decide +kernel
theorem dX7_init_12 : decode cX7_init 12 = .ok (.aload_n 0, 1) := by decide +kernel
theorem dX7_init_13 : decode cX7_init 13 = .ok (.ldc 13, 2) := by decide +kernel
theorem dX7_init_15 : decode cX7_init 15 = .ok (.putfield 14, 3) := by decide +kernel
theorem dX7_init_18 : decode cX7_init 18 = .ok (.aload_n 0, 1) := by decide +kernel
theorem dX7_init_19 : decode cX7_init 19 = .ok (.bipush 24, 2) := by decide +kernel
theorem dX7_init_21 : decode cX7_init 21 = .ok (.newarray .int, 2) := by decide +kernel
theorem dX7_init_23 : decode cX7_init 23 = .ok (.putfield 18, 3) := by decide +kernel
theorem dX7_init_26 : decode cX7_init 26 = .ok (.aload_n 0, 1) := by decide +kernel
theorem dX7_init_27 : decode cX7_init 27 = .ok (.bipush 24, 2) := by decide +kernel
theorem dX7_init_29 : decode cX7_init 29 = .ok (.newarray .int, 2) := by decide +kernel
theorem dX7_init_31 : decode cX7_init 31 = .ok (.putfield 21, 3) := by decide +kernel
theorem dX7_init_34 : decode cX7_init 34 = .ok (.aload_n 0, 1) := by decide +kernel
theorem dX7_init_35 : decode cX7_init 35 = .ok (.bipush 24, 2) := by decide +kernel
theorem dX7_init_37 : decode cX7_init 37 = .ok (.newarray .int, 2) := by decide +kernel
theorem dX7_init_39 : decode cX7_init 39 = .ok (.putfield 24, 3) := by decide +kernel
theorem dX7_init_42 : decode cX7_init 42 = .ok (.aload_n 0, 1) := by decide +kernel
theorem dX7_init_43 : decode cX7_init 43 = .ok (.bipush 96, 2) := by decide +kernel
theorem dX7_init_45 : decode cX7_init 45 = .ok (.newarray .int, 2) := by decide +kernel
theorem dX7_init_47 : decode cX7_init 47 = .ok (.putfield 27, 3) := by decide +kernel
theorem dX7_init_50 : decode cX7_init 50 = .ok (.aload_n 0, 1) := by decide +kernel
theorem dX7_init_51 : decode cX7_init 51 = .ok (.bipush 8, 2) := by decide +kernel
theorem dX7_init_53 : decode cX7_init 53 = .ok (.newarray .int, 2) := by decide +kernel
theorem dX7_init_55 : decode cX7_init 55 = .ok (.putfield 30, 3) := by decide +kernel
theorem dX7_init_58 : decode cX7_init 58 = .ok (.aload_n 0, 1) := by decide +kernel
theorem dX7_init_59 : decode cX7_init 59 = .ok (.bipush 8, 2) := by decide +kernel
theorem dX7_init_61 : decode cX7_init 61 = .ok (.newarray .int, 2) := by decide +kernel
theorem dX7_init_63 : decode cX7_init 63 = .ok (.putfield 33, 3) := by decide +kernel
theorem dX7_init_66 : decode cX7_init 66 = .ok (.aload_n 0, 1) := by decide +kernel
theorem dX7_init_67 : decode cX7_init 67 = .ok (.bipush 8, 2) := by decide +kernel
theorem dX7_init_69 : decode cX7_init 69 = .ok (.newarray .int, 2) := by decide +kernel
theorem dX7_init_71 : decode cX7_init 71 = .ok (.putfield 36, 3) := by decide +kernel
theorem dX7_init_74 : decode cX7_init 74 = .ok (.aload_n 0, 1) := by decide +kernel
theorem dX7_init_75 : decode cX7_init 75 = .ok (.bipush 8, 2) := by decide +kernel
theorem dX7_init_77 : decode cX7_init 77 = .ok (.newarray .int, 2) := by decide +kernel
theorem dX7_init_79 : decode cX7_init 79 = .ok (.putfield 39, 3) := by decide +kernel
theorem dX7_init_82 : decode cX7_init 82 = .ok (.aload_n 0, 1) := by decide +kernel
theorem dX7_init_83 : decode cX7_init 83 = .ok (.bipush 8, 2) := by decide +kernel
theorem dX7_init_85 : decode cX7_init 85 = .ok (.newarray .int, 2) := by decide +kernel
theorem dX7_init_87 : decode cX7_init 87 = .ok (.putfield 42, 3) := by decide +kernel
theorem dX7_init_90 : decode cX7_init 90 = .ok (.aload_n 0, 1) := by decide +kernel
theorem dX7_init_91 : decode cX7_init 91 = .ok (.bipush 8, 2) := by decide +kernel
theorem dX7_init_93 : decode cX7_init 93 = .ok (.newarray .int, 2) := by decide +kernel
theorem dX7_init_95 : decode cX7_init 95 = .ok (.putfield 45, 3) := by decide +kernel
theorem dX7_init_98 : decode cX7_init 98 = .ok (.aload_n 0, 1) := by decide +kernel
theorem dX7_init_99 : decode cX7_init 99 = .ok (.bipush 8, 2) := by decide +kernel
theorem dX7_init_101 : decode cX7_init 101 = .ok (.newarray .long, 2) := by decide +kernel
theorem dX7_init_103 : decode cX7_init 103 = .ok (.putfield 48, 3) := by decide +kernel
theorem dX7_init_106 : decode cX7_init 106 = .ok (.aload_n 0, 1) := by decide +kernel
theorem dX7_init_107 : decode cX7_init 107 = .ok (.bipush 8, 2) := by decide +kernel
theorem dX7_init_109 : decode cX7_init 109 = .ok (.newarray .long, 2) := by decide +kernel
theorem dX7_init_111 : decode cX7_init 111 = .ok (.putfield 52, 3) := by decide +kernel
theorem dX7_init_114 : decode cX7_init 114 = .ok (.aload_n 0, 1) := by decide +kernel
theorem dX7_init_115 : decode cX7_init 115 = .ok (.bipush 100, 2) := by decide +kernel
theorem dX7_init_117 : decode cX7_init 117 = .ok (.newarray .int, 2) := by decide +kernel
theorem dX7_init_119 : decode cX7_init 119 = .ok (.putfield 55, 3) := by decide +kernel
theorem dX7_init_122 : decode cX7_init 122 = .ok (.aload_n 0, 1) := by decide +kernel
theorem dX7_init_123 : decode cX7_init 123 = .ok (.bipush 56, 2) := by decide +kernel
theorem dX7_init_125 : decode cX7_init 125 = .ok (.newarray .int, 2) := by decide +kernel
theorem dX7_init_127 : decode cX7_init 127 = .ok (.putfield 58, 3) := by decide +kernel
theorem dX7_init_130 : decode cX7_init 130 = .ok (.aload_n 0, 1) := by decide +kernel
theorem dX7_init_131 : decode cX7_init 131 = .ok (.sipush 240, 3) := by decide +kernel
theorem dX7_init_134 : decode cX7_init 134 = .ok (.newarray .int, 2) := by decide +kernel
theorem dX7_init_136 : decode cX7_init 136 = .ok (.putfield 61, 3) := by decide +kernel
theorem dX7_init_139 : decode cX7_init 139 = .ok (.aload_n 0, 1) := by decide +kernel
theorem dX7_init_140 : decode cX7_init 140 = .ok (.bipush 16, 2) := by decide +kernel
theorem dX7_init_142 : decode cX7_init 142 = .ok (.newarray .long, 2) := by decide +kernel
theorem dX7_init_144 : decode cX7_init 144 = .ok (.putfield 64, 3) := by decide +kernel
theorem dX7_init_147 : decode cX7_init 147 = .ok (.aload_n 0, 1) := by decide +kernel
theorem dX7_init_148 : decode cX7_init 148 = .ok (.iconst 4, 1) := by decide +kernel
theorem dX7_init_149 : decode cX7_init 149 = .ok (.newarray .int, 2) := by decide +kernel
theorem dX7_init_151 : decode cX7_init 151 = .ok (.putfield 67, 3) := by decide +kernel
theorem dX7_init_154 : decode cX7_init 154 = .ok (.aload_n 0, 1) := by decide +kernel
theorem dX7_init_155 : decode cX7_init 155 = .ok (.iconst 4, 1) := by decide +kernel
theorem dX7_init_156 : decode cX7_init 156 = .ok (.newarray .int, 2) := by decide +kernel
theorem dX7_init_158 : decode cX7_init 158 = .ok (.putfield 70, 3) := by decide +kernel
theorem dX7_init_161 : decode cX7_init 161 = .ok (.aload_n 0, 1) := by decide +kernel
theorem dX7_init_162 : decode cX7_init 162 = .ok (.bipush 96, 2) := by decide +kernel
theorem dX7_init_164 : decode cX7_init 164 = .ok (.newarray .int, 2) := by decide +kernel
theorem dX7_init_166 : decode cX7_init 166 = .ok (.putfield 73, 3) := by decide +kernel
theorem dX7_init_169 : decode cX7_init 169 = .ok (.aload_n 0, 1) := by decide +kernel
theorem dX7_init_170 : decode cX7_init 170 = .ok (.bipush 24, 2) := by decide +kernel
theorem dX7_init_172 : decode cX7_init 172 = .ok (.newarray .int, 2) := by decide +kernel
theorem dX7_init_174 : decode cX7_init 174 = .ok (.putfield 76, 3) := by decide +kernel
theorem dX7_init_177 : decode cX7_init 177 = .ok (.iconst 0, 1) := by decide +kernel
theorem dX7_init_178 : decode cX7_init 178 = .ok (.istore_n 1, 1) := by decide +kernel
theorem dX7_init_179 : decode cX7_init 179 = .ok (.iload_n 1, 1) := by decide +kernel
theorem dX7_init_180 : decode cX7_init 180 = .ok (.iconst 4, 1) := by decide +kernel
theorem dX7_init_181 : decode cX7_init 181 = .ok (.if_icmp .ge 16, 3) := by decide +kernel
theorem dX7_init_184 : decode cX7_init 184 = .ok (.aload_n 0, 1) := by decide +kernel
theorem dX7_init_185 : decode cX7_init 185 = .ok (.getfield 67, 3) := by decide +kernel
theorem dX7_init_188 : decode cX7_init 188 = .ok (.iload_n 1, 1) := by decide +kernel
theorem dX7_init_189 : decode cX7_init 189 = .ok (.iconst (-1), 1) := by decide +kernel
theorem dX7_init_190 : decode cX7_init 190 = .ok (.iastore, 1) := by decide +kernel
theorem dX7_init_191 : decode cX7_init 191 = .ok (.iinc 1 1, 3) := by decide +kernel
theorem dX7_init_194 : decode cX7_init 194 = .ok (.goto (-15), 3) := by decide +kernel
theorem dX7_init_197 : decode cX7_init 197 = .ok (.iconst 0, 1) := by decide +kernel
theorem dX7_init_198 : decode cX7_init 198 = .ok (.istore_n 1, 1) := by decide +kernel
theorem dX7_init_199 : decode cX7_init 199 = .ok (.iload_n 1, 1) := by decide +kernel
theorem dX7_init_200 : decode cX7_init 200 = .ok (.bipush 6, 2) := by decide +kernel
theorem dX7_init_202 : decode cX7_init 202 = .ok (.if_icmp .ge 16, 3) := by decide +kernel
theorem dX7_init_205 : decode cX7_init 205 = .ok (.aload_n 0, 1) := by decide +kernel
theorem dX7_init_206 : decode cX7_init 206 = .ok (.getfield 7, 3) := by decide +kernel
theorem dX7_init_209 : decode cX7_init 209 = .ok (.iload_n 1, 1) := by decide +kernel
theorem dX7_init_210 : decode cX7_init 210 = .ok (.iconst 1, 1) := by decide +kernel
theorem dX7_init_211 : decode cX7_init 211 = .ok (.iastore, 1) := by decide +kernel
theorem dX7_init_212 : decode cX7_init 212 = .ok (.iinc 1 1, 3) := by decide +kernel
theorem dX7_init_215 : decode cX7_init 215 = .ok (.goto (-16), 3) := by decide +kernel
theorem dX7_init_218 : decode cX7_init 218 = .ok (.iconst 0, 1) := by decide +kernel
theorem dX7_init_219 : decode cX7_init 219 = .ok (.istore_n 1, 1) := by decide +kernel
theorem dX7_init_220 : decode cX7_init 220 = .ok (.iload_n 1, 1) := by decide +kernel
theorem dX7_init_221 : decode cX7_init 221 = .ok (.bipush 8, 2) := by decide +kernel
theorem dX7_init_223 : decode cX7_init 223 = .ok (.if_icmp .ge 43, 3) := by decide +kernel
theorem dX7_init_226 : decode cX7_init 226 = .ok (.aload_n 0, 1) := by decide +kernel
theorem dX7_init_227 : decode cX7_init 227 = .ok (.getfield 39, 3) := by decide +kernel
theorem dX7_init_230 : decode cX7_init 230 = .ok (.iload_n 1, 1) := by decide +kernel
theorem dX7_init_231 : decode cX7_init 231 = .ok (.bipush 9, 2) := by decide +kernel
theorem dX7_init_233 : decode cX7_init 233 = .ok (.iastore, 1) := by decide +kernel
theorem dX7_init_234 : decode cX7_init 234 = .ok (.aload_n 0, 1) := by decide +kernel
theorem dX7_init_235 : decode cX7_init 235 = .ok (.getfield 42, 3) := by decide +kernel
theorem dX7_init_238 : decode cX7_init 238 = .ok (.iload_n 1, 1) := by decide +kernel
theorem dX7_init_239 : decode cX7_init 239 = .ok (.sipush 1000, 3) := by decide +kernel
theorem dX7_init_242 : decode cX7_init 242 = .ok (.iastore, 1) := by decide +kernel
theorem dX7_init_243 : decode cX7_init 243 = .ok (.aload_n 0, 1) := by decide +kernel
theorem dX7_init_244 : decode cX7_init 244 = .ok (.getfield 45, 3) := by decide +kernel
theorem dX7_init_247 : decode cX7_init 247 = .ok (.iload_n 1, 1) := by decide +kernel
theorem dX7_init_248 : decode cX7_init 248 = .ok (.bipush 100, 2) := by decide +kernel
theorem dX7_init_250 : decode cX7_init 250 = .ok (.iastore, 1) := by decide +kernel
theorem dX7_init_251 : decode cX7_init 251 = .ok (.aload_n 0, 1) := by decide +kernel
theorem dX7_init_252 : decode cX7_init 252 = .ok (.getfield 52, 3) := by decide +kernel
theorem dX7_init_255 : decode cX7_init 255 = .ok (.iload_n 1, 1) := by decide +kernel
theorem dX7_init_256 : decode cX7_init 256 = .ok (.ldc2_w 79, 3) := by decide +kernel
theorem dX7_init_259 : decode cX7_init 259 = .ok (.lastore, 1) := by decide +kernel
theorem dX7_init_260 : decode cX7_init 260 = .ok (.iinc 1 1, 3) := by decide +kernel
theorem dX7_init_263 : decode cX7_init 263 = .ok (.goto (-43), 3) := by decide +kernel
theorem dX7_init_266 : decode cX7_init 266 = .ok (.return_, 1) := by decide +kernel
set_option maxRecDepth 20000 in
theorem ggX7_isYear_X7_in : GoodIn wsX7_isYear wsX7_in := goodIn_r _ [5] (by decide +kernel) (by decide +kernel)
set_option maxRecDepth 20000 in
theorem gX7_isYear_X7_in : GoodIn wsX7_isYear (va_wsS RX7 83 yX7_in wsX7_in) := goodIn_app (goodIn_of _ (by decide +kernel)) ggX7_isYear_X7_in
theorem dX7_isYear_0 : decode cX7_isYear 0 = .ok (.iload_n 0, 1) := by decide +kernel
theorem dX7_isYear_1 : decode cX7_isYear 1 = .ok (.i2l, 1) := by decide +kernel
theorem dX7_isYear_2 : decode cX7_isYear 2 = .ok (.lconst 0, 1) := by decide +kernel
theorem dX7_isYear_3 : decode cX7_isYear 3 = .ok (.ldc2_w 81, 3) := by decide +kernel
theorem dX7_isYear_6 : decode cX7_isYear 6 = .ok (.invokestatic 83, 3) := by decide +kernel
theorem dX7_isYear_9 : decode cX7_isYear 9 = .ok (.ireturn, 1) := by decide +kernel
set_option maxRecDepth 20000 in
theorem ggX7_isWill_X7_in : GoodIn wsX7_isWill wsX7_in := goodIn_r _ [5] (by decide +kernel) (by decide +kernel)
set_option maxRecDepth 20000 in
theorem gX7_isWill_X7_in : GoodIn wsX7_isWill (va_wsS RX7 83 yX7_in wsX7_in) := goodIn_app (goodIn_of _ (by decide +kernel)) ggX7_isWill_X7_in
theorem dX7_isWill_0 : decode cX7_isWill 0 = .ok (.iload_n 1, 1) := by decide +kernel
theorem dX7_isWill_1 : decode cX7_isWill 1 = .ok (.i2l, 1) := by decide +kernel
theorem dX7_isWill_2 : decode cX7_isWill 2 = .ok (.lconst 0, 1) := by decide +kernel
theorem dX7_isWill_3 : decode cX7_isWill 3 = .ok (.aload_n 0, 1) := by decide +kernel
theorem dX7_isWill_4 : decode cX7_isWill 4 = .ok (.getfield 87, 3) := by decide +kernel
theorem dX7_isWill_7 : decode cX7_isWill 7 = .ok (.iconst 1, 1) := by decide +kernel
theorem dX7_isWill_8 : decode cX7_isWill 8 = .ok (.isub, 1) := by decide +kernel
theorem dX7_isWill_9 : decode cX7_isWill 9 = .ok (.i2l, 1) := by decide +kernel
theorem dX7_isWill_10 : decode cX7_isWill 10 = .ok (.invokestatic 83, 3) := by decide +kernel
theorem dX7_isWill_13 : decode cX7_isWill 13 = .ok (.ireturn, 1) := by decide +kernel
set_option maxRecDepth 20000 in
theorem ggX7_lives_X7_in : GoodIn wsX7_lives wsX7_in := goodIn_r _ [7] (by decide +kernel) (by decide +kernel)
set_option maxRecDepth 20000 in
theorem gX7_lives_X7_in : GoodIn wsX7_lives (va_wsS RX7 83 yX7_in wsX7_in) := goodIn_app (goodIn_of _ (by decide +kernel)) ggX7_lives_X7_in
theorem dX7_lives_0 : decode cX7_lives 0 = .ok (.iload_n 1, 1) := by decide +kernel
theorem dX7_lives_1 : decode cX7_lives 1 = .ok (.i2l, 1) := by decide +kernel
theorem dX7_lives_2 : decode cX7_lives 2 = .ok (.lconst 0, 1) := by decide +kernel
theorem dX7_lives_3 : decode cX7_lives 3 = .ok (.ldc2_w 90, 3) := by decide +kernel
theorem dX7_lives_6 : decode cX7_lives 6 = .ok (.invokestatic 83, 3) := by decide +kernel
theorem dX7_lives_9 : decode cX7_lives 9 = .ok (.ifCond .eq 15, 3) := by decide +kernel
theorem dX7_lives_12 : decode cX7_lives 12 = .ok (.iload_n 2, 1) := by decide +kernel
theorem dX7_lives_13 : decode cX7_lives 13 = .ok (.i2l, 1) := by decide +kernel
theorem dX7_lives_14 : decode cX7_lives 14 = .ok (.lconst 1, 1) := by decide +kernel
theorem dX7_lives_15 : decode cX7_lives 15 = .ok (.ldc2_w 92, 3) := by decide +kernel
theorem dX7_lives_18 : decode cX7_lives 18 = .ok (.invokestatic 83, 3) := by decide +kernel
theorem dX7_lives_21 : decode cX7_lives 21 = .ok (.ifCond .ne 5, 3) := by decide +kernel
theorem dX7_lives_24 : decode cX7_lives 24 = .ok (.iconst (-1), 1) := by decide +kernel
theorem dX7_lives_25 : decode cX7_lives 25 = .ok (.ireturn, 1) := by decide +kernel
theorem dX7_lives_26 : decode cX7_lives 26 = .ok (.aload_n 0, 1) := by decide +kernel
theorem dX7_lives_27 : decode cX7_lives 27 = .ok (.getfield 7, 3) := by decide +kernel
theorem dX7_lives_30 : decode cX7_lives 30 = .ok (.iload_n 1, 1) := by decide +kernel
theorem dX7_lives_31 : decode cX7_lives 31 = .ok (.iaload, 1) := by decide +kernel
theorem dX7_lives_32 : decode cX7_lives 32 = .ok (.istore_n 3, 1) := by decide +kernel
theorem dX7_lives_33 : decode cX7_lives 33 = .ok (.aload_n 0, 1) := by decide +kernel
theorem dX7_lives_34 : decode cX7_lives 34 = .ok (.getfield 7, 3) := by decide +kernel
theorem dX7_lives_37 : decode cX7_lives 37 = .ok (.iload_n 1, 1) := by decide +kernel
theorem dX7_lives_38 : decode cX7_lives 38 = .ok (.iload_n 2, 1) := by decide +kernel
theorem dX7_lives_39 : decode cX7_lives 39 = .ok (.iastore, 1) := by decide +kernel
theorem dX7_lives_40 : decode cX7_lives 40 = .ok (.iload_n 3, 1) := by decide +kernel
theorem dX7_lives_41 : decode cX7_lives 41 = .ok (.ireturn, 1) := by decide +kernel
set_option maxRecDepth 20000 in
theorem ggX7_set_X7_in : GoodIn wsX7_set wsX7_in := goodIn_r _ [8] (by decide +kernel) (by decide +kernel)
set_option maxRecDepth 20000 in
theorem gX7_set_X7_in : GoodIn wsX7_set (va_wsS RX7 83 yX7_in wsX7_in) := goodIn_app (goodIn_of _ (by decide +kernel)) ggX7_set_X7_in
theorem dX7_set_0 : decode cX7_set 0 = .ok (.iload_n 1, 1) := by decide +kernel
theorem dX7_set_1 : decode cX7_set 1 = .ok (.i2l, 1) := by decide +kernel
theorem dX7_set_2 : decode cX7_set 2 = .ok (.lconst 0, 1) := by decide +kernel
theorem dX7_set_3 : decode cX7_set 3 = .ok (.lconst 1, 1) := by decide +kernel
theorem dX7_set_4 : decode cX7_set 4 = .ok (.invokestatic 83, 3) := by decide +kernel
theorem dX7_set_7 : decode cX7_set 7 = .ok (.ifCond .eq 25, 3) := by decide +kernel
theorem dX7_set_10 : decode cX7_set 10 = .ok (.iload_n 2, 1) := by decide +kernel
theorem dX7_set_11 : decode cX7_set 11 = .ok (.i2l, 1) := by decide +kernel
theorem dX7_set_12 : decode cX7_set 12 = .ok (.lconst 0, 1) := by decide +kernel
theorem dX7_set_13 : decode cX7_set 13 = .ok (.iload_n 1, 1) := by decide +kernel
theorem dX7_set_14 : decode cX7_set 14 = .ok (.ifCond .ne 9, 3) := by decide +kernel
theorem dX7_set_17 : decode cX7_set 17 = .ok (.ldc2_w 94, 3) := by decide +kernel
theorem dX7_set_20 : decode cX7_set 20 = .ok (.goto 6, 3) := by decide +kernel
theorem dX7_set_23 : decode cX7_set 23 = .ok (.ldc2_w 96, 3) := by decide +kernel
theorem dX7_set_26 : decode cX7_set 26 = .ok (.invokestatic 83, 3) := by decide +kernel
theorem dX7_set_29 : decode cX7_set 29 = .ok (.ifCond .ne 5, 3) := by decide +kernel
theorem dX7_set_32 : decode cX7_set 32 = .ok (.iconst (-1), 1) := by decide +kernel
theorem dX7_set_33 : decode cX7_set 33 = .ok (.ireturn, 1) := by decide +kernel
theorem dX7_set_34 : decode cX7_set 34 = .ok (.iload_n 1, 1) := by decide +kernel
theorem dX7_set_35 : decode cX7_set 35 = .ok (.ifCond .ne 10, 3) := by decide +kernel
theorem dX7_set_38 : decode cX7_set 38 = .ok (.aload_n 0, 1) := by decide +kernel
theorem dX7_set_39 : decode cX7_set 39 = .ok (.getfield 14, 3) := by decide +kernel
theorem dX7_set_42 : decode cX7_set 42 = .ok (.goto 7, 3) := by decide +kernel
theorem dX7_set_45 : decode cX7_set 45 = .ok (.aload_n 0, 1) := by decide +kernel
theorem dX7_set_46 : decode cX7_set 46 = .ok (.getfield 98, 3) := by decide +kernel
theorem dX7_set_49 : decode cX7_set 49 = .ok (.istore_n 3, 1) := by decide +kernel
theorem dX7_set_50 : decode cX7_set 50 = .ok (.iload_n 1, 1) := by decide +kernel
theorem dX7_set_51 : decode cX7_set 51 = .ok (.ifCond .ne 11, 3) := by decide +kernel
theorem dX7_set_54 : decode cX7_set 54 = .ok (.aload_n 0, 1) := by decide +kernel
theorem dX7_set_55 : decode cX7_set 55 = .ok (.iload_n 2, 1) := by decide +kernel
theorem dX7_set_56 : decode cX7_set 56 = .ok (.putfield 14, 3) := by decide +kernel
theorem dX7_set_59 : decode cX7_set 59 = .ok (.goto 8, 3) := by decide +kernel
theorem dX7_set_62 : decode cX7_set 62 = .ok (.aload_n 0, 1) := by decide +kernel
theorem dX7_set_63 : decode cX7_set 63 = .ok (.iload_n 2, 1) := by decide +kernel
theorem dX7_set_64 : decode cX7_set 64 = .ok (.putfield 98, 3) := by decide +kernel
theorem dX7_set_67 : decode cX7_set 67 = .ok (.iload_n 3, 1) := by decide +kernel
theorem dX7_set_68 : decode cX7_set 68 = .ok (.ireturn, 1) := by decide +kernel
theorem dX7_comes_0 : decode cX7_comes 0 = .ok (.aload_n 0, 1) := by decide +kernel
theorem dX7_comes_1 : decode cX7_comes 1 = .ok (.getfield 18, 3) := by decide +kernel
theorem dX7_comes_4 : decode cX7_comes 4 = .ok (.aload_n 0, 1) := by decide +kernel
theorem dX7_comes_5 : decode cX7_comes 5 = .ok (.getfield 87, 3) := by decide +kernel
theorem dX7_comes_8 : decode cX7_comes 8 = .ok (.iload_n 1, 1) := by decide +kernel
theorem dX7_comes_9 : decode cX7_comes 9 = .ok (.iastore, 1) := by decide +kernel
theorem dX7_comes_10 : decode cX7_comes 10 = .ok (.aload_n 0, 1) := by decide +kernel
theorem dX7_comes_11 : decode cX7_comes 11 = .ok (.getfield 21, 3) := by decide +kernel
theorem dX7_comes_14 : decode cX7_comes 14 = .ok (.aload_n 0, 1) := by decide +kernel
theorem dX7_comes_15 : decode cX7_comes 15 = .ok (.getfield 87, 3) := by decide +kernel
theorem dX7_comes_18 : decode cX7_comes 18 = .ok (.iload_n 2, 1) := by decide +kernel
theorem dX7_comes_19 : decode cX7_comes 19 = .ok (.iastore, 1) := by decide +kernel
theorem dX7_comes_20 : decode cX7_comes 20 = .ok (.aload_n 0, 1) := by decide +kernel
theorem dX7_comes_21 : decode cX7_comes 21 = .ok (.getfield 24, 3) := by decide +kernel
theorem dX7_comes_24 : decode cX7_comes 24 = .ok (.aload_n 0, 1) := by decide +kernel
theorem dX7_comes_25 : decode cX7_comes 25 = .ok (.getfield 87, 3) := by decide +kernel
theorem dX7_comes_28 : decode cX7_comes 28 = .ok (.iload_n 3, 1) := by decide +kernel
theorem dX7_comes_29 : decode cX7_comes 29 = .ok (.iastore, 1) := by decide +kernel
theorem dX7_comes_30 : decode cX7_comes 30 = .ok (.aload_n 0, 1) := by decide +kernel
theorem dX7_comes_31 : decode cX7_comes 31 = .ok (.getfield 27, 3) := by decide +kernel
theorem dX7_comes_34 : decode cX7_comes 34 = .ok (.iconst 4, 1) := by decide +kernel
theorem dX7_comes_35 : decode cX7_comes 35 = .ok (.aload_n 0, 1) := by decide +kernel
theorem dX7_comes_36 : decode cX7_comes 36 = .ok (.getfield 87, 3) := by decide +kernel
theorem dX7_comes_39 : decode cX7_comes 39 = .ok (.imul, 1) := by decide +kernel
theorem dX7_comes_40 : decode cX7_comes 40 = .ok (.iload 4, 2) := by decide +kernel
theorem dX7_comes_42 : decode cX7_comes 42 = .ok (.iastore, 1) := by decide +kernel
theorem dX7_comes_43 : decode cX7_comes 43 = .ok (.aload_n 0, 1) := by decide +kernel
theorem dX7_comes_44 : decode cX7_comes 44 = .ok (.getfield 27, 3) := by decide +kernel
theorem dX7_comes_47 : decode cX7_comes 47 = .ok (.iconst 4, 1) := by decide +kernel
theorem dX7_comes_48 : decode cX7_comes 48 = .ok (.aload_n 0, 1) := by decide +kernel
theorem dX7_comes_49 : decode cX7_comes 49 = .ok (.getfield 87, 3) := by decide +kernel
theorem dX7_comes_52 : decode cX7_comes 52 = .ok (.imul, 1) := by decide +kernel
theorem dX7_comes_53 : decode cX7_comes 53 = .ok (.iconst 1, 1) := by decide +kernel
theorem dX7_comes_54 : decode cX7_comes 54 = .ok (.iadd, 1) := by decide +kernel
theorem dX7_comes_55 : decode cX7_comes 55 = .ok (.iload 5, 2) := by decide +kernel
theorem dX7_comes_57 : decode cX7_comes 57 = .ok (.iastore, 1) := by decide +kernel
theorem dX7_comes_58 : decode cX7_comes 58 = .ok (.aload_n 0, 1) := by decide +kernel
theorem dX7_comes_59 : decode cX7_comes 59 = .ok (.getfield 27, 3) := by decide +kernel
theorem dX7_comes_62 : decode cX7_comes 62 = .ok (.iconst 4, 1) := by decide +kernel
theorem dX7_comes_63 : decode cX7_comes 63 = .ok (.aload_n 0, 1) := by decide +kernel
theorem dX7_comes_64 : decode cX7_comes 64 = .ok (.getfield 87, 3) := by decide +kernel
theorem dX7_comes_67 : decode cX7_comes 67 = .ok (.imul, 1) := by decide +kernel
theorem dX7_comes_68 : decode cX7_comes 68 = .ok (.iconst 2, 1) := by decide +kernel
theorem dX7_comes_69 : decode cX7_comes 69 = .ok (.iadd, 1) := by decide +kernel
theorem dX7_comes_70 : decode cX7_comes 70 = .ok (.iload 6, 2) := by decide +kernel
theorem dX7_comes_72 : decode cX7_comes 72 = .ok (.iastore, 1) := by decide +kernel
theorem dX7_comes_73 : decode cX7_comes 73 = .ok (.aload_n 0, 1) := by decide +kernel
theorem dX7_comes_74 : decode cX7_comes 74 = .ok (.getfield 27, 3) := by decide +kernel
theorem dX7_comes_77 : decode cX7_comes 77 = .ok (.iconst 4, 1) := by decide +kernel
theorem dX7_comes_78 : decode cX7_comes 78 = .ok (.aload_n 0, 1) := by decide +kernel
theorem dX7_comes_79 : decode cX7_comes 79 = .ok (.getfield 87, 3) := by decide +kernel
theorem dX7_comes_82 : decode cX7_comes 82 = .ok (.imul, 1) := by decide +kernel
theorem dX7_comes_83 : decode cX7_comes 83 = .ok (.iconst 3, 1) := by decide +kernel
theorem dX7_comes_84 : decode cX7_comes 84 = .ok (.iadd, 1) := by decide +kernel
theorem dX7_comes_85 : decode cX7_comes 85 = .ok (.iload 7, 2) := by decide +kernel
theorem dX7_comes_87 : decode cX7_comes 87 = .ok (.iastore, 1) := by decide +kernel
theorem dX7_comes_88 : decode cX7_comes 88 = .ok (.aload_n 0, 1) := by decide +kernel
theorem dX7_comes_89 : decode cX7_comes 89 = .ok (.dup, 1) := by decide +kernel
theorem dX7_comes_90 : decode cX7_comes 90 = .ok (.getfield 87, 3) := by decide +kernel
theorem dX7_comes_93 : decode cX7_comes 93 = .ok (.iconst 1, 1) := by decide +kernel
theorem dX7_comes_94 : decode cX7_comes 94 = .ok (.iadd, 1) := by decide +kernel
theorem dX7_comes_95 : decode cX7_comes 95 = .ok (.putfield 87, 3) := by decide +kernel
theorem dX7_comes_98 : decode cX7_comes 98 = .ok (.return_, 1) := by decide +kernel
set_option maxRecDepth 20000 in
theorem ggX7_will_X7_isYear : GoodIn wsX7_will wsX7_isYear := goodIn_r _ [7, 8, 9, 10, 6, 11] (by decide +kernel) (by decide +kernel)
set_option maxRecDepth 20000 in
theorem gX7_will_X7_isYear : GoodIn wsX7_will (va_wsS RX7 101 yX7_isYear wsX7_isYear) := goodIn_app (goodIn_of _ (by decide +kernel)) ggX7_will_X7_isYear
set_option maxRecDepth 20000 in
theorem ggX7_will_X7_in : GoodIn wsX7_will wsX7_in := goodIn_r _ [11] (by decide +kernel) (by decide +kernel)
set_option maxRecDepth 20000 in
theorem gX7_will_X7_in : GoodIn wsX7_will (va_wsS RX7 83 yX7_in wsX7_in) := goodIn_app (goodIn_of _ (by decide +kernel)) ggX7_will_X7_in
set_option maxRecDepth 20000 in
theorem ggX7_will_X7_comes : GoodIn wsX7_will wsX7_comes := goodIn_r _ [15, 16, 3, 17, 18, 19, 20, 21, 22, 23, 24, 25, 26, 27, 28, 29, 30, 31, 32, 33, 34, 35, 36, 37, 38, 39, 40, 41, 42, 43, 44, 45, 46, 47] (by decide +kernel) (by decide +kernel)
set_option maxRecDepth 20000 in
theorem gX7_will_X7_comes : GoodIn wsX7_will (wsV RX7 107 RX7 yX7_comes wsX7_comes) := goodIn_app (goodIn_of _ (by decide +kernel)) ggX7_will_X7_comes
theorem dX7_will_0 : decode cX7_will 0 = .ok (.iload_n 1, 1) := by decide +kernel
theorem dX7_will_1 : decode cX7_will 1 = .ok (.invokestatic 101, 3) := by decide +kernel
theorem dX7_will_4 : decode cX7_will 4 = .ok (.ifCond .eq 38, 3) := by decide +kernel
theorem dX7_will_7 : decode cX7_will 7 = .ok (.iload_n 2, 1) := by decide +kernel
theorem dX7_will_8 : decode cX7_will 8 = .ok (.i2l, 1) := by decide +kernel
theorem dX7_will_9 : decode cX7_will 9 = .ok (.lconst 0, 1) := by decide +kernel
theorem dX7_will_10 : decode cX7_will 10 = .ok (.ldc2_w 90, 3) := by decide +kernel
theorem dX7_will_13 : decode cX7_will 13 = .ok (.invokestatic 83, 3) := by decide +kernel
theorem dX7_will_16 : decode cX7_will 16 = .ok (.ifCond .eq 26, 3) := by decide +kernel
theorem dX7_will_19 : decode cX7_will 19 = .ok (.iload_n 3, 1) := by decide +kernel
theorem dX7_will_20 : decode cX7_will 20 = .ok (.i2l, 1) := by decide +kernel
theorem dX7_will_21 : decode cX7_will 21 = .ok (.lconst 0, 1) := by decide +kernel
theorem dX7_will_22 : decode cX7_will 22 = .ok (.lconst 1, 1) := by decide +kernel
theorem dX7_will_23 : decode cX7_will 23 = .ok (.invokestatic 83, 3) := by decide +kernel
theorem dX7_will_26 : decode cX7_will 26 = .ok (.ifCond .eq 16, 3) := by decide +kernel
theorem dX7_will_29 : decode cX7_will 29 = .ok (.iload 4, 2) := by decide +kernel
theorem dX7_will_31 : decode cX7_will 31 = .ok (.i2l, 1) := by decide +kernel
theorem dX7_will_32 : decode cX7_will 32 = .ok (.lconst 0, 1) := by decide +kernel
theorem dX7_will_33 : decode cX7_will 33 = .ok (.ldc2_w 105, 3) := by decide +kernel
theorem dX7_will_36 : decode cX7_will 36 = .ok (.invokestatic 83, 3) := by decide +kernel
theorem dX7_will_39 : decode cX7_will 39 = .ok (.ifCond .ne 5, 3) := by decide +kernel
theorem dX7_will_42 : decode cX7_will 42 = .ok (.iconst (-1), 1) := by decide +kernel
theorem dX7_will_43 : decode cX7_will 43 = .ok (.ireturn, 1) := by decide +kernel
theorem dX7_will_44 : decode cX7_will 44 = .ok (.aload_n 0, 1) := by decide +kernel
theorem dX7_will_45 : decode cX7_will 45 = .ok (.getfield 87, 3) := by decide +kernel
theorem dX7_will_48 : decode cX7_will 48 = .ok (.bipush 24, 2) := by decide +kernel
theorem dX7_will_50 : decode cX7_will 50 = .ok (.if_icmp .ne 6, 3) := by decide +kernel
theorem dX7_will_53 : decode cX7_will 53 = .ok (.bipush (-3), 2) := by decide +kernel
theorem dX7_will_55 : decode cX7_will 55 = .ok (.ireturn, 1) := by decide +kernel
theorem dX7_will_56 : decode cX7_will 56 = .ok (.aload_n 0, 1) := by decide +kernel
theorem dX7_will_57 : decode cX7_will 57 = .ok (.iload_n 1, 1) := by decide +kernel
theorem dX7_will_58 : decode cX7_will 58 = .ok (.iload_n 2, 1) := by decide +kernel
theorem dX7_will_59 : decode cX7_will 59 = .ok (.iload_n 3, 1) := by decide +kernel
theorem dX7_will_60 : decode cX7_will 60 = .ok (.iload 4, 2) := by decide +kernel
theorem dX7_will_62 : decode cX7_will 62 = .ok (.iconst 0, 1) := by decide +kernel
theorem dX7_will_63 : decode cX7_will 63 = .ok (.iconst 0, 1) := by decide +kernel
theorem dX7_will_64 : decode cX7_will 64 = .ok (.iconst 0, 1) := by decide +kernel
theorem dX7_will_65 : decode cX7_will 65 = .ok (.invokevirtual 107, 3) := by decide +kernel
theorem dX7_will_68 : decode cX7_will 68 = .ok (.aload_n 0, 1) := by decide +kernel
theorem dX7_will_69 : decode cX7_will 69 = .ok (.getfield 87, 3) := by decide +kernel
theorem dX7_will_72 : decode cX7_will 72 = .ok (.iconst 1, 1) := by decide +kernel
theorem dX7_will_73 : decode cX7_will 73 = .ok (.isub, 1) := by decide +kernel
theorem dX7_will_74 : decode cX7_will 74 = .ok (.ireturn, 1) := by decide +kernel
set_option maxRecDepth 20000 in
theorem ggX7_had_X7_isWill : GoodIn wsX7_had wsX7_isWill := goodIn_r _ [8, 9, 10, 11, 7, 12, 13, 14, 15, 16, 17, 18, 19, 20, 21, 22, 23, 24, 25, 26, 27, 28, 29, 30, 31, 32, 33, 34, 35, 36, 37, 38, 39, 40] (by decide +kernel) (by decide +kernel)
set_option maxRecDepth 20000 in
theorem gX7_had_X7_isWill : GoodIn wsX7_had (wsV RX7 111 RX7 yX7_isWill wsX7_isWill) := goodIn_app (goodIn_of _ (by decide +kernel)) ggX7_had_X7_isWill
set_option maxRecDepth 20000 in
theorem ggX7_had_X7_in : GoodIn wsX7_had wsX7_in := goodIn_r _ [12] (by decide +kernel) (by decide +kernel)
set_option maxRecDepth 20000 in
theorem gX7_had_X7_in : GoodIn wsX7_had (va_wsS RX7 83 yX7_in wsX7_in) := goodIn_app (goodIn_of _ (by decide +kernel)) ggX7_had_X7_in
theorem dX7_had_0 : decode cX7_had 0 = .ok (.aload_n 0, 1) := by decide +kernel
theorem dX7_had_1 : decode cX7_had 1 = .ok (.iload_n 1, 1) := by decide +kernel
theorem dX7_had_2 : decode cX7_had 2 = .ok (.invokevirtual 111, 3) := by decide +kernel
theorem dX7_had_5 : decode cX7_had 5 = .ok (.ifCond .eq 27, 3) := by decide +kernel
theorem dX7_had_8 : decode cX7_had 8 = .ok (.iload_n 2, 1) := by decide +kernel
theorem dX7_had_9 : decode cX7_had 9 = .ok (.i2l, 1) := by decide +kernel
theorem dX7_had_10 : decode cX7_had 10 = .ok (.lconst 0, 1) := by decide +kernel
theorem dX7_had_11 : decode cX7_had 11 = .ok (.ldc2_w 114, 3) := by decide +kernel
theorem dX7_had_14 : decode cX7_had 14 = .ok (.invokestatic 83, 3) := by decide +kernel
theorem dX7_had_17 : decode cX7_had 17 = .ok (.ifCond .eq 15, 3) := by decide +kernel
theorem dX7_had_20 : decode cX7_had 20 = .ok (.iload_n 3, 1) := by decide +kernel
theorem dX7_had_21 : decode cX7_had 21 = .ok (.i2l, 1) := by decide +kernel
theorem dX7_had_22 : decode cX7_had 22 = .ok (.lconst 0, 1) := by decide +kernel
theorem dX7_had_23 : decode cX7_had 23 = .ok (.ldc2_w 105, 3) := by decide +kernel
theorem dX7_had_26 : decode cX7_had 26 = .ok (.invokestatic 83, 3) := by decide +kernel
theorem dX7_had_29 : decode cX7_had 29 = .ok (.ifCond .ne 5, 3) := by decide +kernel
theorem dX7_had_32 : decode cX7_had 32 = .ok (.iconst (-1), 1) := by decide +kernel
theorem dX7_had_33 : decode cX7_had 33 = .ok (.ireturn, 1) := by decide +kernel
theorem dX7_had_34 : decode cX7_had 34 = .ok (.aload_n 0, 1) := by decide +kernel
theorem dX7_had_35 : decode cX7_had 35 = .ok (.getfield 27, 3) := by decide +kernel
theorem dX7_had_38 : decode cX7_had 38 = .ok (.iconst 4, 1) := by decide +kernel
theorem dX7_had_39 : decode cX7_had 39 = .ok (.iload_n 1, 1) := by decide +kernel
theorem dX7_had_40 : decode cX7_had 40 = .ok (.imul, 1) := by decide +kernel
theorem dX7_had_41 : decode cX7_had 41 = .ok (.iload_n 2, 1) := by decide +kernel
theorem dX7_had_42 : decode cX7_had 42 = .ok (.iadd, 1) := by decide +kernel
theorem dX7_had_43 : decode cX7_had 43 = .ok (.iaload, 1) := by decide +kernel
theorem dX7_had_44 : decode cX7_had 44 = .ok (.istore 4, 2) := by decide +kernel
theorem dX7_had_46 : decode cX7_had 46 = .ok (.aload_n 0, 1) := by decide +kernel
theorem dX7_had_47 : decode cX7_had 47 = .ok (.getfield 27, 3) := by decide +kernel
theorem dX7_had_50 : decode cX7_had 50 = .ok (.iconst 4, 1) := by decide +kernel
theorem dX7_had_51 : decode cX7_had 51 = .ok (.iload_n 1, 1) := by decide +kernel
theorem dX7_had_52 : decode cX7_had 52 = .ok (.imul, 1) := by decide +kernel
theorem dX7_had_53 : decode cX7_had 53 = .ok (.iload_n 2, 1) := by decide +kernel
theorem dX7_had_54 : decode cX7_had 54 = .ok (.iadd, 1) := by decide +kernel
theorem dX7_had_55 : decode cX7_had 55 = .ok (.iload_n 3, 1) := by decide +kernel
theorem dX7_had_56 : decode cX7_had 56 = .ok (.iastore, 1) := by decide +kernel
theorem dX7_had_57 : decode cX7_had 57 = .ok (.iload 4, 2) := by decide +kernel
theorem dX7_had_59 : decode cX7_had 59 = .ok (.ireturn, 1) := by decide +kernel
theorem dX7_seen_0 : decode cX7_seen 0 = .ok (.aload_n 0, 1) := by decide +kernel
theorem dX7_seen_1 : decode cX7_seen 1 = .ok (.getfield 39, 3) := by decide +kernel
theorem dX7_seen_4 : decode cX7_seen 4 = .ok (.iload_n 2, 1) := by decide +kernel
theorem dX7_seen_5 : decode cX7_seen 5 = .ok (.iaload, 1) := by decide +kernel
theorem dX7_seen_6 : decode cX7_seen 6 = .ok (.istore_n 3, 1) := by decide +kernel
theorem dX7_seen_7 : decode cX7_seen 7 = .ok (.aload_n 0, 1) := by decide +kernel
theorem dX7_seen_8 : decode cX7_seen 8 = .ok (.getfield 24, 3) := by decide +kernel
theorem dX7_seen_11 : decode cX7_seen 11 = .ok (.iload_n 1, 1) := by decide +kernel
theorem dX7_seen_12 : decode cX7_seen 12 = .ok (.iaload, 1) := by decide +kernel
theorem dX7_seen_13 : decode cX7_seen 13 = .ok (.iconst 1, 1) := by decide +kernel
theorem dX7_seen_14 : decode cX7_seen 14 = .ok (.if_icmp .ne 12, 3) := by decide +kernel
theorem dX7_seen_17 : decode cX7_seen 17 = .ok (.iload_n 3, 1) := by decide +kernel
theorem dX7_seen_18 : decode cX7_seen 18 = .ok (.bipush 8, 2) := by decide +kernel
theorem dX7_seen_20 : decode cX7_seen 20 = .ok (.iand, 1) := by decide +kernel
theorem dX7_seen_21 : decode cX7_seen 21 = .ok (.ifCond .ne 5, 3) := by decide +kernel
theorem dX7_seen_24 : decode cX7_seen 24 = .ok (.iconst 0, 1) := by decide +kernel
theorem dX7_seen_25 : decode cX7_seen 25 = .ok (.ireturn, 1) := by decide +kernel
theorem dX7_seen_26 : decode cX7_seen 26 = .ok (.aload_n 0, 1) := by decide +kernel
theorem dX7_seen_27 : decode cX7_seen 27 = .ok (.getfield 27, 3) := by decide +kernel
theorem dX7_seen_30 : decode cX7_seen 30 = .ok (.iconst 4, 1) := by decide +kernel
theorem dX7_seen_31 : decode cX7_seen 31 = .ok (.iload_n 1, 1) := by decide +kernel
theorem dX7_seen_32 : decode cX7_seen 32 = .ok (.imul, 1) := by decide +kernel
theorem dX7_seen_33 : decode cX7_seen 33 = .ok (.iaload, 1) := by decide +kernel
theorem dX7_seen_34 : decode cX7_seen 34 = .ok (.istore 4, 2) := by decide +kernel
theorem dX7_seen_36 : decode cX7_seen 36 = .ok (.iconst 0, 1) := by decide +kernel
theorem dX7_seen_37 : decode cX7_seen 37 = .ok (.istore 5, 2) := by decide +kernel
theorem dX7_seen_39 : decode cX7_seen 39 = .ok (.iload 5, 2) := by decide +kernel
theorem dX7_seen_41 : decode cX7_seen 41 = .ok (.iconst 3, 1) := by decide +kernel
theorem dX7_seen_42 : decode cX7_seen 42 = .ok (.if_icmp .ge 41, 3) := by decide +kernel
theorem dX7_seen_45 : decode cX7_seen 45 = .ok (.iload 4, 2) := by decide +kernel
theorem dX7_seen_47 : decode cX7_seen 47 = .ok (.iload_n 3, 1) := by decide +kernel
theorem dX7_seen_48 : decode cX7_seen 48 = .ok (.iload 5, 2) := by decide +kernel
theorem dX7_seen_50 : decode cX7_seen 50 = .ok (.ishr, 1) := by decide +kernel
theorem dX7_seen_51 : decode cX7_seen 51 = .ok (.iconst 1, 1) := by decide +kernel
theorem dX7_seen_52 : decode cX7_seen 52 = .ok (.iand, 1) := by decide +kernel
theorem dX7_seen_53 : decode cX7_seen 53 = .ok (.iconst 1, 1) := by decide +kernel
theorem dX7_seen_54 : decode cX7_seen 54 = .ok (.if_icmp .ne 19, 3) := by decide +kernel
theorem dX7_seen_57 : decode cX7_seen 57 = .ok (.aload_n 0, 1) := by decide +kernel
theorem dX7_seen_58 : decode cX7_seen 58 = .ok (.getfield 27, 3) := by decide +kernel
theorem dX7_seen_61 : decode cX7_seen 61 = .ok (.iconst 4, 1) := by decide +kernel
theorem dX7_seen_62 : decode cX7_seen 62 = .ok (.iload_n 1, 1) := by decide +kernel
theorem dX7_seen_63 : decode cX7_seen 63 = .ok (.imul, 1) := by decide +kernel
theorem dX7_seen_64 : decode cX7_seen 64 = .ok (.iconst 1, 1) := by decide +kernel
theorem dX7_seen_65 : decode cX7_seen 65 = .ok (.iadd, 1) := by decide +kernel
theorem dX7_seen_66 : decode cX7_seen 66 = .ok (.iload 5, 2) := by decide +kernel
theorem dX7_seen_68 : decode cX7_seen 68 = .ok (.iadd, 1) := by decide +kernel
theorem dX7_seen_69 : decode cX7_seen 69 = .ok (.iaload, 1) := by decide +kernel
theorem dX7_seen_70 : decode cX7_seen 70 = .ok (.goto 4, 3) := by decide +kernel
theorem dX7_seen_73 : decode cX7_seen 73 = .ok (.iconst 0, 1) := by decide +kernel
theorem dX7_seen_74 : decode cX7_seen 74 = .ok (.iadd, 1) := by decide +kernel
theorem dX7_seen_75 : decode cX7_seen 75 = .ok (.istore 4, 2) := by decide +kernel
theorem dX7_seen_77 : decode cX7_seen 77 = .ok (.iinc 5 1, 3) := by decide +kernel
theorem dX7_seen_80 : decode cX7_seen 80 = .ok (.goto (-41), 3) := by decide +kernel
theorem dX7_seen_83 : decode cX7_seen 83 = .ok (.iload 4, 2) := by decide +kernel
theorem dX7_seen_85 : decode cX7_seen 85 = .ok (.ireturn, 1) := by decide +kernel
set_option maxRecDepth 20000 in
theorem ggX7_sworn_X7_seen : GoodIn wsX7_sworn wsX7_seen := goodIn_r _ [7, 8, 9, 10, 11, 12, 13, 14, 15, 16, 17, 18, 19, 20, 21, 22, 23, 24, 25, 26, 27, 28, 29, 30, 31, 32, 33, 34, 35, 36, 37, 38] (by decide +kernel) (by decide +kernel)
set_option maxRecDepth 20000 in
theorem gX7_sworn_X7_seen : GoodIn wsX7_sworn (wsV RX7 116 RX7 yX7_seen wsX7_seen) := goodIn_app (goodIn_of _ (by decide +kernel)) ggX7_sworn_X7_seen
theorem dX7_sworn_0 : decode cX7_sworn 0 = .ok (.aload_n 0, 1) := by decide +kernel
theorem dX7_sworn_1 : decode cX7_sworn 1 = .ok (.iload_n 1, 1) := by decide +kernel
theorem dX7_sworn_2 : decode cX7_sworn 2 = .ok (.iload_n 2, 1) := by decide +kernel
theorem dX7_sworn_3 : decode cX7_sworn 3 = .ok (.invokevirtual 116, 3) := by decide +kernel
theorem dX7_sworn_6 : decode cX7_sworn 6 = .ok (.istore_n 3, 1) := by decide +kernel
theorem dX7_sworn_7 : decode cX7_sworn 7 = .ok (.aload_n 0, 1) := by decide +kernel
theorem dX7_sworn_8 : decode cX7_sworn 8 = .ok (.getfield 33, 3) := by decide +kernel
theorem dX7_sworn_11 : decode cX7_sworn 11 = .ok (.iload_n 2, 1) := by decide +kernel
theorem dX7_sworn_12 : decode cX7_sworn 12 = .ok (.iaload, 1) := by decide +kernel
theorem dX7_sworn_13 : decode cX7_sworn 13 = .ok (.istore 4, 2) := by decide +kernel
theorem dX7_sworn_15 : decode cX7_sworn 15 = .ok (.iload 4, 2) := by decide +kernel
theorem dX7_sworn_17 : decode cX7_sworn 17 = .ok (.ifCond .le 27, 3) := by decide +kernel
theorem dX7_sworn_20 : decode cX7_sworn 20 = .ok (.iload_n 3, 1) := by decide +kernel
theorem dX7_sworn_21 : decode cX7_sworn 21 = .ok (.iload 4, 2) := by decide +kernel
theorem dX7_sworn_23 : decode cX7_sworn 23 = .ok (.if_icmp .le 21, 3) := by decide +kernel
theorem dX7_sworn_26 : decode cX7_sworn 26 = .ok (.iload_n 3, 1) := by decide +kernel
theorem dX7_sworn_27 : decode cX7_sworn 27 = .ok (.iload 4, 2) := by decide +kernel
theorem dX7_sworn_29 : decode cX7_sworn 29 = .ok (.isub, 1) := by decide +kernel
theorem dX7_sworn_30 : decode cX7_sworn 30 = .ok (.aload_n 0, 1) := by decide +kernel
theorem dX7_sworn_31 : decode cX7_sworn 31 = .ok (.getfield 36, 3) := by decide +kernel
theorem dX7_sworn_34 : decode cX7_sworn 34 = .ok (.iload_n 2, 1) := by decide +kernel
theorem dX7_sworn_35 : decode cX7_sworn 35 = .ok (.iaload, 1) := by decide +kernel
theorem dX7_sworn_36 : decode cX7_sworn 36 = .ok (.if_icmp .gt 8, 3) := by decide +kernel
theorem dX7_sworn_39 : decode cX7_sworn 39 = .ok (.iload 4, 2) := by decide +kernel
theorem dX7_sworn_41 : decode cX7_sworn 41 = .ok (.goto 4, 3) := by decide +kernel
theorem dX7_sworn_44 : decode cX7_sworn 44 = .ok (.iload_n 3, 1) := by decide +kernel
theorem dX7_sworn_45 : decode cX7_sworn 45 = .ok (.ireturn, 1) := by decide +kernel
set_option maxRecDepth 20000 in
theorem ggX7_isBooked_X7_sworn : GoodIn wsX7_isBooked wsX7_sworn := goodIn_r _ [6, 7, 8, 9, 10, 11, 5, 12, 13, 14, 15, 16, 17, 18, 19, 20, 21, 22, 23, 24, 25, 26, 27, 28, 29, 30, 31, 32, 33, 34, 35, 36, 37, 38, 39, 40, 41, 42, 43] (by decide +kernel) (by decide +kernel)
set_option maxRecDepth 20000 in
theorem gX7_isBooked_X7_sworn : GoodIn wsX7_isBooked (wsV RX7 120 RX7 yX7_sworn wsX7_sworn) := goodIn_app (goodIn_of _ (by decide +kernel)) ggX7_isBooked_X7_sworn
theorem dX7_isBooked_0 : decode cX7_isBooked 0 = .ok (.aload_n 0, 1) := by decide +kernel
theorem dX7_isBooked_1 : decode cX7_isBooked 1 = .ok (.iload_n 1, 1) := by decide +kernel
theorem dX7_isBooked_2 : decode cX7_isBooked 2 = .ok (.iload_n 2, 1) := by decide +kernel
theorem dX7_isBooked_3 : decode cX7_isBooked 3 = .ok (.invokevirtual 120, 3) := by decide +kernel
theorem dX7_isBooked_6 : decode cX7_isBooked 6 = .ok (.istore_n 3, 1) := by decide +kernel
theorem dX7_isBooked_7 : decode cX7_isBooked 7 = .ok (.iload_n 3, 1) := by decide +kernel
theorem dX7_isBooked_8 : decode cX7_isBooked 8 = .ok (.ifCond .le 17, 3) := by decide +kernel
theorem dX7_isBooked_11 : decode cX7_isBooked 11 = .ok (.iload_n 3, 1) := by decide +kernel
theorem dX7_isBooked_12 : decode cX7_isBooked 12 = .ok (.aload_n 0, 1) := by decide +kernel
theorem dX7_isBooked_13 : decode cX7_isBooked 13 = .ok (.getfield 30, 3) := by decide +kernel
theorem dX7_isBooked_16 : decode cX7_isBooked 16 = .ok (.iload_n 2, 1) := by decide +kernel
theorem dX7_isBooked_17 : decode cX7_isBooked 17 = .ok (.iaload, 1) := by decide +kernel
theorem dX7_isBooked_18 : decode cX7_isBooked 18 = .ok (.if_icmp .lt 7, 3) := by decide +kernel
theorem dX7_isBooked_21 : decode cX7_isBooked 21 = .ok (.iconst 1, 1) := by decide +kernel
theorem dX7_isBooked_22 : decode cX7_isBooked 22 = .ok (.goto 4, 3) := by decide +kernel
theorem dX7_isBooked_25 : decode cX7_isBooked 25 = .ok (.iconst 0, 1) := by decide +kernel
theorem dX7_isBooked_26 : decode cX7_isBooked 26 = .ok (.ireturn, 1) := by decide +kernel
set_option maxRecDepth 20000 in
theorem ggX7_weight_X7_sworn : GoodIn wsX7_weight wsX7_sworn := goodIn_r _ [9, 10, 11, 12, 13, 14, 8, 15, 16, 17, 18, 19, 20, 21, 22, 23, 24, 25, 26, 27, 28, 29, 30, 31, 32, 33, 34, 35, 36, 37, 38, 39, 40, 41, 42, 43, 44, 45, 46] (by decide +kernel) (by decide +kernel)
set_option maxRecDepth 20000 in
theorem gX7_weight_X7_sworn : GoodIn wsX7_weight (wsV RX7 120 RX7 yX7_sworn wsX7_sworn) := goodIn_app (goodIn_of _ (by decide +kernel)) ggX7_weight_X7_sworn
theorem dX7_weight_0 : decode cX7_weight 0 = .ok (.aload_n 0, 1) := by decide +kernel
theorem dX7_weight_1 : decode cX7_weight 1 = .ok (.iload_n 1, 1) := by decide +kernel
theorem dX7_weight_2 : decode cX7_weight 2 = .ok (.iload_n 2, 1) := by decide +kernel
theorem dX7_weight_3 : decode cX7_weight 3 = .ok (.invokevirtual 120, 3) := by decide +kernel
theorem dX7_weight_6 : decode cX7_weight 6 = .ok (.aload_n 0, 1) := by decide +kernel
theorem dX7_weight_7 : decode cX7_weight 7 = .ok (.getfield 14, 3) := by decide +kernel
theorem dX7_weight_10 : decode cX7_weight 10 = .ok (.if_icmp .lt 13, 3) := by decide +kernel
theorem dX7_weight_13 : decode cX7_weight 13 = .ok (.bipush 100, 2) := by decide +kernel
theorem dX7_weight_15 : decode cX7_weight 15 = .ok (.aload_n 0, 1) := by decide +kernel
theorem dX7_weight_16 : decode cX7_weight 16 = .ok (.getfield 98, 3) := by decide +kernel
theorem dX7_weight_19 : decode cX7_weight 19 = .ok (.iadd, 1) := by decide +kernel
theorem dX7_weight_20 : decode cX7_weight 20 = .ok (.goto 5, 3) := by decide +kernel
theorem dX7_weight_23 : decode cX7_weight 23 = .ok (.bipush 100, 2) := by decide +kernel
theorem dX7_weight_25 : decode cX7_weight 25 = .ok (.aload_n 0, 1) := by decide +kernel
theorem dX7_weight_26 : decode cX7_weight 26 = .ok (.getfield 7, 3) := by decide +kernel
theorem dX7_weight_29 : decode cX7_weight 29 = .ok (.aload_n 0, 1) := by decide +kernel
theorem dX7_weight_30 : decode cX7_weight 30 = .ok (.getfield 21, 3) := by decide +kernel
theorem dX7_weight_33 : decode cX7_weight 33 = .ok (.iload_n 1, 1) := by decide +kernel
theorem dX7_weight_34 : decode cX7_weight 34 = .ok (.iaload, 1) := by decide +kernel
theorem dX7_weight_35 : decode cX7_weight 35 = .ok (.iaload, 1) := by decide +kernel
theorem dX7_weight_36 : decode cX7_weight 36 = .ok (.imul, 1) := by decide +kernel
theorem dX7_weight_37 : decode cX7_weight 37 = .ok (.ireturn, 1) := by decide +kernel
set_option maxRecDepth 20000 in
theorem ggX7_kind_X7_sworn : GoodIn wsX7_kind wsX7_sworn := goodIn_r _ [7, 8, 9, 10, 11, 12, 6, 13, 14, 15, 16, 22, 23, 24, 25, 26, 27, 28, 29, 30, 31, 32, 33, 34, 35, 36, 37, 38, 39, 40, 41, 42, 43, 44, 45, 46, 47, 48, 49] (by decide +kernel) (by decide +kernel)
set_option maxRecDepth 20000 in
theorem gX7_kind_X7_sworn : GoodIn wsX7_kind (wsV RX7 120 RX7 yX7_sworn wsX7_sworn) := goodIn_app (goodIn_of _ (by decide +kernel)) ggX7_kind_X7_sworn
set_option maxRecDepth 20000 in
theorem ggX7_kind_X7_isBooked : GoodIn wsX7_kind wsX7_isBooked := goodIn_r _ [20, 21, 3, 4, 5, 6, 7, 8, 9, 10, 11, 12, 13, 14, 15, 16, 22, 23, 24, 25, 26, 27, 28, 29, 30, 31, 32, 33, 34, 35, 36, 37, 38, 39, 40, 41, 42, 43, 44, 45, 46, 47, 48, 49] (by decide +kernel) (by decide +kernel)
set_option maxRecDepth 20000 in
theorem gX7_kind_X7_isBooked : GoodIn wsX7_kind (wsV RX7 123 RX7 yX7_isBooked wsX7_isBooked) := goodIn_app (goodIn_of _ (by decide +kernel)) ggX7_kind_X7_isBooked
set_option maxRecDepth 20000 in
theorem ggX7_kind_X7_seen : GoodIn wsX7_kind wsX7_seen := goodIn_r _ [13, 14, 15, 16, 22, 23, 24, 25, 26, 27, 28, 29, 30, 31, 32, 33, 34, 35, 36, 37, 38, 39, 40, 41, 42, 43, 44, 45, 46, 47, 48, 49] (by decide +kernel) (by decide +kernel)
set_option maxRecDepth 20000 in
theorem gX7_kind_X7_seen : GoodIn wsX7_kind (wsV RX7 116 RX7 yX7_seen wsX7_seen) := goodIn_app (goodIn_of _ (by decide +kernel)) ggX7_kind_X7_seen
theorem dX7_kind_0 : decode cX7_kind 0 = .ok (.aload_n 0, 1) := by decide +kernel
theorem dX7_kind_1 : decode cX7_kind 1 = .ok (.getfield 18, 3) := by decide +kernel
theorem dX7_kind_4 : decode cX7_kind 4 = .ok (.iload_n 1, 1) := by decide +kernel
theorem dX7_kind_5 : decode cX7_kind 5 = .ok (.iaload, 1) := by decide +kernel
theorem dX7_kind_6 : decode cX7_kind 6 = .ok (.istore_n 2, 1) := by decide +kernel
theorem dX7_kind_7 : decode cX7_kind 7 = .ok (.aload_n 0, 1) := by decide +kernel
theorem dX7_kind_8 : decode cX7_kind 8 = .ok (.iload_n 1, 1) := by decide +kernel
theorem dX7_kind_9 : decode cX7_kind 9 = .ok (.iload_n 2, 1) := by decide +kernel
theorem dX7_kind_10 : decode cX7_kind 10 = .ok (.invokevirtual 120, 3) := by decide +kernel
theorem dX7_kind_13 : decode cX7_kind 13 = .ok (.istore_n 3, 1) := by decide +kernel
theorem dX7_kind_14 : decode cX7_kind 14 = .ok (.aload_n 0, 1) := by decide +kernel
theorem dX7_kind_15 : decode cX7_kind 15 = .ok (.iload_n 1, 1) := by decide +kernel
theorem dX7_kind_16 : decode cX7_kind 16 = .ok (.iload_n 2, 1) := by decide +kernel
theorem dX7_kind_17 : decode cX7_kind 17 = .ok (.invokevirtual 123, 3) := by decide +kernel
theorem dX7_kind_20 : decode cX7_kind 20 = .ok (.ifCond .ne 7, 3) := by decide +kernel
theorem dX7_kind_23 : decode cX7_kind 23 = .ok (.iconst 1, 1) := by decide +kernel
theorem dX7_kind_24 : decode cX7_kind 24 = .ok (.goto 30, 3) := by decide +kernel
theorem dX7_kind_27 : decode cX7_kind 27 = .ok (.iload_n 3, 1) := by decide +kernel
theorem dX7_kind_28 : decode cX7_kind 28 = .ok (.aload_n 0, 1) := by decide +kernel
theorem dX7_kind_29 : decode cX7_kind 29 = .ok (.iload_n 1, 1) := by decide +kernel
theorem dX7_kind_30 : decode cX7_kind 30 = .ok (.iload_n 2, 1) := by decide +kernel
theorem dX7_kind_31 : decode cX7_kind 31 = .ok (.invokevirtual 116, 3) := by decide +kernel
theorem dX7_kind_34 : decode cX7_kind 34 = .ok (.if_icmp .eq 7, 3) := by decide +kernel
theorem dX7_kind_37 : decode cX7_kind 37 = .ok (.iconst 2, 1) := by decide +kernel
theorem dX7_kind_38 : decode cX7_kind 38 = .ok (.goto 16, 3) := by decide +kernel
theorem dX7_kind_41 : decode cX7_kind 41 = .ok (.iload_n 3, 1) := by decide +kernel
theorem dX7_kind_42 : decode cX7_kind 42 = .ok (.aload_n 0, 1) := by decide +kernel
theorem dX7_kind_43 : decode cX7_kind 43 = .ok (.getfield 14, 3) := by decide +kernel
theorem dX7_kind_46 : decode cX7_kind 46 = .ok (.if_icmp .lt 7, 3) := by decide +kernel
theorem dX7_kind_49 : decode cX7_kind 49 = .ok (.iconst 3, 1) := by decide +kernel
theorem dX7_kind_50 : decode cX7_kind 50 = .ok (.goto 4, 3) := by decide +kernel
theorem dX7_kind_53 : decode cX7_kind 53 = .ok (.iconst 0, 1) := by decide +kernel
theorem dX7_kind_54 : decode cX7_kind 54 = .ok (.ireturn, 1) := by decide +kernel
set_option maxRecDepth 20000 in
theorem ggX7_told_X7_isWill : GoodIn wsX7_told wsX7_isWill := goodIn_r _ [9, 10, 11, 12, 8, 13, 42, 43, 44, 45, 46, 47, 48, 49, 50, 51, 52, 53, 54, 55, 56, 57, 58, 59, 60, 61, 62, 63, 64, 65, 66, 67, 68, 69] (by decide +kernel) (by decide +kernel)
set_option maxRecDepth 20000 in
theorem gX7_told_X7_isWill : GoodIn wsX7_told (wsV RX7 111 RX7 yX7_isWill wsX7_isWill) := goodIn_app (goodIn_of _ (by decide +kernel)) ggX7_told_X7_isWill
set_option maxRecDepth 20000 in
theorem ggX7_told_X7_in : GoodIn wsX7_told wsX7_in := goodIn_r _ [13] (by decide +kernel) (by decide +kernel)
set_option maxRecDepth 20000 in
theorem gX7_told_X7_in : GoodIn wsX7_told (va_wsS RX7 83 yX7_in wsX7_in) := goodIn_app (goodIn_of _ (by decide +kernel)) ggX7_told_X7_in
set_option maxRecDepth 20000 in
theorem ggX7_told_X7_seen : GoodIn wsX7_told wsX7_seen := goodIn_r _ [17, 18, 4, 19, 42, 43, 44, 45, 46, 47, 48, 49, 50, 51, 52, 53, 54, 55, 56, 57, 58, 59, 60, 61, 62, 63, 64, 65, 66, 67, 68, 69] (by decide +kernel) (by decide +kernel)
set_option maxRecDepth 20000 in
theorem gX7_told_X7_seen : GoodIn wsX7_told (wsV RX7 116 RX7 yX7_seen wsX7_seen) := goodIn_app (goodIn_of _ (by decide +kernel)) ggX7_told_X7_seen
set_option maxRecDepth 20000 in
theorem ggX7_told_X7_sworn : GoodIn wsX7_told wsX7_sworn := goodIn_r _ [23, 24, 25, 14, 15, 16, 8, 17, 18, 4, 19, 42, 43, 44, 45, 46, 47, 48, 49, 50, 51, 52, 53, 54, 55, 56, 57, 58, 59, 60, 61, 62, 63, 64, 65, 66, 67, 68, 69] (by decide +kernel) (by decide +kernel)
set_option maxRecDepth 20000 in
theorem gX7_told_X7_sworn : GoodIn wsX7_told (wsV RX7 120 RX7 yX7_sworn wsX7_sworn) := goodIn_app (goodIn_of _ (by decide +kernel)) ggX7_told_X7_sworn
set_option maxRecDepth 20000 in
theorem ggX7_told_X7_isBooked : GoodIn wsX7_told wsX7_isBooked := goodIn_r _ [29, 30, 20, 21, 22, 8, 23, 24, 25, 14, 15, 16, 17, 18, 4, 19, 42, 43, 44, 45, 46, 47, 48, 49, 50, 51, 52, 53, 54, 55, 56, 57, 58, 59, 60, 61, 62, 63, 64, 65, 66, 67, 68, 69] (by decide +kernel) (by decide +kernel)
set_option maxRecDepth 20000 in
theorem gX7_told_X7_isBooked : GoodIn wsX7_told (wsV RX7 123 RX7 yX7_isBooked wsX7_isBooked) := goodIn_app (goodIn_of _ (by decide +kernel)) ggX7_told_X7_isBooked
set_option maxRecDepth 20000 in
theorem ggX7_told_X7_weight : GoodIn wsX7_told wsX7_weight := goodIn_r _ [34, 35, 36, 37, 3, 20, 21, 22, 8, 23, 24, 25, 14, 15, 16, 17, 18, 4, 19, 42, 43, 44, 45, 46, 47, 48, 49, 50, 51, 52, 53, 54, 55, 56, 57, 58, 59, 60, 61, 62, 63, 64, 65, 66, 67, 68, 69] (by decide +kernel) (by decide +kernel)
set_option maxRecDepth 20000 in
theorem gX7_told_X7_weight : GoodIn wsX7_told (wsV RX7 127 RX7 yX7_weight wsX7_weight) := goodIn_app (goodIn_of _ (by decide +kernel)) ggX7_told_X7_weight
set_option maxRecDepth 20000 in
theorem ggX7_told_X7_kind : GoodIn wsX7_told wsX7_kind := goodIn_r _ [41, 2, 35, 20, 21, 22, 8, 23, 24, 25, 14, 15, 16, 17, 18, 4, 19, 26, 27, 28, 29, 30, 42, 43, 44, 45, 46, 47, 48, 49, 50, 51, 52, 53, 54, 55, 56, 57, 58, 59, 60, 61, 62, 63, 64, 65, 66, 67, 68, 69] (by decide +kernel) (by decide +kernel)
set_option maxRecDepth 20000 in
theorem gX7_told_X7_kind : GoodIn wsX7_told (wsV RX7 130 RX7 yX7_kind wsX7_kind) := goodIn_app (goodIn_of _ (by decide +kernel)) ggX7_told_X7_kind
theorem dX7_told_0 : decode cX7_told 0 = .ok (.aload_n 0, 1) := by decide +kernel
theorem dX7_told_1 : decode cX7_told 1 = .ok (.iload_n 1, 1) := by decide +kernel
theorem dX7_told_2 : decode cX7_told 2 = .ok (.invokevirtual 111, 3) := by decide +kernel
theorem dX7_told_5 : decode cX7_told 5 = .ok (.ifCond .eq 15, 3) := by decide +kernel
theorem dX7_told_8 : decode cX7_told 8 = .ok (.iload_n 2, 1) := by decide +kernel
theorem dX7_told_9 : decode cX7_told 9 = .ok (.i2l, 1) := by decide +kernel
theorem dX7_told_10 : decode cX7_told 10 = .ok (.lconst 0, 1) := by decide +kernel
theorem dX7_told_11 : decode cX7_told 11 = .ok (.ldc2_w 81, 3) := by decide +kernel
theorem dX7_told_14 : decode cX7_told 14 = .ok (.invokestatic 83, 3) := by decide +kernel
theorem dX7_told_17 : decode cX7_told 17 = .ok (.ifCond .ne 5, 3) := by decide +kernel
theorem dX7_told_20 : decode cX7_told 20 = .ok (.iconst (-1), 1) := by decide +kernel
theorem dX7_told_21 : decode cX7_told 21 = .ok (.ireturn, 1) := by decide +kernel
theorem dX7_told_22 : decode cX7_told 22 = .ok (.aload_n 0, 1) := by decide +kernel
theorem dX7_told_23 : decode cX7_told 23 = .ok (.getfield 18, 3) := by decide +kernel
theorem dX7_told_26 : decode cX7_told 26 = .ok (.iload_n 1, 1) := by decide +kernel
theorem dX7_told_27 : decode cX7_told 27 = .ok (.iaload, 1) := by decide +kernel
theorem dX7_told_28 : decode cX7_told 28 = .ok (.istore_n 3, 1) := by decide +kernel
theorem dX7_told_29 : decode cX7_told 29 = .ok (.iload_n 2, 1) := by decide +kernel
theorem dX7_told_30 : decode cX7_told 30 = .ok (.tableswitch 94 0 6 #[42, 44, 51, 58, 65, 72, 87], 42) := by decide +kernel
theorem dX7_told_72 : decode cX7_told 72 = .ok (.iload_n 3, 1) := by decide +kernel
theorem dX7_told_73 : decode cX7_told 73 = .ok (.ireturn, 1) := by decide +kernel
theorem dX7_told_74 : decode cX7_told 74 = .ok (.aload_n 0, 1) := by decide +kernel
theorem dX7_told_75 : decode cX7_told 75 = .ok (.getfield 21, 3) := by decide +kernel
theorem dX7_told_78 : decode cX7_told 78 = .ok (.iload_n 1, 1) := by decide +kernel
theorem dX7_told_79 : decode cX7_told 79 = .ok (.iaload, 1) := by decide +kernel
theorem dX7_told_80 : decode cX7_told 80 = .ok (.ireturn, 1) := by decide +kernel
theorem dX7_told_81 : decode cX7_told 81 = .ok (.aload_n 0, 1) := by decide +kernel
theorem dX7_told_82 : decode cX7_told 82 = .ok (.getfield 24, 3) := by decide +kernel
theorem dX7_told_85 : decode cX7_told 85 = .ok (.iload_n 1, 1) := by decide +kernel
theorem dX7_told_86 : decode cX7_told 86 = .ok (.iaload, 1) := by decide +kernel
theorem dX7_told_87 : decode cX7_told 87 = .ok (.ireturn, 1) := by decide +kernel
theorem dX7_told_88 : decode cX7_told 88 = .ok (.aload_n 0, 1) := by decide +kernel
theorem dX7_told_89 : decode cX7_told 89 = .ok (.iload_n 1, 1) := by decide +kernel
theorem dX7_told_90 : decode cX7_told 90 = .ok (.iload_n 3, 1) := by decide +kernel
theorem dX7_told_91 : decode cX7_told 91 = .ok (.invokevirtual 116, 3) := by decide +kernel
theorem dX7_told_94 : decode cX7_told 94 = .ok (.ireturn, 1) := by decide +kernel
theorem dX7_told_95 : decode cX7_told 95 = .ok (.aload_n 0, 1) := by decide +kernel
theorem dX7_told_96 : decode cX7_told 96 = .ok (.iload_n 1, 1) := by decide +kernel
theorem dX7_told_97 : decode cX7_told 97 = .ok (.iload_n 3, 1) := by decide +kernel
theorem dX7_told_98 : decode cX7_told 98 = .ok (.invokevirtual 120, 3) := by decide +kernel
theorem dX7_told_101 : decode cX7_told 101 = .ok (.ireturn, 1) := by decide +kernel
theorem dX7_told_102 : decode cX7_told 102 = .ok (.aload_n 0, 1) := by decide +kernel
theorem dX7_told_103 : decode cX7_told 103 = .ok (.iload_n 1, 1) := by decide +kernel
theorem dX7_told_104 : decode cX7_told 104 = .ok (.iload_n 3, 1) := by decide +kernel
theorem dX7_told_105 : decode cX7_told 105 = .ok (.invokevirtual 123, 3) := by decide +kernel
theorem dX7_told_108 : decode cX7_told 108 = .ok (.ifCond .eq 7, 3) := by decide +kernel
theorem dX7_told_111 : decode cX7_told 111 = .ok (.iconst 1, 1) := by decide +kernel
theorem dX7_told_112 : decode cX7_told 112 = .ok (.goto 4, 3) := by decide +kernel
theorem dX7_told_115 : decode cX7_told 115 = .ok (.iconst 0, 1) := by decide +kernel
theorem dX7_told_116 : decode cX7_told 116 = .ok (.ireturn, 1) := by decide +kernel
theorem dX7_told_117 : decode cX7_told 117 = .ok (.aload_n 0, 1) := by decide +kernel
theorem dX7_told_118 : decode cX7_told 118 = .ok (.iload_n 1, 1) := by decide +kernel
theorem dX7_told_119 : decode cX7_told 119 = .ok (.iload_n 3, 1) := by decide +kernel
theorem dX7_told_120 : decode cX7_told 120 = .ok (.invokevirtual 127, 3) := by decide +kernel
theorem dX7_told_123 : decode cX7_told 123 = .ok (.ireturn, 1) := by decide +kernel
theorem dX7_told_124 : decode cX7_told 124 = .ok (.aload_n 0, 1) := by decide +kernel
theorem dX7_told_125 : decode cX7_told 125 = .ok (.iload_n 1, 1) := by decide +kernel
theorem dX7_told_126 : decode cX7_told 126 = .ok (.invokevirtual 130, 3) := by decide +kernel
theorem dX7_told_129 : decode cX7_told 129 = .ok (.ireturn, 1) := by decide +kernel
set_option maxRecDepth 20000 in
theorem ggX7_burn_X7_isWill : GoodIn wsX7_burn wsX7_isWill := goodIn_r _ [10, 1, 11, 12, 9, 13, 14, 15, 16, 17, 18, 19, 20, 21, 22, 23, 24, 25, 26, 27, 28, 29, 30, 31, 32, 33, 34, 35, 36, 37, 38, 39, 40, 41] (by decide +kernel) (by decide +kernel)
set_option maxRecDepth 20000 in
theorem gX7_burn_X7_isWill : GoodIn wsX7_burn (wsV RX7 111 RX7 yX7_isWill wsX7_isWill) := goodIn_app (goodIn_of _ (by decide +kernel)) ggX7_burn_X7_isWill
theorem dX7_burn_0 : decode cX7_burn 0 = .ok (.aload_n 0, 1) := by decide +kernel
theorem dX7_burn_1 : decode cX7_burn 1 = .ok (.iload_n 1, 1) := by decide +kernel
theorem dX7_burn_2 : decode cX7_burn 2 = .ok (.invokevirtual 111, 3) := by decide +kernel
theorem dX7_burn_5 : decode cX7_burn 5 = .ok (.ifCond .ne 5, 3) := by decide +kernel
theorem dX7_burn_8 : decode cX7_burn 8 = .ok (.iconst (-1), 1) := by decide +kernel
theorem dX7_burn_9 : decode cX7_burn 9 = .ok (.ireturn, 1) := by decide +kernel
theorem dX7_burn_10 : decode cX7_burn 10 = .ok (.aload_n 0, 1) := by decide +kernel
theorem dX7_burn_11 : decode cX7_burn 11 = .ok (.dup, 1) := by decide +kernel
theorem dX7_burn_12 : decode cX7_burn 12 = .ok (.getfield 87, 3) := by decide +kernel
theorem dX7_burn_15 : decode cX7_burn 15 = .ok (.iconst 1, 1) := by decide +kernel
theorem dX7_burn_16 : decode cX7_burn 16 = .ok (.isub, 1) := by decide +kernel
theorem dX7_burn_17 : decode cX7_burn 17 = .ok (.putfield 87, 3) := by decide +kernel
theorem dX7_burn_20 : decode cX7_burn 20 = .ok (.iload_n 1, 1) := by decide +kernel
theorem dX7_burn_21 : decode cX7_burn 21 = .ok (.istore_n 2, 1) := by decide +kernel
theorem dX7_burn_22 : decode cX7_burn 22 = .ok (.iload_n 2, 1) := by decide +kernel
theorem dX7_burn_23 : decode cX7_burn 23 = .ok (.aload_n 0, 1) := by decide +kernel
theorem dX7_burn_24 : decode cX7_burn 24 = .ok (.getfield 87, 3) := by decide +kernel
theorem dX7_burn_27 : decode cX7_burn 27 = .ok (.if_icmp .ge 86, 3) := by decide +kernel
theorem dX7_burn_30 : decode cX7_burn 30 = .ok (.aload_n 0, 1) := by decide +kernel
theorem dX7_burn_31 : decode cX7_burn 31 = .ok (.getfield 18, 3) := by decide +kernel
theorem dX7_burn_34 : decode cX7_burn 34 = .ok (.iload_n 2, 1) := by decide +kernel
theorem dX7_burn_35 : decode cX7_burn 35 = .ok (.aload_n 0, 1) := by decide +kernel
theorem dX7_burn_36 : decode cX7_burn 36 = .ok (.getfield 18, 3) := by decide +kernel
theorem dX7_burn_39 : decode cX7_burn 39 = .ok (.iload_n 2, 1) := by decide +kernel
theorem dX7_burn_40 : decode cX7_burn 40 = .ok (.iconst 1, 1) := by decide +kernel
theorem dX7_burn_41 : decode cX7_burn 41 = .ok (.iadd, 1) := by decide +kernel
theorem dX7_burn_42 : decode cX7_burn 42 = .ok (.iaload, 1) := by decide +kernel
theorem dX7_burn_43 : decode cX7_burn 43 = .ok (.iastore, 1) := by decide +kernel
theorem dX7_burn_44 : decode cX7_burn 44 = .ok (.aload_n 0, 1) := by decide +kernel
theorem dX7_burn_45 : decode cX7_burn 45 = .ok (.getfield 21, 3) := by decide +kernel
theorem dX7_burn_48 : decode cX7_burn 48 = .ok (.iload_n 2, 1) := by decide +kernel
theorem dX7_burn_49 : decode cX7_burn 49 = .ok (.aload_n 0, 1) := by decide +kernel
theorem dX7_burn_50 : decode cX7_burn 50 = .ok (.getfield 21, 3) := by decide +kernel
theorem dX7_burn_53 : decode cX7_burn 53 = .ok (.iload_n 2, 1) := by decide +kernel
theorem dX7_burn_54 : decode cX7_burn 54 = .ok (.iconst 1, 1) := by decide +kernel
theorem dX7_burn_55 : decode cX7_burn 55 = .ok (.iadd, 1) := by decide +kernel
theorem dX7_burn_56 : decode cX7_burn 56 = .ok (.iaload, 1) := by decide +kernel
theorem dX7_burn_57 : decode cX7_burn 57 = .ok (.iastore, 1) := by decide +kernel
theorem dX7_burn_58 : decode cX7_burn 58 = .ok (.aload_n 0, 1) := by decide +kernel
theorem dX7_burn_59 : decode cX7_burn 59 = .ok (.getfield 24, 3) := by decide +kernel
theorem dX7_burn_62 : decode cX7_burn 62 = .ok (.iload_n 2, 1) := by decide +kernel
theorem dX7_burn_63 : decode cX7_burn 63 = .ok (.aload_n 0, 1) := by decide +kernel
theorem dX7_burn_64 : decode cX7_burn 64 = .ok (.getfield 24, 3) := by decide +kernel
theorem dX7_burn_67 : decode cX7_burn 67 = .ok (.iload_n 2, 1) := by decide +kernel
theorem dX7_burn_68 : decode cX7_burn 68 = .ok (.iconst 1, 1) := by decide +kernel
theorem dX7_burn_69 : decode cX7_burn 69 = .ok (.iadd, 1) := by decide +kernel
theorem dX7_burn_70 : decode cX7_burn 70 = .ok (.iaload, 1) := by decide +kernel
theorem dX7_burn_71 : decode cX7_burn 71 = .ok (.iastore, 1) := by decide +kernel
theorem dX7_burn_72 : decode cX7_burn 72 = .ok (.iconst 0, 1) := by decide +kernel
theorem dX7_burn_73 : decode cX7_burn 73 = .ok (.istore_n 3, 1) := by decide +kernel
theorem dX7_burn_74 : decode cX7_burn 74 = .ok (.iload_n 3, 1) := by decide +kernel
theorem dX7_burn_75 : decode cX7_burn 75 = .ok (.iconst 4, 1) := by decide +kernel
theorem dX7_burn_76 : decode cX7_burn 76 = .ok (.if_icmp .ge 31, 3) := by decide +kernel
theorem dX7_burn_79 : decode cX7_burn 79 = .ok (.aload_n 0, 1) := by decide +kernel
theorem dX7_burn_80 : decode cX7_burn 80 = .ok (.getfield 27, 3) := by decide +kernel
theorem dX7_burn_83 : decode cX7_burn 83 = .ok (.iconst 4, 1) := by decide +kernel
theorem dX7_burn_84 : decode cX7_burn 84 = .ok (.iload_n 2, 1) := by decide +kernel
theorem dX7_burn_85 : decode cX7_burn 85 = .ok (.imul, 1) := by decide +kernel
theorem dX7_burn_86 : decode cX7_burn 86 = .ok (.iload_n 3, 1) := by decide +kernel
theorem dX7_burn_87 : decode cX7_burn 87 = .ok (.iadd, 1) := by decide +kernel
theorem dX7_burn_88 : decode cX7_burn 88 = .ok (.aload_n 0, 1) := by decide +kernel
theorem dX7_burn_89 : decode cX7_burn 89 = .ok (.getfield 27, 3) := by decide +kernel
theorem dX7_burn_92 : decode cX7_burn 92 = .ok (.iconst 4, 1) := by decide +kernel
theorem dX7_burn_93 : decode cX7_burn 93 = .ok (.iload_n 2, 1) := by decide +kernel
theorem dX7_burn_94 : decode cX7_burn 94 = .ok (.imul, 1) := by decide +kernel
theorem dX7_burn_95 : decode cX7_burn 95 = .ok (.iconst 4, 1) := by decide +kernel
theorem dX7_burn_96 : decode cX7_burn 96 = .ok (.iadd, 1) := by decide +kernel
theorem dX7_burn_97 : decode cX7_burn 97 = .ok (.iload_n 3, 1) := by decide +kernel
theorem dX7_burn_98 : decode cX7_burn 98 = .ok (.iadd, 1) := by decide +kernel
theorem dX7_burn_99 : decode cX7_burn 99 = .ok (.iaload, 1) := by decide +kernel
theorem dX7_burn_100 : decode cX7_burn 100 = .ok (.iastore, 1) := by decide +kernel
theorem dX7_burn_101 : decode cX7_burn 101 = .ok (.iinc 3 1, 3) := by decide +kernel
theorem dX7_burn_104 : decode cX7_burn 104 = .ok (.goto (-30), 3) := by decide +kernel
theorem dX7_burn_107 : decode cX7_burn 107 = .ok (.iinc 2 1, 3) := by decide +kernel
theorem dX7_burn_110 : decode cX7_burn 110 = .ok (.goto (-88), 3) := by decide +kernel
theorem dX7_burn_113 : decode cX7_burn 113 = .ok (.aload_n 0, 1) := by decide +kernel
theorem dX7_burn_114 : decode cX7_burn 114 = .ok (.getfield 87, 3) := by decide +kernel
theorem dX7_burn_117 : decode cX7_burn 117 = .ok (.ireturn, 1) := by decide +kernel
set_option maxRecDepth 20000 in
theorem ggX7_draw_X7_isYear : GoodIn wsX7_draw wsX7_isYear := goodIn_r _ [8, 9, 10, 11, 7, 12] (by decide +kernel) (by decide +kernel)
set_option maxRecDepth 20000 in
theorem gX7_draw_X7_isYear : GoodIn wsX7_draw (va_wsS RX7 101 yX7_isYear wsX7_isYear) := goodIn_app (goodIn_of _ (by decide +kernel)) ggX7_draw_X7_isYear
set_option maxRecDepth 20000 in
theorem ggX7_draw_X7_in : GoodIn wsX7_draw wsX7_in := goodIn_r _ [12] (by decide +kernel) (by decide +kernel)
set_option maxRecDepth 20000 in
theorem gX7_draw_X7_in : GoodIn wsX7_draw (va_wsS RX7 83 yX7_in wsX7_in) := goodIn_app (goodIn_of _ (by decide +kernel)) ggX7_draw_X7_in
set_option maxRecDepth 20000 in
theorem ggX7_draw_X7_comes : GoodIn wsX7_draw wsX7_comes := goodIn_r _ [16, 17, 2, 18, 19, 20, 21, 22, 23, 24, 25, 26, 27, 28, 29, 30, 31, 32, 33, 34, 35, 36, 37, 38, 39, 40, 41, 42, 43, 44, 45, 46, 47, 48] (by decide +kernel) (by decide +kernel)
set_option maxRecDepth 20000 in
theorem gX7_draw_X7_comes : GoodIn wsX7_draw (wsV RX7 107 RX7 yX7_comes wsX7_comes) := goodIn_app (goodIn_of _ (by decide +kernel)) ggX7_draw_X7_comes
theorem dX7_draw_0 : decode cX7_draw 0 = .ok (.iload_n 3, 1) := by decide +kernel
theorem dX7_draw_1 : decode cX7_draw 1 = .ok (.invokestatic 101, 3) := by decide +kernel
theorem dX7_draw_4 : decode cX7_draw 4 = .ok (.ifCond .eq 16, 3) := by decide +kernel
theorem dX7_draw_7 : decode cX7_draw 7 = .ok (.iload 4, 2) := by decide +kernel
theorem dX7_draw_9 : decode cX7_draw 9 = .ok (.i2l, 1) := by decide +kernel
theorem dX7_draw_10 : decode cX7_draw 10 = .ok (.lconst 1, 1) := by decide +kernel
theorem dX7_draw_11 : decode cX7_draw 11 = .ok (.ldc2_w 134, 3) := by decide +kernel
theorem dX7_draw_14 : decode cX7_draw 14 = .ok (.invokestatic 83, 3) := by decide +kernel
theorem dX7_draw_17 : decode cX7_draw 17 = .ok (.ifCond .ne 5, 3) := by decide +kernel
theorem dX7_draw_20 : decode cX7_draw 20 = .ok (.iconst (-1), 1) := by decide +kernel
theorem dX7_draw_21 : decode cX7_draw 21 = .ok (.ireturn, 1) := by decide +kernel
theorem dX7_draw_22 : decode cX7_draw 22 = .ok (.aload_n 0, 1) := by decide +kernel
theorem dX7_draw_23 : decode cX7_draw 23 = .ok (.getfield 87, 3) := by decide +kernel
theorem dX7_draw_26 : decode cX7_draw 26 = .ok (.iload 4, 2) := by decide +kernel
theorem dX7_draw_28 : decode cX7_draw 28 = .ok (.iadd, 1) := by decide +kernel
theorem dX7_draw_29 : decode cX7_draw 29 = .ok (.bipush 24, 2) := by decide +kernel
theorem dX7_draw_31 : decode cX7_draw 31 = .ok (.if_icmp .le 6, 3) := by decide +kernel
theorem dX7_draw_34 : decode cX7_draw 34 = .ok (.bipush (-3), 2) := by decide +kernel
theorem dX7_draw_36 : decode cX7_draw 36 = .ok (.ireturn, 1) := by decide +kernel
theorem dX7_draw_37 : decode cX7_draw 37 = .ok (.lload_n 1, 1) := by decide +kernel
theorem dX7_draw_38 : decode cX7_draw 38 = .ok (.lstore 5, 2) := by decide +kernel
theorem dX7_draw_40 : decode cX7_draw 40 = .ok (.iconst 0, 1) := by decide +kernel
theorem dX7_draw_41 : decode cX7_draw 41 = .ok (.istore 7, 2) := by decide +kernel
theorem dX7_draw_43 : decode cX7_draw 43 = .ok (.iload 7, 2) := by decide +kernel
theorem dX7_draw_45 : decode cX7_draw 45 = .ok (.iload 4, 2) := by decide +kernel
theorem dX7_draw_47 : decode cX7_draw 47 = .ok (.if_icmp .ge 69, 3) := by decide +kernel
theorem dX7_draw_50 : decode cX7_draw 50 = .ok (.lload 5, 2) := by decide +kernel
theorem dX7_draw_52 : decode cX7_draw 52 = .ok (.ldc2_w 136, 3) := by decide +kernel
theorem dX7_draw_55 : decode cX7_draw 55 = .ok (.lmul, 1) := by decide +kernel
theorem dX7_draw_56 : decode cX7_draw 56 = .ok (.ldc2_w 138, 3) := by decide +kernel
theorem dX7_draw_59 : decode cX7_draw 59 = .ok (.ladd, 1) := by decide +kernel
theorem dX7_draw_60 : decode cX7_draw 60 = .ok (.lstore 5, 2) := by decide +kernel
theorem dX7_draw_62 : decode cX7_draw 62 = .ok (.lload 5, 2) := by decide +kernel
theorem dX7_draw_64 : decode cX7_draw 64 = .ok (.bipush 33, 2) := by decide +kernel
theorem dX7_draw_66 : decode cX7_draw 66 = .ok (.lushr, 1) := by decide +kernel
theorem dX7_draw_67 : decode cX7_draw 67 = .ok (.l2i, 1) := by decide +kernel
theorem dX7_draw_68 : decode cX7_draw 68 = .ok (.istore 8, 2) := by decide +kernel
theorem dX7_draw_70 : decode cX7_draw 70 = .ok (.iload 8, 2) := by decide +kernel
theorem dX7_draw_72 : decode cX7_draw 72 = .ok (.bipush 12, 2) := by decide +kernel
theorem dX7_draw_74 : decode cX7_draw 74 = .ok (.idiv, 1) := by decide +kernel
theorem dX7_draw_75 : decode cX7_draw 75 = .ok (.sipush 10000, 3) := by decide +kernel
theorem dX7_draw_78 : decode cX7_draw 78 = .ok (.irem, 1) := by decide +kernel
theorem dX7_draw_79 : decode cX7_draw 79 = .ok (.istore 9, 2) := by decide +kernel
theorem dX7_draw_81 : decode cX7_draw 81 = .ok (.aload_n 0, 1) := by decide +kernel
theorem dX7_draw_82 : decode cX7_draw 82 = .ok (.iload_n 3, 1) := by decide +kernel
theorem dX7_draw_83 : decode cX7_draw 83 = .ok (.iload 8, 2) := by decide +kernel
theorem dX7_draw_85 : decode cX7_draw 85 = .ok (.bipush 6, 2) := by decide +kernel
theorem dX7_draw_87 : decode cX7_draw 87 = .ok (.irem, 1) := by decide +kernel
theorem dX7_draw_88 : decode cX7_draw 88 = .ok (.iload 8, 2) := by decide +kernel
theorem dX7_draw_90 : decode cX7_draw 90 = .ok (.bipush 6, 2) := by decide +kernel
theorem dX7_draw_92 : decode cX7_draw 92 = .ok (.idiv, 1) := by decide +kernel
theorem dX7_draw_93 : decode cX7_draw 93 = .ok (.iconst 2, 1) := by decide +kernel
theorem dX7_draw_94 : decode cX7_draw 94 = .ok (.irem, 1) := by decide +kernel
theorem dX7_draw_95 : decode cX7_draw 95 = .ok (.iload 9, 2) := by decide +kernel
theorem dX7_draw_97 : decode cX7_draw 97 = .ok (.iload 9, 2) := by decide +kernel
theorem dX7_draw_99 : decode cX7_draw 99 = .ok (.imul, 1) := by decide +kernel
theorem dX7_draw_100 : decode cX7_draw 100 = .ok (.sipush 10000, 3) := by decide +kernel
theorem dX7_draw_103 : decode cX7_draw 103 = .ok (.idiv, 1) := by decide +kernel
theorem dX7_draw_104 : decode cX7_draw 104 = .ok (.iconst 0, 1) := by decide +kernel
theorem dX7_draw_105 : decode cX7_draw 105 = .ok (.iconst 0, 1) := by decide +kernel
theorem dX7_draw_106 : decode cX7_draw 106 = .ok (.iconst 0, 1) := by decide +kernel
theorem dX7_draw_107 : decode cX7_draw 107 = .ok (.invokevirtual 107, 3) := by decide +kernel
theorem dX7_draw_110 : decode cX7_draw 110 = .ok (.iinc 7 1, 3) := by decide +kernel
theorem dX7_draw_113 : decode cX7_draw 113 = .ok (.goto (-70), 3) := by decide +kernel
theorem dX7_draw_116 : decode cX7_draw 116 = .ok (.aload_n 0, 1) := by decide +kernel
theorem dX7_draw_117 : decode cX7_draw 117 = .ok (.getfield 87, 3) := by decide +kernel
theorem dX7_draw_120 : decode cX7_draw 120 = .ok (.ireturn, 1) := by decide +kernel
set_option maxRecDepth 20000 in
theorem ggX7_people_X7_isYear : GoodIn wsX7_people wsX7_isYear := goodIn_r _ [8, 9, 10, 11, 7, 12] (by decide +kernel) (by decide +kernel)
set_option maxRecDepth 20000 in
theorem gX7_people_X7_isYear : GoodIn wsX7_people (va_wsS RX7 101 yX7_isYear wsX7_isYear) := goodIn_app (goodIn_of _ (by decide +kernel)) ggX7_people_X7_isYear
set_option maxRecDepth 20000 in
theorem ggX7_people_X7_in : GoodIn wsX7_people wsX7_in := goodIn_r _ [12] (by decide +kernel) (by decide +kernel)
set_option maxRecDepth 20000 in
theorem gX7_people_X7_in : GoodIn wsX7_people (va_wsS RX7 83 yX7_in wsX7_in) := goodIn_app (goodIn_of _ (by decide +kernel)) ggX7_people_X7_in
theorem dX7_people_0 : decode cX7_people 0 = .ok (.iload_n 1, 1) := by decide +kernel
theorem dX7_people_1 : decode cX7_people 1 = .ok (.invokestatic 101, 3) := by decide +kernel
theorem dX7_people_4 : decode cX7_people 4 = .ok (.ifCond .eq 35, 3) := by decide +kernel
theorem dX7_people_7 : decode cX7_people 7 = .ok (.iload_n 2, 1) := by decide +kernel
theorem dX7_people_8 : decode cX7_people 8 = .ok (.i2l, 1) := by decide +kernel
theorem dX7_people_9 : decode cX7_people 9 = .ok (.lconst 0, 1) := by decide +kernel
theorem dX7_people_10 : decode cX7_people 10 = .ok (.lconst 1, 1) := by decide +kernel
theorem dX7_people_11 : decode cX7_people 11 = .ok (.invokestatic 83, 3) := by decide +kernel
theorem dX7_people_14 : decode cX7_people 14 = .ok (.ifCond .eq 25, 3) := by decide +kernel
theorem dX7_people_17 : decode cX7_people 17 = .ok (.iload_n 3, 1) := by decide +kernel
theorem dX7_people_18 : decode cX7_people 18 = .ok (.i2l, 1) := by decide +kernel
theorem dX7_people_19 : decode cX7_people 19 = .ok (.lconst 1, 1) := by decide +kernel
theorem dX7_people_20 : decode cX7_people 20 = .ok (.iload_n 2, 1) := by decide +kernel
theorem dX7_people_21 : decode cX7_people 21 = .ok (.ifCond .ne 9, 3) := by decide +kernel
theorem dX7_people_24 : decode cX7_people 24 = .ok (.ldc2_w 140, 3) := by decide +kernel
theorem dX7_people_27 : decode cX7_people 27 = .ok (.goto 6, 3) := by decide +kernel
theorem dX7_people_30 : decode cX7_people 30 = .ok (.ldc2_w 142, 3) := by decide +kernel
theorem dX7_people_33 : decode cX7_people 33 = .ok (.invokestatic 83, 3) := by decide +kernel
theorem dX7_people_36 : decode cX7_people 36 = .ok (.ifCond .ne 5, 3) := by decide +kernel
theorem dX7_people_39 : decode cX7_people 39 = .ok (.iconst (-1), 1) := by decide +kernel
theorem dX7_people_40 : decode cX7_people 40 = .ok (.ireturn, 1) := by decide +kernel
theorem dX7_people_41 : decode cX7_people 41 = .ok (.iload_n 2, 1) := by decide +kernel
theorem dX7_people_42 : decode cX7_people 42 = .ok (.ifCond .ne 12, 3) := by decide +kernel
theorem dX7_people_45 : decode cX7_people 45 = .ok (.aload_n 0, 1) := by decide +kernel
theorem dX7_people_46 : decode cX7_people 46 = .ok (.getfield 42, 3) := by decide +kernel
theorem dX7_people_49 : decode cX7_people 49 = .ok (.iload_n 1, 1) := by decide +kernel
theorem dX7_people_50 : decode cX7_people 50 = .ok (.iaload, 1) := by decide +kernel
theorem dX7_people_51 : decode cX7_people 51 = .ok (.goto 9, 3) := by decide +kernel
theorem dX7_people_54 : decode cX7_people 54 = .ok (.aload_n 0, 1) := by decide +kernel
theorem dX7_people_55 : decode cX7_people 55 = .ok (.getfield 45, 3) := by decide +kernel
theorem dX7_people_58 : decode cX7_people 58 = .ok (.iload_n 1, 1) := by decide +kernel
theorem dX7_people_59 : decode cX7_people 59 = .ok (.iaload, 1) := by decide +kernel
theorem dX7_people_60 : decode cX7_people 60 = .ok (.istore 4, 2) := by decide +kernel
theorem dX7_people_62 : decode cX7_people 62 = .ok (.iload_n 2, 1) := by decide +kernel
theorem dX7_people_63 : decode cX7_people 63 = .ok (.ifCond .ne 13, 3) := by decide +kernel
theorem dX7_people_66 : decode cX7_people 66 = .ok (.aload_n 0, 1) := by decide +kernel
theorem dX7_people_67 : decode cX7_people 67 = .ok (.getfield 42, 3) := by decide +kernel
theorem dX7_people_70 : decode cX7_people 70 = .ok (.iload_n 1, 1) := by decide +kernel
theorem dX7_people_71 : decode cX7_people 71 = .ok (.iload_n 3, 1) := by decide +kernel
theorem dX7_people_72 : decode cX7_people 72 = .ok (.iastore, 1) := by decide +kernel
theorem dX7_people_73 : decode cX7_people 73 = .ok (.goto 10, 3) := by decide +kernel
theorem dX7_people_76 : decode cX7_people 76 = .ok (.aload_n 0, 1) := by decide +kernel
theorem dX7_people_77 : decode cX7_people 77 = .ok (.getfield 45, 3) := by decide +kernel
theorem dX7_people_80 : decode cX7_people 80 = .ok (.iload_n 1, 1) := by decide +kernel
theorem dX7_people_81 : decode cX7_people 81 = .ok (.iload_n 3, 1) := by decide +kernel
theorem dX7_people_82 : decode cX7_people 82 = .ok (.iastore, 1) := by decide +kernel
theorem dX7_people_83 : decode cX7_people 83 = .ok (.iload 4, 2) := by decide +kernel
theorem dX7_people_85 : decode cX7_people 85 = .ok (.ireturn, 1) := by decide +kernel
set_option maxRecDepth 20000 in
theorem ggX7_rule_X7_isYear : GoodIn wsX7_rule wsX7_isYear := goodIn_r _ [9, 10, 11, 12, 8, 13] (by decide +kernel) (by decide +kernel)
set_option maxRecDepth 20000 in
theorem gX7_rule_X7_isYear : GoodIn wsX7_rule (va_wsS RX7 101 yX7_isYear wsX7_isYear) := goodIn_app (goodIn_of _ (by decide +kernel)) ggX7_rule_X7_isYear
set_option maxRecDepth 20000 in
theorem ggX7_rule_X7_in : GoodIn wsX7_rule wsX7_in := goodIn_r _ [13] (by decide +kernel) (by decide +kernel)
set_option maxRecDepth 20000 in
theorem gX7_rule_X7_in : GoodIn wsX7_rule (va_wsS RX7 83 yX7_in wsX7_in) := goodIn_app (goodIn_of _ (by decide +kernel)) ggX7_rule_X7_in
theorem dX7_rule_0 : decode cX7_rule 0 = .ok (.iload_n 1, 1) := by decide +kernel
theorem dX7_rule_1 : decode cX7_rule 1 = .ok (.invokestatic 101, 3) := by decide +kernel
theorem dX7_rule_4 : decode cX7_rule 4 = .ok (.ifCond .eq 15, 3) := by decide +kernel
theorem dX7_rule_7 : decode cX7_rule 7 = .ok (.iload_n 2, 1) := by decide +kernel
theorem dX7_rule_8 : decode cX7_rule 8 = .ok (.i2l, 1) := by decide +kernel
theorem dX7_rule_9 : decode cX7_rule 9 = .ok (.lconst 0, 1) := by decide +kernel
theorem dX7_rule_10 : decode cX7_rule 10 = .ok (.ldc2_w 114, 3) := by decide +kernel
theorem dX7_rule_13 : decode cX7_rule 13 = .ok (.invokestatic 83, 3) := by decide +kernel
theorem dX7_rule_16 : decode cX7_rule 16 = .ok (.ifCond .ne 5, 3) := by decide +kernel
theorem dX7_rule_19 : decode cX7_rule 19 = .ok (.iconst (-1), 1) := by decide +kernel
theorem dX7_rule_20 : decode cX7_rule 20 = .ok (.ireturn, 1) := by decide +kernel
theorem dX7_rule_21 : decode cX7_rule 21 = .ok (.iload_n 2, 1) := by decide +kernel
theorem dX7_rule_22 : decode cX7_rule 22 = .ok (.ifCond .ne 12, 3) := by decide +kernel
theorem dX7_rule_25 : decode cX7_rule 25 = .ok (.aload_n 0, 1) := by decide +kernel
theorem dX7_rule_26 : decode cX7_rule 26 = .ok (.getfield 30, 3) := by decide +kernel
theorem dX7_rule_29 : decode cX7_rule 29 = .ok (.iload_n 1, 1) := by decide +kernel
theorem dX7_rule_30 : decode cX7_rule 30 = .ok (.iaload, 1) := by decide +kernel
theorem dX7_rule_31 : decode cX7_rule 31 = .ok (.goto 37, 3) := by decide +kernel
theorem dX7_rule_34 : decode cX7_rule 34 = .ok (.iload_n 2, 1) := by decide +kernel
theorem dX7_rule_35 : decode cX7_rule 35 = .ok (.iconst 1, 1) := by decide +kernel
theorem dX7_rule_36 : decode cX7_rule 36 = .ok (.if_icmp .ne 12, 3) := by decide +kernel
theorem dX7_rule_39 : decode cX7_rule 39 = .ok (.aload_n 0, 1) := by decide +kernel
theorem dX7_rule_40 : decode cX7_rule 40 = .ok (.getfield 33, 3) := by decide +kernel
theorem dX7_rule_43 : decode cX7_rule 43 = .ok (.iload_n 1, 1) := by decide +kernel
theorem dX7_rule_44 : decode cX7_rule 44 = .ok (.iaload, 1) := by decide +kernel
theorem dX7_rule_45 : decode cX7_rule 45 = .ok (.goto 23, 3) := by decide +kernel
theorem dX7_rule_48 : decode cX7_rule 48 = .ok (.iload_n 2, 1) := by decide +kernel
theorem dX7_rule_49 : decode cX7_rule 49 = .ok (.iconst 2, 1) := by decide +kernel
theorem dX7_rule_50 : decode cX7_rule 50 = .ok (.if_icmp .ne 12, 3) := by decide +kernel
theorem dX7_rule_53 : decode cX7_rule 53 = .ok (.aload_n 0, 1) := by decide +kernel
theorem dX7_rule_54 : decode cX7_rule 54 = .ok (.getfield 36, 3) := by decide +kernel
theorem dX7_rule_57 : decode cX7_rule 57 = .ok (.iload_n 1, 1) := by decide +kernel
theorem dX7_rule_58 : decode cX7_rule 58 = .ok (.iaload, 1) := by decide +kernel
theorem dX7_rule_59 : decode cX7_rule 59 = .ok (.goto 9, 3) := by decide +kernel
theorem dX7_rule_62 : decode cX7_rule 62 = .ok (.aload_n 0, 1) := by decide +kernel
theorem dX7_rule_63 : decode cX7_rule 63 = .ok (.getfield 39, 3) := by decide +kernel
theorem dX7_rule_66 : decode cX7_rule 66 = .ok (.iload_n 1, 1) := by decide +kernel
theorem dX7_rule_67 : decode cX7_rule 67 = .ok (.iaload, 1) := by decide +kernel
theorem dX7_rule_68 : decode cX7_rule 68 = .ok (.ireturn, 1) := by decide +kernel
set_option maxRecDepth 20000 in
theorem ggX7_type_X7_in : GoodIn wsX7_type wsX7_in := goodIn_r _ [10] (by decide +kernel) (by decide +kernel)
set_option maxRecDepth 20000 in
theorem gX7_type_X7_in : GoodIn wsX7_type (va_wsS RX7 83 yX7_in wsX7_in) := goodIn_app (goodIn_of _ (by decide +kernel)) ggX7_type_X7_in
theorem dX7_type_0 : decode cX7_type 0 = .ok (.iload_n 3, 1) := by decide +kernel
theorem dX7_type_1 : decode cX7_type 1 = .ok (.i2l, 1) := by decide +kernel
theorem dX7_type_2 : decode cX7_type 2 = .ok (.lconst 1, 1) := by decide +kernel
theorem dX7_type_3 : decode cX7_type 3 = .ok (.ldc2_w 144, 3) := by decide +kernel
theorem dX7_type_6 : decode cX7_type 6 = .ok (.invokestatic 83, 3) := by decide +kernel
theorem dX7_type_9 : decode cX7_type 9 = .ok (.ifCond .ne 5, 3) := by decide +kernel
theorem dX7_type_12 : decode cX7_type 12 = .ok (.iconst (-1), 1) := by decide +kernel
theorem dX7_type_13 : decode cX7_type 13 = .ok (.ireturn, 1) := by decide +kernel
theorem dX7_type_14 : decode cX7_type 14 = .ok (.iconst 0, 1) := by decide +kernel
theorem dX7_type_15 : decode cX7_type 15 = .ok (.istore 4, 2) := by decide +kernel
theorem dX7_type_17 : decode cX7_type 17 = .ok (.iload 4, 2) := by decide +kernel
theorem dX7_type_19 : decode cX7_type 19 = .ok (.iload_n 3, 1) := by decide +kernel
theorem dX7_type_20 : decode cX7_type 20 = .ok (.if_icmp .ge 34, 3) := by decide +kernel
theorem dX7_type_23 : decode cX7_type 23 = .ok (.lload_n 1, 1) := by decide +kernel
theorem dX7_type_24 : decode cX7_type 24 = .ok (.bipush 8, 2) := by decide +kernel
theorem dX7_type_26 : decode cX7_type 26 = .ok (.iload 4, 2) := by decide +kernel
theorem dX7_type_28 : decode cX7_type 28 = .ok (.imul, 1) := by decide +kernel
theorem dX7_type_29 : decode cX7_type 29 = .ok (.lshr, 1) := by decide +kernel
theorem dX7_type_30 : decode cX7_type 30 = .ok (.ldc2_w 146, 3) := by decide +kernel
theorem dX7_type_33 : decode cX7_type 33 = .ok (.land, 1) := by decide +kernel
theorem dX7_type_34 : decode cX7_type 34 = .ok (.ldc2_w 148, 3) := by decide +kernel
theorem dX7_type_37 : decode cX7_type 37 = .ok (.ldc2_w 150, 3) := by decide +kernel
theorem dX7_type_40 : decode cX7_type 40 = .ok (.invokestatic 83, 3) := by decide +kernel
theorem dX7_type_43 : decode cX7_type 43 = .ok (.ifCond .ne 5, 3) := by decide +kernel
theorem dX7_type_46 : decode cX7_type 46 = .ok (.iconst (-1), 1) := by decide +kernel
theorem dX7_type_47 : decode cX7_type 47 = .ok (.ireturn, 1) := by decide +kernel
theorem dX7_type_48 : decode cX7_type 48 = .ok (.iinc 4 1, 3) := by decide +kernel
theorem dX7_type_51 : decode cX7_type 51 = .ok (.goto (-34), 3) := by decide +kernel
theorem dX7_type_54 : decode cX7_type 54 = .ok (.aload_n 0, 1) := by decide +kernel
theorem dX7_type_55 : decode cX7_type 55 = .ok (.getfield 152, 3) := by decide +kernel
theorem dX7_type_58 : decode cX7_type 58 = .ok (.iload_n 3, 1) := by decide +kernel
theorem dX7_type_59 : decode cX7_type 59 = .ok (.iadd, 1) := by decide +kernel
theorem dX7_type_60 : decode cX7_type 60 = .ok (.bipush 100, 2) := by decide +kernel
theorem dX7_type_62 : decode cX7_type 62 = .ok (.if_icmp .le 6, 3) := by decide +kernel
theorem dX7_type_65 : decode cX7_type 65 = .ok (.bipush (-3), 2) := by decide +kernel
theorem dX7_type_67 : decode cX7_type 67 = .ok (.ireturn, 1) := by decide +kernel
theorem dX7_type_68 : decode cX7_type 68 = .ok (.iload_n 3, 1) := by decide +kernel
theorem dX7_type_69 : decode cX7_type 69 = .ok (.iconst 1, 1) := by decide +kernel
theorem dX7_type_70 : decode cX7_type 70 = .ok (.isub, 1) := by decide +kernel
theorem dX7_type_71 : decode cX7_type 71 = .ok (.istore 4, 2) := by decide +kernel
theorem dX7_type_73 : decode cX7_type 73 = .ok (.iload 4, 2) := by decide +kernel
theorem dX7_type_75 : decode cX7_type 75 = .ok (.ifCond .lt 40, 3) := by decide +kernel
theorem dX7_type_78 : decode cX7_type 78 = .ok (.aload_n 0, 1) := by decide +kernel
theorem dX7_type_79 : decode cX7_type 79 = .ok (.getfield 55, 3) := by decide +kernel
theorem dX7_type_82 : decode cX7_type 82 = .ok (.aload_n 0, 1) := by decide +kernel
theorem dX7_type_83 : decode cX7_type 83 = .ok (.getfield 152, 3) := by decide +kernel
theorem dX7_type_86 : decode cX7_type 86 = .ok (.lload_n 1, 1) := by decide +kernel
theorem dX7_type_87 : decode cX7_type 87 = .ok (.bipush 8, 2) := by decide +kernel
theorem dX7_type_89 : decode cX7_type 89 = .ok (.iload 4, 2) := by decide +kernel
theorem dX7_type_91 : decode cX7_type 91 = .ok (.imul, 1) := by decide +kernel
theorem dX7_type_92 : decode cX7_type 92 = .ok (.lshr, 1) := by decide +kernel
theorem dX7_type_93 : decode cX7_type 93 = .ok (.ldc2_w 146, 3) := by decide +kernel
theorem dX7_type_96 : decode cX7_type 96 = .ok (.land, 1) := by decide +kernel
theorem dX7_type_97 : decode cX7_type 97 = .ok (.l2i, 1) := by decide +kernel
theorem dX7_type_98 : decode cX7_type 98 = .ok (.iastore, 1) := by decide +kernel
theorem dX7_type_99 : decode cX7_type 99 = .ok (.aload_n 0, 1) := by decide +kernel
theorem dX7_type_100 : decode cX7_type 100 = .ok (.dup, 1) := by decide +kernel
theorem dX7_type_101 : decode cX7_type 101 = .ok (.getfield 152, 3) := by decide +kernel
theorem dX7_type_104 : decode cX7_type 104 = .ok (.iconst 1, 1) := by decide +kernel
theorem dX7_type_105 : decode cX7_type 105 = .ok (.iadd, 1) := by decide +kernel
theorem dX7_type_106 : decode cX7_type 106 = .ok (.putfield 152, 3) := by decide +kernel
theorem dX7_type_109 : decode cX7_type 109 = .ok (.iinc 4 (-1), 3) := by decide +kernel
theorem dX7_type_112 : decode cX7_type 112 = .ok (.goto (-39), 3) := by decide +kernel
theorem dX7_type_115 : decode cX7_type 115 = .ok (.aload_n 0, 1) := by decide +kernel
theorem dX7_type_116 : decode cX7_type 116 = .ok (.getfield 152, 3) := by decide +kernel
theorem dX7_type_119 : decode cX7_type 119 = .ok (.ireturn, 1) := by decide +kernel
theorem dX7_here_0 : decode cX7_here 0 = .ok (.aload_n 0, 1) := by decide +kernel
theorem dX7_here_1 : decode cX7_here 1 = .ok (.getfield 155, 3) := by decide +kernel
theorem dX7_here_4 : decode cX7_here 4 = .ok (.aload_n 0, 1) := by decide +kernel
theorem dX7_here_5 : decode cX7_here 5 = .ok (.getfield 152, 3) := by decide +kernel
theorem dX7_here_8 : decode cX7_here 8 = .ok (.if_icmp .ge 30, 3) := by decide +kernel
theorem dX7_here_11 : decode cX7_here 11 = .ok (.aload_n 0, 1) := by decide +kernel
theorem dX7_here_12 : decode cX7_here 12 = .ok (.getfield 55, 3) := by decide +kernel
theorem dX7_here_15 : decode cX7_here 15 = .ok (.aload_n 0, 1) := by decide +kernel
theorem dX7_here_16 : decode cX7_here 16 = .ok (.getfield 155, 3) := by decide +kernel
theorem dX7_here_19 : decode cX7_here 19 = .ok (.iaload, 1) := by decide +kernel
theorem dX7_here_20 : decode cX7_here 20 = .ok (.bipush 32, 2) := by decide +kernel
theorem dX7_here_22 : decode cX7_here 22 = .ok (.if_icmp .ne 16, 3) := by decide +kernel
theorem dX7_here_25 : decode cX7_here 25 = .ok (.aload_n 0, 1) := by decide +kernel
theorem dX7_here_26 : decode cX7_here 26 = .ok (.dup, 1) := by decide +kernel
theorem dX7_here_27 : decode cX7_here 27 = .ok (.getfield 155, 3) := by decide +kernel
theorem dX7_here_30 : decode cX7_here 30 = .ok (.iconst 1, 1) := by decide +kernel
theorem dX7_here_31 : decode cX7_here 31 = .ok (.iadd, 1) := by decide +kernel
theorem dX7_here_32 : decode cX7_here 32 = .ok (.putfield 155, 3) := by decide +kernel
theorem dX7_here_35 : decode cX7_here 35 = .ok (.goto (-35), 3) := by decide +kernel
theorem dX7_here_38 : decode cX7_here 38 = .ok (.aload_n 0, 1) := by decide +kernel
theorem dX7_here_39 : decode cX7_here 39 = .ok (.getfield 155, 3) := by decide +kernel
theorem dX7_here_42 : decode cX7_here 42 = .ok (.aload_n 0, 1) := by decide +kernel
theorem dX7_here_43 : decode cX7_here 43 = .ok (.getfield 152, 3) := by decide +kernel
theorem dX7_here_46 : decode cX7_here 46 = .ok (.if_icmp .ge 15, 3) := by decide +kernel
theorem dX7_here_49 : decode cX7_here 49 = .ok (.aload_n 0, 1) := by decide +kernel
theorem dX7_here_50 : decode cX7_here 50 = .ok (.getfield 55, 3) := by decide +kernel
theorem dX7_here_53 : decode cX7_here 53 = .ok (.aload_n 0, 1) := by decide +kernel
theorem dX7_here_54 : decode cX7_here 54 = .ok (.getfield 155, 3) := by decide +kernel
theorem dX7_here_57 : decode cX7_here 57 = .ok (.iaload, 1) := by decide +kernel
theorem dX7_here_58 : decode cX7_here 58 = .ok (.goto 4, 3) := by decide +kernel
theorem dX7_here_61 : decode cX7_here 61 = .ok (.iconst 0, 1) := by decide +kernel
theorem dX7_here_62 : decode cX7_here 62 = .ok (.ireturn, 1) := by decide +kernel
set_option maxRecDepth 20000 in
theorem ggX7_has_X7_here : GoodIn wsX7_has wsX7_here := goodIn_r _ [7, 2, 8, 9, 10, 11, 12, 13, 14, 15, 16, 17, 18, 19, 20, 21, 22, 23, 24, 25, 26, 27, 28, 29, 30, 31, 32, 33, 34, 35, 36, 37] (by decide +kernel) (by decide +kernel)
set_option maxRecDepth 20000 in
theorem gX7_has_X7_here : GoodIn wsX7_has (wsV RX7 162 RX7 yX7_here wsX7_here) := goodIn_app (goodIn_of _ (by decide +kernel)) ggX7_has_X7_here
theorem dX7_has_0 : decode cX7_has 0 = .ok (.aload_n 0, 1) := by decide +kernel
theorem dX7_has_1 : decode cX7_has 1 = .ok (.getfield 158, 3) := by decide +kernel
theorem dX7_has_4 : decode cX7_has 4 = .ok (.ifCond .ne 15, 3) := by decide +kernel
theorem dX7_has_7 : decode cX7_has 7 = .ok (.aload_n 0, 1) := by decide +kernel
theorem dX7_has_8 : decode cX7_has 8 = .ok (.invokevirtual 162, 3) := by decide +kernel
theorem dX7_has_11 : decode cX7_has 11 = .ok (.iload_n 1, 1) := by decide +kernel
theorem dX7_has_12 : decode cX7_has 12 = .ok (.if_icmp .ne 7, 3) := by decide +kernel
theorem dX7_has_15 : decode cX7_has 15 = .ok (.iconst 1, 1) := by decide +kernel
theorem dX7_has_16 : decode cX7_has 16 = .ok (.goto 4, 3) := by decide +kernel
theorem dX7_has_19 : decode cX7_has 19 = .ok (.iconst 0, 1) := by decide +kernel
theorem dX7_has_20 : decode cX7_has 20 = .ok (.istore_n 2, 1) := by decide +kernel
theorem dX7_has_21 : decode cX7_has 21 = .ok (.aload_n 0, 1) := by decide +kernel
theorem dX7_has_22 : decode cX7_has 22 = .ok (.dup, 1) := by decide +kernel
theorem dX7_has_23 : decode cX7_has 23 = .ok (.getfield 155, 3) := by decide +kernel
theorem dX7_has_26 : decode cX7_has 26 = .ok (.iload_n 2, 1) := by decide +kernel
theorem dX7_has_27 : decode cX7_has 27 = .ok (.ifCond .eq 7, 3) := by decide +kernel
theorem dX7_has_30 : decode cX7_has 30 = .ok (.iconst 1, 1) := by decide +kernel
theorem dX7_has_31 : decode cX7_has 31 = .ok (.goto 4, 3) := by decide +kernel
theorem dX7_has_34 : decode cX7_has 34 = .ok (.iconst 0, 1) := by decide +kernel
theorem dX7_has_35 : decode cX7_has 35 = .ok (.iadd, 1) := by decide +kernel
theorem dX7_has_36 : decode cX7_has 36 = .ok (.putfield 155, 3) := by decide +kernel
theorem dX7_has_39 : decode cX7_has 39 = .ok (.iload_n 2, 1) := by decide +kernel
theorem dX7_has_40 : decode cX7_has 40 = .ok (.ireturn, 1) := by decide +kernel
set_option maxRecDepth 20000 in
theorem ggX7_digit_X7_here : GoodIn wsX7_digit wsX7_here := goodIn_r _ [8, 3, 9, 10, 14, 15, 16, 17, 18, 19, 20, 21, 22, 23, 24, 25, 26, 27, 28, 29, 30, 31, 32, 33, 34, 35, 36, 37, 38, 39, 40, 41] (by decide +kernel) (by decide +kernel)
set_option maxRecDepth 20000 in
theorem gX7_digit_X7_here : GoodIn wsX7_digit (wsV RX7 162 RX7 yX7_here wsX7_here) := goodIn_app (goodIn_of _ (by decide +kernel)) ggX7_digit_X7_here
set_option maxRecDepth 20000 in
theorem ggX7_digit_X7_in : GoodIn wsX7_digit wsX7_in := goodIn_r _ [13] (by decide +kernel) (by decide +kernel)
set_option maxRecDepth 20000 in
theorem gX7_digit_X7_in : GoodIn wsX7_digit (va_wsS RX7 83 yX7_in wsX7_in) := goodIn_app (goodIn_of _ (by decide +kernel)) ggX7_digit_X7_in
theorem dX7_digit_0 : decode cX7_digit 0 = .ok (.aload_n 0, 1) := by decide +kernel
theorem dX7_digit_1 : decode cX7_digit 1 = .ok (.aload_n 0, 1) := by decide +kernel
theorem dX7_digit_2 : decode cX7_digit 2 = .ok (.getfield 158, 3) := by decide +kernel
theorem dX7_digit_5 : decode cX7_digit 5 = .ok (.ifCond .ne 22, 3) := by decide +kernel
theorem dX7_digit_8 : decode cX7_digit 8 = .ok (.aload_n 0, 1) := by decide +kernel
theorem dX7_digit_9 : decode cX7_digit 9 = .ok (.invokevirtual 162, 3) := by decide +kernel
theorem dX7_digit_12 : decode cX7_digit 12 = .ok (.i2l, 1) := by decide +kernel
theorem dX7_digit_13 : decode cX7_digit 13 = .ok (.ldc2_w 166, 3) := by decide +kernel
theorem dX7_digit_16 : decode cX7_digit 16 = .ok (.bipush 48, 2) := by decide +kernel
theorem dX7_digit_18 : decode cX7_digit 18 = .ok (.iload_n 1, 1) := by decide +kernel
theorem dX7_digit_19 : decode cX7_digit 19 = .ok (.iadd, 1) := by decide +kernel
theorem dX7_digit_20 : decode cX7_digit 20 = .ok (.i2l, 1) := by decide +kernel
theorem dX7_digit_21 : decode cX7_digit 21 = .ok (.invokestatic 83, 3) := by decide +kernel
theorem dX7_digit_24 : decode cX7_digit 24 = .ok (.ifCond .ne 7, 3) := by decide +kernel
theorem dX7_digit_27 : decode cX7_digit 27 = .ok (.iconst 1, 1) := by decide +kernel
theorem dX7_digit_28 : decode cX7_digit 28 = .ok (.goto 4, 3) := by decide +kernel
theorem dX7_digit_31 : decode cX7_digit 31 = .ok (.iconst 0, 1) := by decide +kernel
theorem dX7_digit_32 : decode cX7_digit 32 = .ok (.putfield 158, 3) := by decide +kernel
theorem dX7_digit_35 : decode cX7_digit 35 = .ok (.aload_n 0, 1) := by decide +kernel
theorem dX7_digit_36 : decode cX7_digit 36 = .ok (.getfield 158, 3) := by decide +kernel
theorem dX7_digit_39 : decode cX7_digit 39 = .ok (.ifCond .eq 7, 3) := by decide +kernel
theorem dX7_digit_42 : decode cX7_digit 42 = .ok (.iconst 0, 1) := by decide +kernel
theorem dX7_digit_43 : decode cX7_digit 43 = .ok (.goto 10, 3) := by decide +kernel
theorem dX7_digit_46 : decode cX7_digit 46 = .ok (.aload_n 0, 1) := by decide +kernel
theorem dX7_digit_47 : decode cX7_digit 47 = .ok (.invokevirtual 162, 3) := by decide +kernel
theorem dX7_digit_50 : decode cX7_digit 50 = .ok (.bipush 48, 2) := by decide +kernel
theorem dX7_digit_52 : decode cX7_digit 52 = .ok (.isub, 1) := by decide +kernel
theorem dX7_digit_53 : decode cX7_digit 53 = .ok (.istore_n 2, 1) := by decide +kernel
theorem dX7_digit_54 : decode cX7_digit 54 = .ok (.aload_n 0, 1) := by decide +kernel
theorem dX7_digit_55 : decode cX7_digit 55 = .ok (.dup, 1) := by decide +kernel
theorem dX7_digit_56 : decode cX7_digit 56 = .ok (.getfield 155, 3) := by decide +kernel
theorem dX7_digit_59 : decode cX7_digit 59 = .ok (.aload_n 0, 1) := by decide +kernel
theorem dX7_digit_60 : decode cX7_digit 60 = .ok (.getfield 158, 3) := by decide +kernel
theorem dX7_digit_63 : decode cX7_digit 63 = .ok (.ifCond .eq 7, 3) := by decide +kernel
theorem dX7_digit_66 : decode cX7_digit 66 = .ok (.iconst 0, 1) := by decide +kernel
theorem dX7_digit_67 : decode cX7_digit 67 = .ok (.goto 4, 3) := by decide +kernel
theorem dX7_digit_70 : decode cX7_digit 70 = .ok (.iconst 1, 1) := by decide +kernel
theorem dX7_digit_71 : decode cX7_digit 71 = .ok (.iadd, 1) := by decide +kernel
theorem dX7_digit_72 : decode cX7_digit 72 = .ok (.putfield 155, 3) := by decide +kernel
theorem dX7_digit_75 : decode cX7_digit 75 = .ok (.iload_n 2, 1) := by decide +kernel
theorem dX7_digit_76 : decode cX7_digit 76 = .ok (.ireturn, 1) := by decide +kernel
set_option maxRecDepth 20000 in
theorem ggX7_number_X7_here : GoodIn wsX7_number wsX7_here := goodIn_r _ [12, 4, 5, 6, 16, 17, 18, 19, 20, 21, 22, 23, 24, 25, 26, 27, 28, 29, 30, 31, 32, 33, 34, 35, 36, 37, 38, 39, 40, 41, 42, 43] (by decide +kernel) (by decide +kernel)
set_option maxRecDepth 20000 in
theorem gX7_number_X7_here : GoodIn wsX7_number (wsV RX7 162 RX7 yX7_here wsX7_here) := goodIn_app (goodIn_of _ (by decide +kernel)) ggX7_number_X7_here
set_option maxRecDepth 20000 in
theorem ggX7_number_X7_in : GoodIn wsX7_number wsX7_in := goodIn_r _ [15] (by decide +kernel) (by decide +kernel)
set_option maxRecDepth 20000 in
theorem gX7_number_X7_in : GoodIn wsX7_number (va_wsS RX7 83 yX7_in wsX7_in) := goodIn_app (goodIn_of _ (by decide +kernel)) ggX7_number_X7_in
theorem dX7_number_0 : decode cX7_number 0 = .ok (.aload_n 0, 1) := by decide +kernel
theorem dX7_number_1 : decode cX7_number 1 = .ok (.getfield 158, 3) := by decide +kernel
theorem dX7_number_4 : decode cX7_number 4 = .ok (.ifCond .ne 20, 3) := by decide +kernel
theorem dX7_number_7 : decode cX7_number 7 = .ok (.aload_n 0, 1) := by decide +kernel
theorem dX7_number_8 : decode cX7_number 8 = .ok (.invokevirtual 162, 3) := by decide +kernel
theorem dX7_number_11 : decode cX7_number 11 = .ok (.i2l, 1) := by decide +kernel
theorem dX7_number_12 : decode cX7_number 12 = .ok (.ldc2_w 166, 3) := by decide +kernel
theorem dX7_number_15 : decode cX7_number 15 = .ok (.ldc2_w 168, 3) := by decide +kernel
theorem dX7_number_18 : decode cX7_number 18 = .ok (.invokestatic 83, 3) := by decide +kernel
theorem dX7_number_21 : decode cX7_number 21 = .ok (.ifCond .ne 10, 3) := by decide +kernel
theorem dX7_number_24 : decode cX7_number 24 = .ok (.aload_n 0, 1) := by decide +kernel
theorem dX7_number_25 : decode cX7_number 25 = .ok (.iconst 1, 1) := by decide +kernel
theorem dX7_number_26 : decode cX7_number 26 = .ok (.putfield 158, 3) := by decide +kernel
theorem dX7_number_29 : decode cX7_number 29 = .ok (.iconst 0, 1) := by decide +kernel
theorem dX7_number_30 : decode cX7_number 30 = .ok (.ireturn, 1) := by decide +kernel
theorem dX7_number_31 : decode cX7_number 31 = .ok (.aload_n 0, 1) := by decide +kernel
theorem dX7_number_32 : decode cX7_number 32 = .ok (.getfield 155, 3) := by decide +kernel
theorem dX7_number_35 : decode cX7_number 35 = .ok (.istore_n 2, 1) := by decide +kernel
theorem dX7_number_36 : decode cX7_number 36 = .ok (.iconst 0, 1) := by decide +kernel
theorem dX7_number_37 : decode cX7_number 37 = .ok (.istore_n 3, 1) := by decide +kernel
theorem dX7_number_38 : decode cX7_number 38 = .ok (.aload_n 0, 1) := by decide +kernel
theorem dX7_number_39 : decode cX7_number 39 = .ok (.getfield 155, 3) := by decide +kernel
theorem dX7_number_42 : decode cX7_number 42 = .ok (.aload_n 0, 1) := by decide +kernel
theorem dX7_number_43 : decode cX7_number 43 = .ok (.getfield 152, 3) := by decide +kernel
theorem dX7_number_46 : decode cX7_number 46 = .ok (.if_icmp .ge 66, 3) := by decide +kernel
theorem dX7_number_49 : decode cX7_number 49 = .ok (.aload_n 0, 1) := by decide +kernel
theorem dX7_number_50 : decode cX7_number 50 = .ok (.getfield 55, 3) := by decide +kernel
theorem dX7_number_53 : decode cX7_number 53 = .ok (.aload_n 0, 1) := by decide +kernel
theorem dX7_number_54 : decode cX7_number 54 = .ok (.getfield 155, 3) := by decide +kernel
theorem dX7_number_57 : decode cX7_number 57 = .ok (.iaload, 1) := by decide +kernel
theorem dX7_number_58 : decode cX7_number 58 = .ok (.i2l, 1) := by decide +kernel
theorem dX7_number_59 : decode cX7_number 59 = .ok (.ldc2_w 166, 3) := by decide +kernel
theorem dX7_number_62 : decode cX7_number 62 = .ok (.ldc2_w 168, 3) := by decide +kernel
theorem dX7_number_65 : decode cX7_number 65 = .ok (.invokestatic 83, 3) := by decide +kernel
theorem dX7_number_68 : decode cX7_number 68 = .ok (.ifCond .eq 44, 3) := by decide +kernel
theorem dX7_number_71 : decode cX7_number 71 = .ok (.iload_n 3, 1) := by decide +kernel
theorem dX7_number_72 : decode cX7_number 72 = .ok (.ldc 13, 2) := by decide +kernel
theorem dX7_number_74 : decode cX7_number 74 = .ok (.if_icmp .le 7, 3) := by decide +kernel
theorem dX7_number_77 : decode cX7_number 77 = .ok (.iload_n 3, 1) := by decide +kernel
theorem dX7_number_78 : decode cX7_number 78 = .ok (.goto 20, 3) := by decide +kernel
theorem dX7_number_81 : decode cX7_number 81 = .ok (.bipush 10, 2) := by decide +kernel
theorem dX7_number_83 : decode cX7_number 83 = .ok (.iload_n 3, 1) := by decide +kernel
theorem dX7_number_84 : decode cX7_number 84 = .ok (.imul, 1) := by decide +kernel
theorem dX7_number_85 : decode cX7_number 85 = .ok (.aload_n 0, 1) := by decide +kernel
theorem dX7_number_86 : decode cX7_number 86 = .ok (.getfield 55, 3) := by decide +kernel
theorem dX7_number_89 : decode cX7_number 89 = .ok (.aload_n 0, 1) := by decide +kernel
theorem dX7_number_90 : decode cX7_number 90 = .ok (.getfield 155, 3) := by decide +kernel
theorem dX7_number_93 : decode cX7_number 93 = .ok (.iaload, 1) := by decide +kernel
theorem dX7_number_94 : decode cX7_number 94 = .ok (.iadd, 1) := by decide +kernel
theorem dX7_number_95 : decode cX7_number 95 = .ok (.bipush 48, 2) := by decide +kernel
theorem dX7_number_97 : decode cX7_number 97 = .ok (.isub, 1) := by decide +kernel
theorem dX7_number_98 : decode cX7_number 98 = .ok (.istore_n 3, 1) := by decide +kernel
theorem dX7_number_99 : decode cX7_number 99 = .ok (.aload_n 0, 1) := by decide +kernel
theorem dX7_number_100 : decode cX7_number 100 = .ok (.dup, 1) := by decide +kernel
theorem dX7_number_101 : decode cX7_number 101 = .ok (.getfield 155, 3) := by decide +kernel
theorem dX7_number_104 : decode cX7_number 104 = .ok (.iconst 1, 1) := by decide +kernel
theorem dX7_number_105 : decode cX7_number 105 = .ok (.iadd, 1) := by decide +kernel
theorem dX7_number_106 : decode cX7_number 106 = .ok (.putfield 155, 3) := by decide +kernel
theorem dX7_number_109 : decode cX7_number 109 = .ok (.goto (-71), 3) := by decide +kernel
theorem dX7_number_112 : decode cX7_number 112 = .ok (.aload_n 0, 1) := by decide +kernel
theorem dX7_number_113 : decode cX7_number 113 = .ok (.iload_n 3, 1) := by decide +kernel
theorem dX7_number_114 : decode cX7_number 114 = .ok (.iload_n 1, 1) := by decide +kernel
theorem dX7_number_115 : decode cX7_number 115 = .ok (.if_icmp .le 7, 3) := by decide +kernel
theorem dX7_number_118 : decode cX7_number 118 = .ok (.iconst 1, 1) := by decide +kernel
theorem dX7_number_119 : decode cX7_number 119 = .ok (.goto 4, 3) := by decide +kernel
theorem dX7_number_122 : decode cX7_number 122 = .ok (.iconst 0, 1) := by decide +kernel
theorem dX7_number_123 : decode cX7_number 123 = .ok (.putfield 158, 3) := by decide +kernel
theorem dX7_number_126 : decode cX7_number 126 = .ok (.aload_n 0, 1) := by decide +kernel
theorem dX7_number_127 : decode cX7_number 127 = .ok (.aload_n 0, 1) := by decide +kernel
theorem dX7_number_128 : decode cX7_number 128 = .ok (.getfield 158, 3) := by decide +kernel
theorem dX7_number_131 : decode cX7_number 131 = .ok (.ifCond .eq 7, 3) := by decide +kernel
theorem dX7_number_134 : decode cX7_number 134 = .ok (.iload_n 2, 1) := by decide +kernel
theorem dX7_number_135 : decode cX7_number 135 = .ok (.goto 7, 3) := by decide +kernel
theorem dX7_number_138 : decode cX7_number 138 = .ok (.aload_n 0, 1) := by decide +kernel
theorem dX7_number_139 : decode cX7_number 139 = .ok (.getfield 155, 3) := by decide +kernel
theorem dX7_number_142 : decode cX7_number 142 = .ok (.putfield 155, 3) := by decide +kernel
theorem dX7_number_145 : decode cX7_number 145 = .ok (.iload_n 3, 1) := by decide +kernel
theorem dX7_number_146 : decode cX7_number 146 = .ok (.ireturn, 1) := by decide +kernel
set_option maxRecDepth 20000 in
theorem ggX7_readRule_X7_digit : GoodIn wsX7_readRule wsX7_digit := goodIn_r _ [7, 2, 8, 9, 10, 11, 12, 6, 13, 14, 15, 16, 17, 18, 29, 30, 31, 32, 33, 34, 35, 36, 37, 38, 39, 40, 41, 42, 43, 44, 45, 46, 47, 48, 49, 50, 51, 52, 53, 54, 55, 56] (by decide +kernel) (by decide +kernel)
set_option maxRecDepth 20000 in
theorem gX7_readRule_X7_digit : GoodIn wsX7_readRule (wsV RX7 170 RX7 yX7_digit wsX7_digit) := goodIn_app (goodIn_of _ (by decide +kernel)) ggX7_readRule_X7_digit
set_option maxRecDepth 20000 in
theorem ggX7_readRule_X7_has : GoodIn wsX7_readRule wsX7_has := goodIn_r _ [22, 2, 9, 10, 11, 12, 6, 13, 14, 15, 29, 30, 31, 32, 33, 34, 35, 36, 37, 38, 39, 40, 41, 42, 43, 44, 45, 46, 47, 48, 49, 50, 51, 52, 53, 54, 55, 56] (by decide +kernel) (by decide +kernel)
set_option maxRecDepth 20000 in
theorem gX7_readRule_X7_has : GoodIn wsX7_readRule (wsV RX7 173 RX7 yX7_has wsX7_has) := goodIn_app (goodIn_of _ (by decide +kernel)) ggX7_readRule_X7_has
set_option maxRecDepth 20000 in
theorem ggX7_readRule_X7_number : GoodIn wsX7_readRule wsX7_number := goodIn_r _ [26, 2, 8, 27, 9, 14, 15, 28, 10, 11, 12, 6, 13, 16, 17, 18, 29, 30, 31, 32, 33, 34, 35, 36, 37, 38, 39, 40, 41, 42, 43, 44, 45, 46, 47, 48, 49, 50, 51, 52, 53, 54, 55, 56] (by decide +kernel) (by decide +kernel)
set_option maxRecDepth 20000 in
theorem gX7_readRule_X7_number : GoodIn wsX7_readRule (wsV RX7 176 RX7 yX7_number wsX7_number) := goodIn_app (goodIn_of _ (by decide +kernel)) ggX7_readRule_X7_number
theorem dX7_readRule_0 : decode cX7_readRule 0 = .ok (.aload_n 0, 1) := by decide +kernel
theorem dX7_readRule_1 : decode cX7_readRule 1 = .ok (.getfield 58, 3) := by decide +kernel
theorem dX7_readRule_4 : decode cX7_readRule 4 = .ok (.iload_n 1, 1) := by decide +kernel
theorem dX7_readRule_5 : decode cX7_readRule 5 = .ok (.aload_n 0, 1) := by decide +kernel
theorem dX7_readRule_6 : decode cX7_readRule 6 = .ok (.bipush 7, 2) := by decide +kernel
theorem dX7_readRule_8 : decode cX7_readRule 8 = .ok (.invokevirtual 170, 3) := by decide +kernel
theorem dX7_readRule_11 : decode cX7_readRule 11 = .ok (.iastore, 1) := by decide +kernel
theorem dX7_readRule_12 : decode cX7_readRule 12 = .ok (.aload_n 0, 1) := by decide +kernel
theorem dX7_readRule_13 : decode cX7_readRule 13 = .ok (.aload_n 0, 1) := by decide +kernel
theorem dX7_readRule_14 : decode cX7_readRule 14 = .ok (.bipush 58, 2) := by decide +kernel
theorem dX7_readRule_16 : decode cX7_readRule 16 = .ok (.invokevirtual 173, 3) := by decide +kernel
theorem dX7_readRule_19 : decode cX7_readRule 19 = .ok (.ifCond .ne 7, 3) := by decide +kernel
theorem dX7_readRule_22 : decode cX7_readRule 22 = .ok (.iconst 1, 1) := by decide +kernel
theorem dX7_readRule_23 : decode cX7_readRule 23 = .ok (.goto 4, 3) := by decide +kernel
theorem dX7_readRule_26 : decode cX7_readRule 26 = .ok (.iconst 0, 1) := by decide +kernel
theorem dX7_readRule_27 : decode cX7_readRule 27 = .ok (.putfield 158, 3) := by decide +kernel
theorem dX7_readRule_30 : decode cX7_readRule 30 = .ok (.aload_n 0, 1) := by decide +kernel
theorem dX7_readRule_31 : decode cX7_readRule 31 = .ok (.getfield 58, 3) := by decide +kernel
theorem dX7_readRule_34 : decode cX7_readRule 34 = .ok (.iload_n 1, 1) := by decide +kernel
theorem dX7_readRule_35 : decode cX7_readRule 35 = .ok (.iconst 1, 1) := by decide +kernel
theorem dX7_readRule_36 : decode cX7_readRule 36 = .ok (.iadd, 1) := by decide +kernel
theorem dX7_readRule_37 : decode cX7_readRule 37 = .ok (.aload_n 0, 1) := by decide +kernel
theorem dX7_readRule_38 : decode cX7_readRule 38 = .ok (.bipush 102, 2) := by decide +kernel
theorem dX7_readRule_40 : decode cX7_readRule 40 = .ok (.invokevirtual 173, 3) := by decide +kernel
theorem dX7_readRule_43 : decode cX7_readRule 43 = .ok (.ifCond .eq 13, 3) := by decide +kernel
theorem dX7_readRule_46 : decode cX7_readRule 46 = .ok (.aload_n 0, 1) := by decide +kernel
theorem dX7_readRule_47 : decode cX7_readRule 47 = .ok (.sipush 9999, 3) := by decide +kernel
theorem dX7_readRule_50 : decode cX7_readRule 50 = .ok (.invokevirtual 176, 3) := by decide +kernel
theorem dX7_readRule_53 : decode cX7_readRule 53 = .ok (.goto 4, 3) := by decide +kernel
theorem dX7_readRule_56 : decode cX7_readRule 56 = .ok (.iconst 0, 1) := by decide +kernel
theorem dX7_readRule_57 : decode cX7_readRule 57 = .ok (.iastore, 1) := by decide +kernel
theorem dX7_readRule_58 : decode cX7_readRule 58 = .ok (.aload_n 0, 1) := by decide +kernel
theorem dX7_readRule_59 : decode cX7_readRule 59 = .ok (.getfield 58, 3) := by decide +kernel
theorem dX7_readRule_62 : decode cX7_readRule 62 = .ok (.iload_n 1, 1) := by decide +kernel
theorem dX7_readRule_63 : decode cX7_readRule 63 = .ok (.iconst 2, 1) := by decide +kernel
theorem dX7_readRule_64 : decode cX7_readRule 64 = .ok (.iadd, 1) := by decide +kernel
theorem dX7_readRule_65 : decode cX7_readRule 65 = .ok (.aload_n 0, 1) := by decide +kernel
theorem dX7_readRule_66 : decode cX7_readRule 66 = .ok (.bipush 108, 2) := by decide +kernel
theorem dX7_readRule_68 : decode cX7_readRule 68 = .ok (.invokevirtual 173, 3) := by decide +kernel
theorem dX7_readRule_71 : decode cX7_readRule 71 = .ok (.ifCond .eq 13, 3) := by decide +kernel
theorem dX7_readRule_74 : decode cX7_readRule 74 = .ok (.aload_n 0, 1) := by decide +kernel
theorem dX7_readRule_75 : decode cX7_readRule 75 = .ok (.sipush 9999, 3) := by decide +kernel
theorem dX7_readRule_78 : decode cX7_readRule 78 = .ok (.invokevirtual 176, 3) := by decide +kernel
theorem dX7_readRule_81 : decode cX7_readRule 81 = .ok (.goto 4, 3) := by decide +kernel
theorem dX7_readRule_84 : decode cX7_readRule 84 = .ok (.iconst 0, 1) := by decide +kernel
theorem dX7_readRule_85 : decode cX7_readRule 85 = .ok (.iastore, 1) := by decide +kernel
theorem dX7_readRule_86 : decode cX7_readRule 86 = .ok (.aload_n 0, 1) := by decide +kernel
theorem dX7_readRule_87 : decode cX7_readRule 87 = .ok (.getfield 58, 3) := by decide +kernel
theorem dX7_readRule_90 : decode cX7_readRule 90 = .ok (.iload_n 1, 1) := by decide +kernel
theorem dX7_readRule_91 : decode cX7_readRule 91 = .ok (.iconst 3, 1) := by decide +kernel
theorem dX7_readRule_92 : decode cX7_readRule 92 = .ok (.iadd, 1) := by decide +kernel
theorem dX7_readRule_93 : decode cX7_readRule 93 = .ok (.aload_n 0, 1) := by decide +kernel
theorem dX7_readRule_94 : decode cX7_readRule 94 = .ok (.bipush 104, 2) := by decide +kernel
theorem dX7_readRule_96 : decode cX7_readRule 96 = .ok (.invokevirtual 173, 3) := by decide +kernel
theorem dX7_readRule_99 : decode cX7_readRule 99 = .ok (.ifCond .eq 13, 3) := by decide +kernel
theorem dX7_readRule_102 : decode cX7_readRule 102 = .ok (.aload_n 0, 1) := by decide +kernel
theorem dX7_readRule_103 : decode cX7_readRule 103 = .ok (.sipush 999, 3) := by decide +kernel
theorem dX7_readRule_106 : decode cX7_readRule 106 = .ok (.invokevirtual 176, 3) := by decide +kernel
theorem dX7_readRule_109 : decode cX7_readRule 109 = .ok (.goto 4, 3) := by decide +kernel
theorem dX7_readRule_112 : decode cX7_readRule 112 = .ok (.iconst 0, 1) := by decide +kernel
theorem dX7_readRule_113 : decode cX7_readRule 113 = .ok (.iastore, 1) := by decide +kernel
theorem dX7_readRule_114 : decode cX7_readRule 114 = .ok (.aload_n 0, 1) := by decide +kernel
theorem dX7_readRule_115 : decode cX7_readRule 115 = .ok (.bipush 76, 2) := by decide +kernel
theorem dX7_readRule_117 : decode cX7_readRule 117 = .ok (.invokevirtual 173, 3) := by decide +kernel
theorem dX7_readRule_120 : decode cX7_readRule 120 = .ok (.ifCond .eq 7, 3) := by decide +kernel
theorem dX7_readRule_123 : decode cX7_readRule 123 = .ok (.iconst 1, 1) := by decide +kernel
theorem dX7_readRule_124 : decode cX7_readRule 124 = .ok (.goto 4, 3) := by decide +kernel
theorem dX7_readRule_127 : decode cX7_readRule 127 = .ok (.iconst 0, 1) := by decide +kernel
theorem dX7_readRule_128 : decode cX7_readRule 128 = .ok (.istore_n 2, 1) := by decide +kernel
theorem dX7_readRule_129 : decode cX7_readRule 129 = .ok (.iload_n 2, 1) := by decide +kernel
theorem dX7_readRule_130 : decode cX7_readRule 130 = .ok (.aload_n 0, 1) := by decide +kernel
theorem dX7_readRule_131 : decode cX7_readRule 131 = .ok (.bipush 71, 2) := by decide +kernel
theorem dX7_readRule_133 : decode cX7_readRule 133 = .ok (.invokevirtual 173, 3) := by decide +kernel
theorem dX7_readRule_136 : decode cX7_readRule 136 = .ok (.ifCond .eq 7, 3) := by decide +kernel
theorem dX7_readRule_139 : decode cX7_readRule 139 = .ok (.iconst 2, 1) := by decide +kernel
theorem dX7_readRule_140 : decode cX7_readRule 140 = .ok (.goto 4, 3) := by decide +kernel
theorem dX7_readRule_143 : decode cX7_readRule 143 = .ok (.iconst 0, 1) := by decide +kernel
theorem dX7_readRule_144 : decode cX7_readRule 144 = .ok (.ior, 1) := by decide +kernel
theorem dX7_readRule_145 : decode cX7_readRule 145 = .ok (.istore_n 2, 1) := by decide +kernel
theorem dX7_readRule_146 : decode cX7_readRule 146 = .ok (.iload_n 2, 1) := by decide +kernel
theorem dX7_readRule_147 : decode cX7_readRule 147 = .ok (.aload_n 0, 1) := by decide +kernel
theorem dX7_readRule_148 : decode cX7_readRule 148 = .ok (.bipush 84, 2) := by decide +kernel
theorem dX7_readRule_150 : decode cX7_readRule 150 = .ok (.invokevirtual 173, 3) := by decide +kernel
theorem dX7_readRule_153 : decode cX7_readRule 153 = .ok (.ifCond .eq 7, 3) := by decide +kernel
theorem dX7_readRule_156 : decode cX7_readRule 156 = .ok (.iconst 4, 1) := by decide +kernel
theorem dX7_readRule_157 : decode cX7_readRule 157 = .ok (.goto 4, 3) := by decide +kernel
theorem dX7_readRule_160 : decode cX7_readRule 160 = .ok (.iconst 0, 1) := by decide +kernel
theorem dX7_readRule_161 : decode cX7_readRule 161 = .ok (.ior, 1) := by decide +kernel
theorem dX7_readRule_162 : decode cX7_readRule 162 = .ok (.istore_n 2, 1) := by decide +kernel
theorem dX7_readRule_163 : decode cX7_readRule 163 = .ok (.iload_n 2, 1) := by decide +kernel
theorem dX7_readRule_164 : decode cX7_readRule 164 = .ok (.aload_n 0, 1) := by decide +kernel
theorem dX7_readRule_165 : decode cX7_readRule 165 = .ok (.bipush 87, 2) := by decide +kernel
theorem dX7_readRule_167 : decode cX7_readRule 167 = .ok (.invokevirtual 173, 3) := by decide +kernel
theorem dX7_readRule_170 : decode cX7_readRule 170 = .ok (.ifCond .eq 8, 3) := by decide +kernel
theorem dX7_readRule_173 : decode cX7_readRule 173 = .ok (.bipush 8, 2) := by decide +kernel
theorem dX7_readRule_175 : decode cX7_readRule 175 = .ok (.goto 4, 3) := by decide +kernel
theorem dX7_readRule_178 : decode cX7_readRule 178 = .ok (.iconst 0, 1) := by decide +kernel
theorem dX7_readRule_179 : decode cX7_readRule 179 = .ok (.ior, 1) := by decide +kernel
theorem dX7_readRule_180 : decode cX7_readRule 180 = .ok (.istore_n 2, 1) := by decide +kernel
theorem dX7_readRule_181 : decode cX7_readRule 181 = .ok (.aload_n 0, 1) := by decide +kernel
theorem dX7_readRule_182 : decode cX7_readRule 182 = .ok (.getfield 58, 3) := by decide +kernel
theorem dX7_readRule_185 : decode cX7_readRule 185 = .ok (.iload_n 1, 1) := by decide +kernel
theorem dX7_readRule_186 : decode cX7_readRule 186 = .ok (.iconst 4, 1) := by decide +kernel
theorem dX7_readRule_187 : decode cX7_readRule 187 = .ok (.iadd, 1) := by decide +kernel
theorem dX7_readRule_188 : decode cX7_readRule 188 = .ok (.iload_n 2, 1) := by decide +kernel
theorem dX7_readRule_189 : decode cX7_readRule 189 = .ok (.iastore, 1) := by decide +kernel
theorem dX7_readRule_190 : decode cX7_readRule 190 = .ok (.return_, 1) := by decide +kernel
set_option maxRecDepth 20000 in
theorem ggX7_readWill_X7_digit : GoodIn wsX7_readWill wsX7_digit := goodIn_r _ [7, 2, 8, 9, 10, 11, 12, 6, 13, 14, 15, 16, 17, 18, 29, 30, 31, 32, 33, 34, 35, 36, 37, 38, 39, 40, 41, 42, 43, 44, 45, 46, 47, 48, 49, 50, 51, 52, 53, 54, 55, 56] (by decide +kernel) (by decide +kernel)
set_option maxRecDepth 20000 in
theorem gX7_readWill_X7_digit : GoodIn wsX7_readWill (wsV RX7 170 RX7 yX7_digit wsX7_digit) := goodIn_app (goodIn_of _ (by decide +kernel)) ggX7_readWill_X7_digit
set_option maxRecDepth 20000 in
theorem ggX7_readWill_X7_has : GoodIn wsX7_readWill wsX7_has := goodIn_r _ [22, 2, 9, 10, 11, 12, 6, 13, 14, 15, 29, 30, 31, 32, 33, 34, 35, 36, 37, 38, 39, 40, 41, 42, 43, 44, 45, 46, 47, 48, 49, 50, 51, 52, 53, 54, 55, 56] (by decide +kernel) (by decide +kernel)
set_option maxRecDepth 20000 in
theorem gX7_readWill_X7_has : GoodIn wsX7_readWill (wsV RX7 173 RX7 yX7_has wsX7_has) := goodIn_app (goodIn_of _ (by decide +kernel)) ggX7_readWill_X7_has
set_option maxRecDepth 20000 in
theorem ggX7_readWill_X7_number : GoodIn wsX7_readWill wsX7_number := goodIn_r _ [26, 2, 8, 27, 9, 14, 15, 28, 10, 11, 12, 6, 13, 16, 17, 18, 29, 30, 31, 32, 33, 34, 35, 36, 37, 38, 39, 40, 41, 42, 43, 44, 45, 46, 47, 48, 49, 50, 51, 52, 53, 54, 55, 56] (by decide +kernel) (by decide +kernel)
set_option maxRecDepth 20000 in
theorem gX7_readWill_X7_number : GoodIn wsX7_readWill (wsV RX7 176 RX7 yX7_number wsX7_number) := goodIn_app (goodIn_of _ (by decide +kernel)) ggX7_readWill_X7_number
theorem dX7_readWill_0 : decode cX7_readWill 0 = .ok (.aload_n 0, 1) := by decide +kernel
theorem dX7_readWill_1 : decode cX7_readWill 1 = .ok (.getfield 58, 3) := by decide +kernel
theorem dX7_readWill_4 : decode cX7_readWill 4 = .ok (.iload_n 1, 1) := by decide +kernel
theorem dX7_readWill_5 : decode cX7_readWill 5 = .ok (.aload_n 0, 1) := by decide +kernel
theorem dX7_readWill_6 : decode cX7_readWill 6 = .ok (.bipush 7, 2) := by decide +kernel
theorem dX7_readWill_8 : decode cX7_readWill 8 = .ok (.invokevirtual 170, 3) := by decide +kernel
theorem dX7_readWill_11 : decode cX7_readWill 11 = .ok (.iastore, 1) := by decide +kernel
theorem dX7_readWill_12 : decode cX7_readWill 12 = .ok (.aload_n 0, 1) := by decide +kernel
theorem dX7_readWill_13 : decode cX7_readWill 13 = .ok (.getfield 58, 3) := by decide +kernel
theorem dX7_readWill_16 : decode cX7_readWill 16 = .ok (.iload_n 1, 1) := by decide +kernel
theorem dX7_readWill_17 : decode cX7_readWill 17 = .ok (.iconst 1, 1) := by decide +kernel
theorem dX7_readWill_18 : decode cX7_readWill 18 = .ok (.iadd, 1) := by decide +kernel
theorem dX7_readWill_19 : decode cX7_readWill 19 = .ok (.aload_n 0, 1) := by decide +kernel
theorem dX7_readWill_20 : decode cX7_readWill 20 = .ok (.iconst 5, 1) := by decide +kernel
theorem dX7_readWill_21 : decode cX7_readWill 21 = .ok (.invokevirtual 170, 3) := by decide +kernel
theorem dX7_readWill_24 : decode cX7_readWill 24 = .ok (.iastore, 1) := by decide +kernel
theorem dX7_readWill_25 : decode cX7_readWill 25 = .ok (.aload_n 0, 1) := by decide +kernel
theorem dX7_readWill_26 : decode cX7_readWill 26 = .ok (.bipush 109, 2) := by decide +kernel
theorem dX7_readWill_28 : decode cX7_readWill 28 = .ok (.invokevirtual 173, 3) := by decide +kernel
theorem dX7_readWill_31 : decode cX7_readWill 31 = .ok (.istore_n 2, 1) := by decide +kernel
theorem dX7_readWill_32 : decode cX7_readWill 32 = .ok (.aload_n 0, 1) := by decide +kernel
theorem dX7_readWill_33 : decode cX7_readWill 33 = .ok (.iload_n 2, 1) := by decide +kernel
theorem dX7_readWill_34 : decode cX7_readWill 34 = .ok (.ifCond .ne 16, 3) := by decide +kernel
theorem dX7_readWill_37 : decode cX7_readWill 37 = .ok (.aload_n 0, 1) := by decide +kernel
theorem dX7_readWill_38 : decode cX7_readWill 38 = .ok (.bipush 119, 2) := by decide +kernel
theorem dX7_readWill_40 : decode cX7_readWill 40 = .ok (.invokevirtual 173, 3) := by decide +kernel
theorem dX7_readWill_43 : decode cX7_readWill 43 = .ok (.ifCond .ne 7, 3) := by decide +kernel
theorem dX7_readWill_46 : decode cX7_readWill 46 = .ok (.iconst 1, 1) := by decide +kernel
theorem dX7_readWill_47 : decode cX7_readWill 47 = .ok (.goto 4, 3) := by decide +kernel
theorem dX7_readWill_50 : decode cX7_readWill 50 = .ok (.iconst 0, 1) := by decide +kernel
theorem dX7_readWill_51 : decode cX7_readWill 51 = .ok (.putfield 158, 3) := by decide +kernel
theorem dX7_readWill_54 : decode cX7_readWill 54 = .ok (.aload_n 0, 1) := by decide +kernel
theorem dX7_readWill_55 : decode cX7_readWill 55 = .ok (.getfield 58, 3) := by decide +kernel
theorem dX7_readWill_58 : decode cX7_readWill 58 = .ok (.iload_n 1, 1) := by decide +kernel
theorem dX7_readWill_59 : decode cX7_readWill 59 = .ok (.iconst 2, 1) := by decide +kernel
theorem dX7_readWill_60 : decode cX7_readWill 60 = .ok (.iadd, 1) := by decide +kernel
theorem dX7_readWill_61 : decode cX7_readWill 61 = .ok (.iload_n 2, 1) := by decide +kernel
theorem dX7_readWill_62 : decode cX7_readWill 62 = .ok (.ifCond .eq 7, 3) := by decide +kernel
theorem dX7_readWill_65 : decode cX7_readWill 65 = .ok (.iconst 0, 1) := by decide +kernel
theorem dX7_readWill_66 : decode cX7_readWill 66 = .ok (.goto 4, 3) := by decide +kernel
theorem dX7_readWill_69 : decode cX7_readWill 69 = .ok (.iconst 1, 1) := by decide +kernel
theorem dX7_readWill_70 : decode cX7_readWill 70 = .ok (.iastore, 1) := by decide +kernel
theorem dX7_readWill_71 : decode cX7_readWill 71 = .ok (.aload_n 0, 1) := by decide +kernel
theorem dX7_readWill_72 : decode cX7_readWill 72 = .ok (.getfield 58, 3) := by decide +kernel
theorem dX7_readWill_75 : decode cX7_readWill 75 = .ok (.iload_n 1, 1) := by decide +kernel
theorem dX7_readWill_76 : decode cX7_readWill 76 = .ok (.iconst 3, 1) := by decide +kernel
theorem dX7_readWill_77 : decode cX7_readWill 77 = .ok (.iadd, 1) := by decide +kernel
theorem dX7_readWill_78 : decode cX7_readWill 78 = .ok (.aload_n 0, 1) := by decide +kernel
theorem dX7_readWill_79 : decode cX7_readWill 79 = .ok (.sipush 9999, 3) := by decide +kernel
theorem dX7_readWill_82 : decode cX7_readWill 82 = .ok (.invokevirtual 176, 3) := by decide +kernel
theorem dX7_readWill_85 : decode cX7_readWill 85 = .ok (.iastore, 1) := by decide +kernel
theorem dX7_readWill_86 : decode cX7_readWill 86 = .ok (.aload_n 0, 1) := by decide +kernel
theorem dX7_readWill_87 : decode cX7_readWill 87 = .ok (.getfield 58, 3) := by decide +kernel
theorem dX7_readWill_90 : decode cX7_readWill 90 = .ok (.iload_n 1, 1) := by decide +kernel
theorem dX7_readWill_91 : decode cX7_readWill 91 = .ok (.iconst 4, 1) := by decide +kernel
theorem dX7_readWill_92 : decode cX7_readWill 92 = .ok (.iadd, 1) := by decide +kernel
theorem dX7_readWill_93 : decode cX7_readWill 93 = .ok (.aload_n 0, 1) := by decide +kernel
theorem dX7_readWill_94 : decode cX7_readWill 94 = .ok (.bipush 108, 2) := by decide +kernel
theorem dX7_readWill_96 : decode cX7_readWill 96 = .ok (.invokevirtual 173, 3) := by decide +kernel
theorem dX7_readWill_99 : decode cX7_readWill 99 = .ok (.ifCond .eq 13, 3) := by decide +kernel
theorem dX7_readWill_102 : decode cX7_readWill 102 = .ok (.aload_n 0, 1) := by decide +kernel
theorem dX7_readWill_103 : decode cX7_readWill 103 = .ok (.sipush 9999, 3) := by decide +kernel
theorem dX7_readWill_106 : decode cX7_readWill 106 = .ok (.invokevirtual 176, 3) := by decide +kernel
theorem dX7_readWill_109 : decode cX7_readWill 109 = .ok (.goto 4, 3) := by decide +kernel
theorem dX7_readWill_112 : decode cX7_readWill 112 = .ok (.iconst 0, 1) := by decide +kernel
theorem dX7_readWill_113 : decode cX7_readWill 113 = .ok (.iastore, 1) := by decide +kernel
theorem dX7_readWill_114 : decode cX7_readWill 114 = .ok (.aload_n 0, 1) := by decide +kernel
theorem dX7_readWill_115 : decode cX7_readWill 115 = .ok (.getfield 58, 3) := by decide +kernel
theorem dX7_readWill_118 : decode cX7_readWill 118 = .ok (.iload_n 1, 1) := by decide +kernel
theorem dX7_readWill_119 : decode cX7_readWill 119 = .ok (.iconst 5, 1) := by decide +kernel
theorem dX7_readWill_120 : decode cX7_readWill 120 = .ok (.iadd, 1) := by decide +kernel
theorem dX7_readWill_121 : decode cX7_readWill 121 = .ok (.aload_n 0, 1) := by decide +kernel
theorem dX7_readWill_122 : decode cX7_readWill 122 = .ok (.bipush 103, 2) := by decide +kernel
theorem dX7_readWill_124 : decode cX7_readWill 124 = .ok (.invokevirtual 173, 3) := by decide +kernel
theorem dX7_readWill_127 : decode cX7_readWill 127 = .ok (.ifCond .eq 13, 3) := by decide +kernel
theorem dX7_readWill_130 : decode cX7_readWill 130 = .ok (.aload_n 0, 1) := by decide +kernel
theorem dX7_readWill_131 : decode cX7_readWill 131 = .ok (.sipush 9999, 3) := by decide +kernel
theorem dX7_readWill_134 : decode cX7_readWill 134 = .ok (.invokevirtual 176, 3) := by decide +kernel
theorem dX7_readWill_137 : decode cX7_readWill 137 = .ok (.goto 4, 3) := by decide +kernel
theorem dX7_readWill_140 : decode cX7_readWill 140 = .ok (.iconst 0, 1) := by decide +kernel
theorem dX7_readWill_141 : decode cX7_readWill 141 = .ok (.iastore, 1) := by decide +kernel
theorem dX7_readWill_142 : decode cX7_readWill 142 = .ok (.aload_n 0, 1) := by decide +kernel
theorem dX7_readWill_143 : decode cX7_readWill 143 = .ok (.getfield 58, 3) := by decide +kernel
theorem dX7_readWill_146 : decode cX7_readWill 146 = .ok (.iload_n 1, 1) := by decide +kernel
theorem dX7_readWill_147 : decode cX7_readWill 147 = .ok (.bipush 6, 2) := by decide +kernel
theorem dX7_readWill_149 : decode cX7_readWill 149 = .ok (.iadd, 1) := by decide +kernel
theorem dX7_readWill_150 : decode cX7_readWill 150 = .ok (.aload_n 0, 1) := by decide +kernel
theorem dX7_readWill_151 : decode cX7_readWill 151 = .ok (.bipush 116, 2) := by decide +kernel
theorem dX7_readWill_153 : decode cX7_readWill 153 = .ok (.invokevirtual 173, 3) := by decide +kernel
theorem dX7_readWill_156 : decode cX7_readWill 156 = .ok (.ifCond .eq 13, 3) := by decide +kernel
theorem dX7_readWill_159 : decode cX7_readWill 159 = .ok (.aload_n 0, 1) := by decide +kernel
theorem dX7_readWill_160 : decode cX7_readWill 160 = .ok (.sipush 9999, 3) := by decide +kernel
theorem dX7_readWill_163 : decode cX7_readWill 163 = .ok (.invokevirtual 176, 3) := by decide +kernel
theorem dX7_readWill_166 : decode cX7_readWill 166 = .ok (.goto 4, 3) := by decide +kernel
theorem dX7_readWill_169 : decode cX7_readWill 169 = .ok (.iconst 0, 1) := by decide +kernel
theorem dX7_readWill_170 : decode cX7_readWill 170 = .ok (.iastore, 1) := by decide +kernel
theorem dX7_readWill_171 : decode cX7_readWill 171 = .ok (.return_, 1) := by decide +kernel
set_option maxRecDepth 20000 in
theorem ggX7_readAll_X7_readRule : GoodIn wsX7_readAll wsX7_readRule := goodIn_r _ [8, 9, 2, 10, 11, 12, 7, 13, 14, 1, 15, 16, 17, 18, 3, 19, 20, 21, 22, 23, 24, 25, 26, 27, 28, 29, 30, 31, 32, 37, 38, 39, 40, 41, 42, 43, 44, 45, 46, 47, 48, 49, 50, 51, 52, 53, 54, 55, 56, 57, 58, 59, 60, 61, 62, 63, 64] (by decide +kernel) (by decide +kernel)
set_option maxRecDepth 20000 in
theorem gX7_readAll_X7_readRule : GoodIn wsX7_readAll (wsV RX7 179 RX7 yX7_readRule wsX7_readRule) := goodIn_app (goodIn_of _ (by decide +kernel)) ggX7_readAll_X7_readRule
set_option maxRecDepth 20000 in
theorem ggX7_readAll_X7_readWill : GoodIn wsX7_readAll wsX7_readWill := goodIn_r _ [36, 9, 2, 10, 11, 12, 7, 13, 14, 1, 15, 16, 17, 18, 3, 19, 20, 21, 22, 23, 24, 25, 26, 27, 28, 29, 30, 31, 32, 37, 38, 39, 40, 41, 42, 43, 44, 45, 46, 47, 48, 49, 50, 51, 52, 53, 54, 55, 56, 57, 58, 59, 60, 61, 62, 63, 64] (by decide +kernel) (by decide +kernel)
set_option maxRecDepth 20000 in
theorem gX7_readAll_X7_readWill : GoodIn wsX7_readAll (wsV RX7 183 RX7 yX7_readWill wsX7_readWill) := goodIn_app (goodIn_of _ (by decide +kernel)) ggX7_readAll_X7_readWill
set_option maxRecDepth 20000 in
theorem ggX7_readAll_X7_has : GoodIn wsX7_readAll wsX7_has := goodIn_r _ [26, 2, 1, 15, 16, 17, 7, 18, 3, 19, 37, 38, 39, 40, 41, 42, 43, 44, 45, 46, 47, 48, 49, 50, 51, 52, 53, 54, 55, 56, 57, 58, 59, 60, 61, 62, 63, 64] (by decide +kernel) (by decide +kernel)
set_option maxRecDepth 20000 in
theorem gX7_readAll_X7_has : GoodIn wsX7_readAll (wsV RX7 173 RX7 yX7_has wsX7_has) := goodIn_app (goodIn_of _ (by decide +kernel)) ggX7_readAll_X7_has
set_option maxRecDepth 20000 in
theorem ggX7_readAll_X7_here : GoodIn wsX7_readAll wsX7_here := goodIn_r _ [18, 1, 3, 19, 37, 38, 39, 40, 41, 42, 43, 44, 45, 46, 47, 48, 49, 50, 51, 52, 53, 54, 55, 56, 57, 58, 59, 60, 61, 62, 63, 64] (by decide +kernel) (by decide +kernel)
set_option maxRecDepth 20000 in
theorem gX7_readAll_X7_here : GoodIn wsX7_readAll (wsV RX7 162 RX7 yX7_here wsX7_here) := goodIn_app (goodIn_of _ (by decide +kernel)) ggX7_readAll_X7_here
theorem dX7_readAll_0 : decode cX7_readAll 0 = .ok (.aload_n 0, 1) := by decide +kernel
theorem dX7_readAll_1 : decode cX7_readAll 1 = .ok (.iconst 0, 1) := by decide +kernel
theorem dX7_readAll_2 : decode cX7_readAll 2 = .ok (.putfield 155, 3) := by decide +kernel
theorem dX7_readAll_5 : decode cX7_readAll 5 = .ok (.aload_n 0, 1) := by decide +kernel
theorem dX7_readAll_6 : decode cX7_readAll 6 = .ok (.iconst 0, 1) := by decide +kernel
theorem dX7_readAll_7 : decode cX7_readAll 7 = .ok (.putfield 158, 3) := by decide +kernel
theorem dX7_readAll_10 : decode cX7_readAll 10 = .ok (.iconst 0, 1) := by decide +kernel
theorem dX7_readAll_11 : decode cX7_readAll 11 = .ok (.istore_n 2, 1) := by decide +kernel
theorem dX7_readAll_12 : decode cX7_readAll 12 = .ok (.iconst 1, 1) := by decide +kernel
theorem dX7_readAll_13 : decode cX7_readAll 13 = .ok (.istore_n 3, 1) := by decide +kernel
theorem dX7_readAll_14 : decode cX7_readAll 14 = .ok (.iload_n 3, 1) := by decide +kernel
theorem dX7_readAll_15 : decode cX7_readAll 15 = .ok (.ifCond .eq 53, 3) := by decide +kernel
theorem dX7_readAll_18 : decode cX7_readAll 18 = .ok (.iload_n 1, 1) := by decide +kernel
theorem dX7_readAll_19 : decode cX7_readAll 19 = .ok (.ifCond .eq 14, 3) := by decide +kernel
theorem dX7_readAll_22 : decode cX7_readAll 22 = .ok (.aload_n 0, 1) := by decide +kernel
theorem dX7_readAll_23 : decode cX7_readAll 23 = .ok (.bipush 7, 2) := by decide +kernel
theorem dX7_readAll_25 : decode cX7_readAll 25 = .ok (.iload_n 2, 1) := by decide +kernel
theorem dX7_readAll_26 : decode cX7_readAll 26 = .ok (.imul, 1) := by decide +kernel
theorem dX7_readAll_27 : decode cX7_readAll 27 = .ok (.invokevirtual 179, 3) := by decide +kernel
theorem dX7_readAll_30 : decode cX7_readAll 30 = .ok (.goto 11, 3) := by decide +kernel
theorem dX7_readAll_33 : decode cX7_readAll 33 = .ok (.aload_n 0, 1) := by decide +kernel
theorem dX7_readAll_34 : decode cX7_readAll 34 = .ok (.bipush 7, 2) := by decide +kernel
theorem dX7_readAll_36 : decode cX7_readAll 36 = .ok (.iload_n 2, 1) := by decide +kernel
theorem dX7_readAll_37 : decode cX7_readAll 37 = .ok (.imul, 1) := by decide +kernel
theorem dX7_readAll_38 : decode cX7_readAll 38 = .ok (.invokevirtual 183, 3) := by decide +kernel
theorem dX7_readAll_41 : decode cX7_readAll 41 = .ok (.iinc 2 1, 3) := by decide +kernel
theorem dX7_readAll_44 : decode cX7_readAll 44 = .ok (.iload_n 2, 1) := by decide +kernel
theorem dX7_readAll_45 : decode cX7_readAll 45 = .ok (.bipush 8, 2) := by decide +kernel
theorem dX7_readAll_47 : decode cX7_readAll 47 = .ok (.if_icmp .ge 16, 3) := by decide +kernel
theorem dX7_readAll_50 : decode cX7_readAll 50 = .ok (.aload_n 0, 1) := by decide +kernel
theorem dX7_readAll_51 : decode cX7_readAll 51 = .ok (.bipush 59, 2) := by decide +kernel
theorem dX7_readAll_53 : decode cX7_readAll 53 = .ok (.invokevirtual 173, 3) := by decide +kernel
theorem dX7_readAll_56 : decode cX7_readAll 56 = .ok (.ifCond .eq 7, 3) := by decide +kernel
theorem dX7_readAll_59 : decode cX7_readAll 59 = .ok (.iconst 1, 1) := by decide +kernel
theorem dX7_readAll_60 : decode cX7_readAll 60 = .ok (.goto 4, 3) := by decide +kernel
theorem dX7_readAll_63 : decode cX7_readAll 63 = .ok (.iconst 0, 1) := by decide +kernel
theorem dX7_readAll_64 : decode cX7_readAll 64 = .ok (.istore_n 3, 1) := by decide +kernel
theorem dX7_readAll_65 : decode cX7_readAll 65 = .ok (.goto (-51), 3) := by decide +kernel
theorem dX7_readAll_68 : decode cX7_readAll 68 = .ok (.aload_n 0, 1) := by decide +kernel
theorem dX7_readAll_69 : decode cX7_readAll 69 = .ok (.aload_n 0, 1) := by decide +kernel
theorem dX7_readAll_70 : decode cX7_readAll 70 = .ok (.getfield 158, 3) := by decide +kernel
theorem dX7_readAll_73 : decode cX7_readAll 73 = .ok (.ifCond .ne 10, 3) := by decide +kernel
theorem dX7_readAll_76 : decode cX7_readAll 76 = .ok (.aload_n 0, 1) := by decide +kernel
theorem dX7_readAll_77 : decode cX7_readAll 77 = .ok (.invokevirtual 162, 3) := by decide +kernel
theorem dX7_readAll_80 : decode cX7_readAll 80 = .ok (.ifCond .eq 7, 3) := by decide +kernel
theorem dX7_readAll_83 : decode cX7_readAll 83 = .ok (.iconst 1, 1) := by decide +kernel
theorem dX7_readAll_84 : decode cX7_readAll 84 = .ok (.goto 4, 3) := by decide +kernel
theorem dX7_readAll_87 : decode cX7_readAll 87 = .ok (.iconst 0, 1) := by decide +kernel
theorem dX7_readAll_88 : decode cX7_readAll 88 = .ok (.putfield 158, 3) := by decide +kernel
theorem dX7_readAll_91 : decode cX7_readAll 91 = .ok (.aload_n 0, 1) := by decide +kernel
theorem dX7_readAll_92 : decode cX7_readAll 92 = .ok (.iconst 0, 1) := by decide +kernel
theorem dX7_readAll_93 : decode cX7_readAll 93 = .ok (.putfield 152, 3) := by decide +kernel
theorem dX7_readAll_96 : decode cX7_readAll 96 = .ok (.aload_n 0, 1) := by decide +kernel
theorem dX7_readAll_97 : decode cX7_readAll 97 = .ok (.getfield 158, 3) := by decide +kernel
theorem dX7_readAll_100 : decode cX7_readAll 100 = .ok (.ifCond .eq 13, 3) := by decide +kernel
theorem dX7_readAll_103 : decode cX7_readAll 103 = .ok (.bipush (-20), 2) := by decide +kernel
theorem dX7_readAll_105 : decode cX7_readAll 105 = .ok (.aload_n 0, 1) := by decide +kernel
theorem dX7_readAll_106 : decode cX7_readAll 106 = .ok (.getfield 155, 3) := by decide +kernel
theorem dX7_readAll_109 : decode cX7_readAll 109 = .ok (.isub, 1) := by decide +kernel
theorem dX7_readAll_110 : decode cX7_readAll 110 = .ok (.goto 4, 3) := by decide +kernel
theorem dX7_readAll_113 : decode cX7_readAll 113 = .ok (.iload_n 2, 1) := by decide +kernel
theorem dX7_readAll_114 : decode cX7_readAll 114 = .ok (.ireturn, 1) := by decide +kernel
set_option maxRecDepth 20000 in
theorem ggX7_rules_X7_readAll : GoodIn wsX7_rules wsX7_readAll := goodIn_r _ [10, 11, 12, 13, 14, 15, 16, 9, 17, 1, 18, 19, 20, 21, 22, 23, 24, 25, 26, 27, 28, 29, 30, 31, 32, 33, 34, 35, 36, 37, 38, 39, 40, 41, 42, 43, 44, 45, 46, 47, 48, 49, 50, 51, 52, 53, 54, 55, 56, 57, 58, 59, 60, 61, 62, 63, 64, 65, 66, 67, 68, 69, 70, 71, 72] (by decide +kernel) (by decide +kernel)
set_option maxRecDepth 20000 in
theorem gX7_rules_X7_readAll : GoodIn wsX7_rules (wsV RX7 186 RX7 yX7_readAll wsX7_readAll) := goodIn_app (goodIn_of _ (by decide +kernel)) ggX7_rules_X7_readAll
theorem dX7_rules_0 : decode cX7_rules 0 = .ok (.aload_n 0, 1) := by decide +kernel
theorem dX7_rules_1 : decode cX7_rules 1 = .ok (.iconst 1, 1) := by decide +kernel
theorem dX7_rules_2 : decode cX7_rules 2 = .ok (.invokevirtual 186, 3) := by decide +kernel
theorem dX7_rules_5 : decode cX7_rules 5 = .ok (.istore_n 1, 1) := by decide +kernel
theorem dX7_rules_6 : decode cX7_rules 6 = .ok (.iconst 0, 1) := by decide +kernel
theorem dX7_rules_7 : decode cX7_rules 7 = .ok (.istore_n 2, 1) := by decide +kernel
theorem dX7_rules_8 : decode cX7_rules 8 = .ok (.iload_n 2, 1) := by decide +kernel
theorem dX7_rules_9 : decode cX7_rules 9 = .ok (.bipush 7, 2) := by decide +kernel
theorem dX7_rules_11 : decode cX7_rules 11 = .ok (.iload_n 1, 1) := by decide +kernel
theorem dX7_rules_12 : decode cX7_rules 12 = .ok (.imul, 1) := by decide +kernel
theorem dX7_rules_13 : decode cX7_rules 13 = .ok (.if_icmp .ge 84, 3) := by decide +kernel
theorem dX7_rules_16 : decode cX7_rules 16 = .ok (.aload_n 0, 1) := by decide +kernel
theorem dX7_rules_17 : decode cX7_rules 17 = .ok (.getfield 58, 3) := by decide +kernel
theorem dX7_rules_20 : decode cX7_rules 20 = .ok (.iload_n 2, 1) := by decide +kernel
theorem dX7_rules_21 : decode cX7_rules 21 = .ok (.iaload, 1) := by decide +kernel
theorem dX7_rules_22 : decode cX7_rules 22 = .ok (.istore_n 3, 1) := by decide +kernel
theorem dX7_rules_23 : decode cX7_rules 23 = .ok (.iload_n 3, 1) := by decide +kernel
theorem dX7_rules_24 : decode cX7_rules 24 = .ok (.bipush 8, 2) := by decide +kernel
theorem dX7_rules_26 : decode cX7_rules 26 = .ok (.if_icmp .ge 65, 3) := by decide +kernel
theorem dX7_rules_29 : decode cX7_rules 29 = .ok (.aload_n 0, 1) := by decide +kernel
theorem dX7_rules_30 : decode cX7_rules 30 = .ok (.getfield 30, 3) := by decide +kernel
theorem dX7_rules_33 : decode cX7_rules 33 = .ok (.iload_n 3, 1) := by decide +kernel
theorem dX7_rules_34 : decode cX7_rules 34 = .ok (.aload_n 0, 1) := by decide +kernel
theorem dX7_rules_35 : decode cX7_rules 35 = .ok (.getfield 58, 3) := by decide +kernel
theorem dX7_rules_38 : decode cX7_rules 38 = .ok (.iload_n 2, 1) := by decide +kernel
theorem dX7_rules_39 : decode cX7_rules 39 = .ok (.iconst 1, 1) := by decide +kernel
theorem dX7_rules_40 : decode cX7_rules 40 = .ok (.iadd, 1) := by decide +kernel
theorem dX7_rules_41 : decode cX7_rules 41 = .ok (.iaload, 1) := by decide +kernel
theorem dX7_rules_42 : decode cX7_rules 42 = .ok (.iastore, 1) := by decide +kernel
theorem dX7_rules_43 : decode cX7_rules 43 = .ok (.aload_n 0, 1) := by decide +kernel
theorem dX7_rules_44 : decode cX7_rules 44 = .ok (.getfield 33, 3) := by decide +kernel
theorem dX7_rules_47 : decode cX7_rules 47 = .ok (.iload_n 3, 1) := by decide +kernel
theorem dX7_rules_48 : decode cX7_rules 48 = .ok (.aload_n 0, 1) := by decide +kernel
theorem dX7_rules_49 : decode cX7_rules 49 = .ok (.getfield 58, 3) := by decide +kernel
theorem dX7_rules_52 : decode cX7_rules 52 = .ok (.iload_n 2, 1) := by decide +kernel
theorem dX7_rules_53 : decode cX7_rules 53 = .ok (.iconst 2, 1) := by decide +kernel
theorem dX7_rules_54 : decode cX7_rules 54 = .ok (.iadd, 1) := by decide +kernel
theorem dX7_rules_55 : decode cX7_rules 55 = .ok (.iaload, 1) := by decide +kernel
theorem dX7_rules_56 : decode cX7_rules 56 = .ok (.iastore, 1) := by decide +kernel
theorem dX7_rules_57 : decode cX7_rules 57 = .ok (.aload_n 0, 1) := by decide +kernel
theorem dX7_rules_58 : decode cX7_rules 58 = .ok (.getfield 36, 3) := by decide +kernel
theorem dX7_rules_61 : decode cX7_rules 61 = .ok (.iload_n 3, 1) := by decide +kernel
theorem dX7_rules_62 : decode cX7_rules 62 = .ok (.aload_n 0, 1) := by decide +kernel
theorem dX7_rules_63 : decode cX7_rules 63 = .ok (.getfield 58, 3) := by decide +kernel
theorem dX7_rules_66 : decode cX7_rules 66 = .ok (.iload_n 2, 1) := by decide +kernel
theorem dX7_rules_67 : decode cX7_rules 67 = .ok (.iconst 3, 1) := by decide +kernel
theorem dX7_rules_68 : decode cX7_rules 68 = .ok (.iadd, 1) := by decide +kernel
theorem dX7_rules_69 : decode cX7_rules 69 = .ok (.iaload, 1) := by decide +kernel
theorem dX7_rules_70 : decode cX7_rules 70 = .ok (.iastore, 1) := by decide +kernel
theorem dX7_rules_71 : decode cX7_rules 71 = .ok (.aload_n 0, 1) := by decide +kernel
theorem dX7_rules_72 : decode cX7_rules 72 = .ok (.getfield 39, 3) := by decide +kernel
theorem dX7_rules_75 : decode cX7_rules 75 = .ok (.iload_n 3, 1) := by decide +kernel
theorem dX7_rules_76 : decode cX7_rules 76 = .ok (.aload_n 0, 1) := by decide +kernel
theorem dX7_rules_77 : decode cX7_rules 77 = .ok (.getfield 58, 3) := by decide +kernel
theorem dX7_rules_80 : decode cX7_rules 80 = .ok (.iload_n 2, 1) := by decide +kernel
theorem dX7_rules_81 : decode cX7_rules 81 = .ok (.iconst 4, 1) := by decide +kernel
theorem dX7_rules_82 : decode cX7_rules 82 = .ok (.iadd, 1) := by decide +kernel
theorem dX7_rules_83 : decode cX7_rules 83 = .ok (.iaload, 1) := by decide +kernel
theorem dX7_rules_84 : decode cX7_rules 84 = .ok (.iastore, 1) := by decide +kernel
theorem dX7_rules_85 : decode cX7_rules 85 = .ok (.iinc 3 1, 3) := by decide +kernel
theorem dX7_rules_88 : decode cX7_rules 88 = .ok (.goto (-65), 3) := by decide +kernel
theorem dX7_rules_91 : decode cX7_rules 91 = .ok (.iinc 2 7, 3) := by decide +kernel
theorem dX7_rules_94 : decode cX7_rules 94 = .ok (.goto (-86), 3) := by decide +kernel
theorem dX7_rules_97 : decode cX7_rules 97 = .ok (.iload_n 1, 1) := by decide +kernel
theorem dX7_rules_98 : decode cX7_rules 98 = .ok (.ireturn, 1) := by decide +kernel
set_option maxRecDepth 20000 in
theorem ggX7_wills_X7_readAll : GoodIn wsX7_wills wsX7_readAll := goodIn_r _ [7, 8, 9, 10, 11, 12, 13, 6, 14, 2, 15, 16, 17, 18, 19, 20, 21, 22, 23, 24, 25, 26, 27, 28, 29, 30, 31, 32, 33, 34, 35, 36, 37, 38, 39, 40, 41, 50, 51, 52, 53, 54, 55, 56, 57, 58, 59, 60, 61, 62, 63, 64, 65, 66, 67, 68, 69, 70, 71, 72, 73, 74, 75, 76, 77] (by decide +kernel) (by decide +kernel)
set_option maxRecDepth 20000 in
theorem gX7_wills_X7_readAll : GoodIn wsX7_wills (wsV RX7 186 RX7 yX7_readAll wsX7_readAll) := goodIn_app (goodIn_of _ (by decide +kernel)) ggX7_wills_X7_readAll
set_option maxRecDepth 20000 in
theorem ggX7_wills_X7_comes : GoodIn wsX7_wills wsX7_comes := goodIn_r _ [45, 46, 1, 47, 48, 49, 50, 51, 52, 53, 54, 55, 56, 57, 58, 59, 60, 61, 62, 63, 64, 65, 66, 67, 68, 69, 70, 71, 72, 73, 74, 75, 76, 77] (by decide +kernel) (by decide +kernel)
set_option maxRecDepth 20000 in
theorem gX7_wills_X7_comes : GoodIn wsX7_wills (wsV RX7 107 RX7 yX7_comes wsX7_comes) := goodIn_app (goodIn_of _ (by decide +kernel)) ggX7_wills_X7_comes
theorem dX7_wills_0 : decode cX7_wills 0 = .ok (.aload_n 0, 1) := by decide +kernel
theorem dX7_wills_1 : decode cX7_wills 1 = .ok (.iconst 0, 1) := by decide +kernel
theorem dX7_wills_2 : decode cX7_wills 2 = .ok (.invokevirtual 186, 3) := by decide +kernel
theorem dX7_wills_5 : decode cX7_wills 5 = .ok (.istore_n 1, 1) := by decide +kernel
theorem dX7_wills_6 : decode cX7_wills 6 = .ok (.iload_n 1, 1) := by decide +kernel
theorem dX7_wills_7 : decode cX7_wills 7 = .ok (.ifCond .le 17, 3) := by decide +kernel
theorem dX7_wills_10 : decode cX7_wills 10 = .ok (.aload_n 0, 1) := by decide +kernel
theorem dX7_wills_11 : decode cX7_wills 11 = .ok (.getfield 87, 3) := by decide +kernel
theorem dX7_wills_14 : decode cX7_wills 14 = .ok (.iload_n 1, 1) := by decide +kernel
theorem dX7_wills_15 : decode cX7_wills 15 = .ok (.iadd, 1) := by decide +kernel
theorem dX7_wills_16 : decode cX7_wills 16 = .ok (.bipush 24, 2) := by decide +kernel
theorem dX7_wills_18 : decode cX7_wills 18 = .ok (.if_icmp .le 6, 3) := by decide +kernel
theorem dX7_wills_21 : decode cX7_wills 21 = .ok (.bipush (-3), 2) := by decide +kernel
theorem dX7_wills_23 : decode cX7_wills 23 = .ok (.ireturn, 1) := by decide +kernel
theorem dX7_wills_24 : decode cX7_wills 24 = .ok (.iconst 0, 1) := by decide +kernel
theorem dX7_wills_25 : decode cX7_wills 25 = .ok (.istore_n 2, 1) := by decide +kernel
theorem dX7_wills_26 : decode cX7_wills 26 = .ok (.iload_n 2, 1) := by decide +kernel
theorem dX7_wills_27 : decode cX7_wills 27 = .ok (.bipush 7, 2) := by decide +kernel
theorem dX7_wills_29 : decode cX7_wills 29 = .ok (.iload_n 1, 1) := by decide +kernel
theorem dX7_wills_30 : decode cX7_wills 30 = .ok (.imul, 1) := by decide +kernel
theorem dX7_wills_31 : decode cX7_wills 31 = .ok (.if_icmp .ge 68, 3) := by decide +kernel
theorem dX7_wills_34 : decode cX7_wills 34 = .ok (.aload_n 0, 1) := by decide +kernel
theorem dX7_wills_35 : decode cX7_wills 35 = .ok (.aload_n 0, 1) := by decide +kernel
theorem dX7_wills_36 : decode cX7_wills 36 = .ok (.getfield 58, 3) := by decide +kernel
theorem dX7_wills_39 : decode cX7_wills 39 = .ok (.iload_n 2, 1) := by decide +kernel
theorem dX7_wills_40 : decode cX7_wills 40 = .ok (.iaload, 1) := by decide +kernel
theorem dX7_wills_41 : decode cX7_wills 41 = .ok (.aload_n 0, 1) := by decide +kernel
theorem dX7_wills_42 : decode cX7_wills 42 = .ok (.getfield 58, 3) := by decide +kernel
theorem dX7_wills_45 : decode cX7_wills 45 = .ok (.iload_n 2, 1) := by decide +kernel
theorem dX7_wills_46 : decode cX7_wills 46 = .ok (.iconst 1, 1) := by decide +kernel
theorem dX7_wills_47 : decode cX7_wills 47 = .ok (.iadd, 1) := by decide +kernel
theorem dX7_wills_48 : decode cX7_wills 48 = .ok (.iaload, 1) := by decide +kernel
theorem dX7_wills_49 : decode cX7_wills 49 = .ok (.aload_n 0, 1) := by decide +kernel
theorem dX7_wills_50 : decode cX7_wills 50 = .ok (.getfield 58, 3) := by decide +kernel
theorem dX7_wills_53 : decode cX7_wills 53 = .ok (.iload_n 2, 1) := by decide +kernel
theorem dX7_wills_54 : decode cX7_wills 54 = .ok (.iconst 2, 1) := by decide +kernel
theorem dX7_wills_55 : decode cX7_wills 55 = .ok (.iadd, 1) := by decide +kernel
theorem dX7_wills_56 : decode cX7_wills 56 = .ok (.iaload, 1) := by decide +kernel
theorem dX7_wills_57 : decode cX7_wills 57 = .ok (.aload_n 0, 1) := by decide +kernel
theorem dX7_wills_58 : decode cX7_wills 58 = .ok (.getfield 58, 3) := by decide +kernel
theorem dX7_wills_61 : decode cX7_wills 61 = .ok (.iload_n 2, 1) := by decide +kernel
theorem dX7_wills_62 : decode cX7_wills 62 = .ok (.iconst 3, 1) := by decide +kernel
theorem dX7_wills_63 : decode cX7_wills 63 = .ok (.iadd, 1) := by decide +kernel
theorem dX7_wills_64 : decode cX7_wills 64 = .ok (.iaload, 1) := by decide +kernel
theorem dX7_wills_65 : decode cX7_wills 65 = .ok (.aload_n 0, 1) := by decide +kernel
theorem dX7_wills_66 : decode cX7_wills 66 = .ok (.getfield 58, 3) := by decide +kernel
theorem dX7_wills_69 : decode cX7_wills 69 = .ok (.iload_n 2, 1) := by decide +kernel
theorem dX7_wills_70 : decode cX7_wills 70 = .ok (.iconst 4, 1) := by decide +kernel
theorem dX7_wills_71 : decode cX7_wills 71 = .ok (.iadd, 1) := by decide +kernel
theorem dX7_wills_72 : decode cX7_wills 72 = .ok (.iaload, 1) := by decide +kernel
theorem dX7_wills_73 : decode cX7_wills 73 = .ok (.aload_n 0, 1) := by decide +kernel
theorem dX7_wills_74 : decode cX7_wills 74 = .ok (.getfield 58, 3) := by decide +kernel
theorem dX7_wills_77 : decode cX7_wills 77 = .ok (.iload_n 2, 1) := by decide +kernel
theorem dX7_wills_78 : decode cX7_wills 78 = .ok (.iconst 5, 1) := by decide +kernel
theorem dX7_wills_79 : decode cX7_wills 79 = .ok (.iadd, 1) := by decide +kernel
theorem dX7_wills_80 : decode cX7_wills 80 = .ok (.iaload, 1) := by decide +kernel
theorem dX7_wills_81 : decode cX7_wills 81 = .ok (.aload_n 0, 1) := by decide +kernel
theorem dX7_wills_82 : decode cX7_wills 82 = .ok (.getfield 58, 3) := by decide +kernel
theorem dX7_wills_85 : decode cX7_wills 85 = .ok (.iload_n 2, 1) := by decide +kernel
theorem dX7_wills_86 : decode cX7_wills 86 = .ok (.bipush 6, 2) := by decide +kernel
theorem dX7_wills_88 : decode cX7_wills 88 = .ok (.iadd, 1) := by decide +kernel
theorem dX7_wills_89 : decode cX7_wills 89 = .ok (.iaload, 1) := by decide +kernel
theorem dX7_wills_90 : decode cX7_wills 90 = .ok (.invokevirtual 107, 3) := by decide +kernel
theorem dX7_wills_93 : decode cX7_wills 93 = .ok (.iinc 2 7, 3) := by decide +kernel
theorem dX7_wills_96 : decode cX7_wills 96 = .ok (.goto (-70), 3) := by decide +kernel
theorem dX7_wills_99 : decode cX7_wills 99 = .ok (.iload_n 1, 1) := by decide +kernel
theorem dX7_wills_100 : decode cX7_wills 100 = .ok (.ireturn, 1) := by decide +kernel
set_option maxRecDepth 20000 in
theorem ggX7_totalOf_X7_isBooked : GoodIn wsX7_totalOf wsX7_isBooked := goodIn_r _ [7, 8, 9, 10, 11, 6, 12, 13, 14, 15, 16, 17, 18, 19, 20, 21, 30, 31, 32, 33, 34, 35, 36, 37, 38, 39, 40, 41, 42, 43, 44, 45, 46, 47, 48, 49, 50, 51, 52, 53, 54, 55, 56, 57] (by decide +kernel) (by decide +kernel)
set_option maxRecDepth 20000 in
theorem gX7_totalOf_X7_isBooked : GoodIn wsX7_totalOf (wsV RX7 123 RX7 yX7_isBooked wsX7_isBooked) := goodIn_app (goodIn_of _ (by decide +kernel)) ggX7_totalOf_X7_isBooked
set_option maxRecDepth 20000 in
theorem ggX7_totalOf_X7_sworn : GoodIn wsX7_totalOf wsX7_sworn := goodIn_r _ [12, 13, 14, 15, 16, 17, 6, 18, 19, 20, 21, 30, 31, 32, 33, 34, 35, 36, 37, 38, 39, 40, 41, 42, 43, 44, 45, 46, 47, 48, 49, 50, 51, 52, 53, 54, 55, 56, 57] (by decide +kernel) (by decide +kernel)
set_option maxRecDepth 20000 in
theorem gX7_totalOf_X7_sworn : GoodIn wsX7_totalOf (wsV RX7 120 RX7 yX7_sworn wsX7_sworn) := goodIn_app (goodIn_of _ (by decide +kernel)) ggX7_totalOf_X7_sworn
set_option maxRecDepth 20000 in
theorem ggX7_totalOf_X7_weight : GoodIn wsX7_totalOf wsX7_weight := goodIn_r _ [25, 26, 27, 28, 29, 9, 10, 11, 6, 12, 13, 14, 15, 16, 17, 18, 19, 20, 21, 30, 31, 32, 33, 34, 35, 36, 37, 38, 39, 40, 41, 42, 43, 44, 45, 46, 47, 48, 49, 50, 51, 52, 53, 54, 55, 56, 57] (by decide +kernel) (by decide +kernel)
set_option maxRecDepth 20000 in
theorem gX7_totalOf_X7_weight : GoodIn wsX7_totalOf (wsV RX7 127 RX7 yX7_weight wsX7_weight) := goodIn_app (goodIn_of _ (by decide +kernel)) ggX7_totalOf_X7_weight
theorem dX7_totalOf_0 : decode cX7_totalOf 0 = .ok (.lconst 0, 1) := by decide +kernel
theorem dX7_totalOf_1 : decode cX7_totalOf 1 = .ok (.lstore 4, 2) := by decide +kernel
theorem dX7_totalOf_3 : decode cX7_totalOf 3 = .ok (.iconst 0, 1) := by decide +kernel
theorem dX7_totalOf_4 : decode cX7_totalOf 4 = .ok (.istore 6, 2) := by decide +kernel
theorem dX7_totalOf_6 : decode cX7_totalOf 6 = .ok (.iload 6, 2) := by decide +kernel
theorem dX7_totalOf_8 : decode cX7_totalOf 8 = .ok (.aload_n 0, 1) := by decide +kernel
theorem dX7_totalOf_9 : decode cX7_totalOf 9 = .ok (.getfield 87, 3) := by decide +kernel
theorem dX7_totalOf_12 : decode cX7_totalOf 12 = .ok (.if_icmp .ge 62, 3) := by decide +kernel
theorem dX7_totalOf_15 : decode cX7_totalOf 15 = .ok (.lload 4, 2) := by decide +kernel
theorem dX7_totalOf_17 : decode cX7_totalOf 17 = .ok (.aload_n 0, 1) := by decide +kernel
theorem dX7_totalOf_18 : decode cX7_totalOf 18 = .ok (.getfield 18, 3) := by decide +kernel
theorem dX7_totalOf_21 : decode cX7_totalOf 21 = .ok (.iload 6, 2) := by decide +kernel
theorem dX7_totalOf_23 : decode cX7_totalOf 23 = .ok (.iaload, 1) := by decide +kernel
theorem dX7_totalOf_24 : decode cX7_totalOf 24 = .ok (.iload_n 1, 1) := by decide +kernel
theorem dX7_totalOf_25 : decode cX7_totalOf 25 = .ok (.if_icmp .ne 39, 3) := by decide +kernel
theorem dX7_totalOf_28 : decode cX7_totalOf 28 = .ok (.iload 6, 2) := by decide +kernel
theorem dX7_totalOf_30 : decode cX7_totalOf 30 = .ok (.iload_n 3, 1) := by decide +kernel
theorem dX7_totalOf_31 : decode cX7_totalOf 31 = .ok (.if_icmp .eq 33, 3) := by decide +kernel
theorem dX7_totalOf_34 : decode cX7_totalOf 34 = .ok (.aload_n 0, 1) := by decide +kernel
theorem dX7_totalOf_35 : decode cX7_totalOf 35 = .ok (.iload 6, 2) := by decide +kernel
theorem dX7_totalOf_37 : decode cX7_totalOf 37 = .ok (.iload_n 2, 1) := by decide +kernel
theorem dX7_totalOf_38 : decode cX7_totalOf 38 = .ok (.invokevirtual 123, 3) := by decide +kernel
theorem dX7_totalOf_41 : decode cX7_totalOf 41 = .ok (.ifCond .eq 23, 3) := by decide +kernel
theorem dX7_totalOf_44 : decode cX7_totalOf 44 = .ok (.aload_n 0, 1) := by decide +kernel
theorem dX7_totalOf_45 : decode cX7_totalOf 45 = .ok (.iload 6, 2) := by decide +kernel
theorem dX7_totalOf_47 : decode cX7_totalOf 47 = .ok (.iload_n 2, 1) := by decide +kernel
theorem dX7_totalOf_48 : decode cX7_totalOf 48 = .ok (.invokevirtual 120, 3) := by decide +kernel
theorem dX7_totalOf_51 : decode cX7_totalOf 51 = .ok (.i2l, 1) := by decide +kernel
theorem dX7_totalOf_52 : decode cX7_totalOf 52 = .ok (.aload_n 0, 1) := by decide +kernel
theorem dX7_totalOf_53 : decode cX7_totalOf 53 = .ok (.iload 6, 2) := by decide +kernel
theorem dX7_totalOf_55 : decode cX7_totalOf 55 = .ok (.iload_n 2, 1) := by decide +kernel
theorem dX7_totalOf_56 : decode cX7_totalOf 56 = .ok (.invokevirtual 127, 3) := by decide +kernel
theorem dX7_totalOf_59 : decode cX7_totalOf 59 = .ok (.i2l, 1) := by decide +kernel
theorem dX7_totalOf_60 : decode cX7_totalOf 60 = .ok (.lmul, 1) := by decide +kernel
theorem dX7_totalOf_61 : decode cX7_totalOf 61 = .ok (.goto 4, 3) := by decide +kernel
theorem dX7_totalOf_64 : decode cX7_totalOf 64 = .ok (.lconst 0, 1) := by decide +kernel
theorem dX7_totalOf_65 : decode cX7_totalOf 65 = .ok (.ladd, 1) := by decide +kernel
theorem dX7_totalOf_66 : decode cX7_totalOf 66 = .ok (.lstore 4, 2) := by decide +kernel
theorem dX7_totalOf_68 : decode cX7_totalOf 68 = .ok (.iinc 6 1, 3) := by decide +kernel
theorem dX7_totalOf_71 : decode cX7_totalOf 71 = .ok (.goto (-65), 3) := by decide +kernel
theorem dX7_totalOf_74 : decode cX7_totalOf 74 = .ok (.lload 4, 2) := by decide +kernel
theorem dX7_totalOf_76 : decode cX7_totalOf 76 = .ok (.lreturn, 1) := by decide +kernel
set_option maxRecDepth 20000 in
theorem ggX7_topOf_X7_isBooked : GoodIn wsX7_topOf wsX7_isBooked := goodIn_r _ [9, 10, 11, 12, 13, 8, 14, 15, 16, 17, 18, 19, 20, 21, 22, 23, 32, 33, 34, 35, 36, 37, 38, 39, 40, 41, 42, 43, 44, 45, 46, 47, 48, 49, 50, 51, 52, 53, 54, 55, 56, 57, 58, 59] (by decide +kernel) (by decide +kernel)
set_option maxRecDepth 20000 in
theorem gX7_topOf_X7_isBooked : GoodIn wsX7_topOf (wsV RX7 123 RX7 yX7_isBooked wsX7_isBooked) := goodIn_app (goodIn_of _ (by decide +kernel)) ggX7_topOf_X7_isBooked
set_option maxRecDepth 20000 in
theorem ggX7_topOf_X7_sworn : GoodIn wsX7_topOf wsX7_sworn := goodIn_r _ [14, 15, 16, 17, 18, 19, 8, 20, 21, 22, 23, 32, 33, 34, 35, 36, 37, 38, 39, 40, 41, 42, 43, 44, 45, 46, 47, 48, 49, 50, 51, 52, 53, 54, 55, 56, 57, 58, 59] (by decide +kernel) (by decide +kernel)
set_option maxRecDepth 20000 in
theorem gX7_topOf_X7_sworn : GoodIn wsX7_topOf (wsV RX7 120 RX7 yX7_sworn wsX7_sworn) := goodIn_app (goodIn_of _ (by decide +kernel)) ggX7_topOf_X7_sworn
set_option maxRecDepth 20000 in
theorem ggX7_topOf_X7_weight : GoodIn wsX7_topOf wsX7_weight := goodIn_r _ [27, 28, 29, 30, 31, 11, 12, 13, 8, 14, 15, 16, 17, 18, 19, 20, 21, 22, 23, 32, 33, 34, 35, 36, 37, 38, 39, 40, 41, 42, 43, 44, 45, 46, 47, 48, 49, 50, 51, 52, 53, 54, 55, 56, 57, 58, 59] (by decide +kernel) (by decide +kernel)
set_option maxRecDepth 20000 in
theorem gX7_topOf_X7_weight : GoodIn wsX7_topOf (wsV RX7 127 RX7 yX7_weight wsX7_weight) := goodIn_app (goodIn_of _ (by decide +kernel)) ggX7_topOf_X7_weight
theorem dX7_topOf_0 : decode cX7_topOf 0 = .ok (.iload_n 3, 1) := by decide +kernel
theorem dX7_topOf_1 : decode cX7_topOf 1 = .ok (.i2l, 1) := by decide +kernel
theorem dX7_topOf_2 : decode cX7_topOf 2 = .ok (.aload_n 0, 1) := by decide +kernel
theorem dX7_topOf_3 : decode cX7_topOf 3 = .ok (.getfield 42, 3) := by decide +kernel
theorem dX7_topOf_6 : decode cX7_topOf 6 = .ok (.iload_n 1, 1) := by decide +kernel
theorem dX7_topOf_7 : decode cX7_topOf 7 = .ok (.iaload, 1) := by decide +kernel
theorem dX7_topOf_8 : decode cX7_topOf 8 = .ok (.i2l, 1) := by decide +kernel
theorem dX7_topOf_9 : decode cX7_topOf 9 = .ok (.lmul, 1) := by decide +kernel
theorem dX7_topOf_10 : decode cX7_topOf 10 = .ok (.lstore 5, 2) := by decide +kernel
theorem dX7_topOf_12 : decode cX7_topOf 12 = .ok (.lconst 0, 1) := by decide +kernel
theorem dX7_topOf_13 : decode cX7_topOf 13 = .ok (.lstore 7, 2) := by decide +kernel
theorem dX7_topOf_15 : decode cX7_topOf 15 = .ok (.iconst 0, 1) := by decide +kernel
theorem dX7_topOf_16 : decode cX7_topOf 16 = .ok (.istore 9, 2) := by decide +kernel
theorem dX7_topOf_18 : decode cX7_topOf 18 = .ok (.iconst 1, 1) := by decide +kernel
theorem dX7_topOf_19 : decode cX7_topOf 19 = .ok (.istore 10, 2) := by decide +kernel
theorem dX7_topOf_21 : decode cX7_topOf 21 = .ok (.iload 10, 2) := by decide +kernel
theorem dX7_topOf_23 : decode cX7_topOf 23 = .ok (.ifCond .eq 219, 3) := by decide +kernel
theorem dX7_topOf_26 : decode cX7_topOf 26 = .ok (.lload 5, 2) := by decide +kernel
theorem dX7_topOf_28 : decode cX7_topOf 28 = .ok (.lconst 0, 1) := by decide +kernel
theorem dX7_topOf_29 : decode cX7_topOf 29 = .ok (.lcmp, 1) := by decide +kernel
theorem dX7_topOf_30 : decode cX7_topOf 30 = .ok (.ifCond .le 212, 3) := by decide +kernel
theorem dX7_topOf_33 : decode cX7_topOf 33 = .ok (.bipush (-4), 2) := by decide +kernel
theorem dX7_topOf_35 : decode cX7_topOf 35 = .ok (.istore 11, 2) := by decide +kernel
theorem dX7_topOf_37 : decode cX7_topOf 37 = .ok (.aload_n 0, 1) := by decide +kernel
theorem dX7_topOf_38 : decode cX7_topOf 38 = .ok (.getfield 87, 3) := by decide +kernel
theorem dX7_topOf_41 : decode cX7_topOf 41 = .ok (.iconst 1, 1) := by decide +kernel
theorem dX7_topOf_42 : decode cX7_topOf 42 = .ok (.isub, 1) := by decide +kernel
theorem dX7_topOf_43 : decode cX7_topOf 43 = .ok (.istore 12, 2) := by decide +kernel
theorem dX7_topOf_45 : decode cX7_topOf 45 = .ok (.iload 12, 2) := by decide +kernel
theorem dX7_topOf_47 : decode cX7_topOf 47 = .ok (.ifCond .lt 90, 3) := by decide +kernel
theorem dX7_topOf_50 : decode cX7_topOf 50 = .ok (.aload_n 0, 1) := by decide +kernel
theorem dX7_topOf_51 : decode cX7_topOf 51 = .ok (.getfield 18, 3) := by decide +kernel
theorem dX7_topOf_54 : decode cX7_topOf 54 = .ok (.iload 12, 2) := by decide +kernel
theorem dX7_topOf_56 : decode cX7_topOf 56 = .ok (.iaload, 1) := by decide +kernel
theorem dX7_topOf_57 : decode cX7_topOf 57 = .ok (.iload_n 1, 1) := by decide +kernel
theorem dX7_topOf_58 : decode cX7_topOf 58 = .ok (.if_icmp .ne 34, 3) := by decide +kernel
theorem dX7_topOf_61 : decode cX7_topOf 61 = .ok (.iload 12, 2) := by decide +kernel
theorem dX7_topOf_63 : decode cX7_topOf 63 = .ok (.iload 4, 2) := by decide +kernel
theorem dX7_topOf_65 : decode cX7_topOf 65 = .ok (.if_icmp .eq 27, 3) := by decide +kernel
theorem dX7_topOf_68 : decode cX7_topOf 68 = .ok (.iload 9, 2) := by decide +kernel
theorem dX7_topOf_70 : decode cX7_topOf 70 = .ok (.iload 12, 2) := by decide +kernel
theorem dX7_topOf_72 : decode cX7_topOf 72 = .ok (.ishr, 1) := by decide +kernel
theorem dX7_topOf_73 : decode cX7_topOf 73 = .ok (.iconst 1, 1) := by decide +kernel
theorem dX7_topOf_74 : decode cX7_topOf 74 = .ok (.iand, 1) := by decide +kernel
theorem dX7_topOf_75 : decode cX7_topOf 75 = .ok (.ifCond .ne 17, 3) := by decide +kernel
theorem dX7_topOf_78 : decode cX7_topOf 78 = .ok (.aload_n 0, 1) := by decide +kernel
theorem dX7_topOf_79 : decode cX7_topOf 79 = .ok (.iload 12, 2) := by decide +kernel
theorem dX7_topOf_81 : decode cX7_topOf 81 = .ok (.iload_n 2, 1) := by decide +kernel
theorem dX7_topOf_82 : decode cX7_topOf 82 = .ok (.invokevirtual 123, 3) := by decide +kernel
theorem dX7_topOf_85 : decode cX7_topOf 85 = .ok (.ifCond .eq 7, 3) := by decide +kernel
theorem dX7_topOf_88 : decode cX7_topOf 88 = .ok (.iconst 1, 1) := by decide +kernel
theorem dX7_topOf_89 : decode cX7_topOf 89 = .ok (.goto 4, 3) := by decide +kernel
theorem dX7_topOf_92 : decode cX7_topOf 92 = .ok (.iconst 0, 1) := by decide +kernel
theorem dX7_topOf_93 : decode cX7_topOf 93 = .ok (.istore 13, 2) := by decide +kernel
theorem dX7_topOf_95 : decode cX7_topOf 95 = .ok (.iload 13, 2) := by decide +kernel
theorem dX7_topOf_97 : decode cX7_topOf 97 = .ok (.ifCond .eq 30, 3) := by decide +kernel
theorem dX7_topOf_100 : decode cX7_topOf 100 = .ok (.iload 11, 2) := by decide +kernel
theorem dX7_topOf_102 : decode cX7_topOf 102 = .ok (.ifCond .lt 20, 3) := by decide +kernel
theorem dX7_topOf_105 : decode cX7_topOf 105 = .ok (.aload_n 0, 1) := by decide +kernel
theorem dX7_topOf_106 : decode cX7_topOf 106 = .ok (.iload 12, 2) := by decide +kernel
theorem dX7_topOf_108 : decode cX7_topOf 108 = .ok (.iload_n 2, 1) := by decide +kernel
theorem dX7_topOf_109 : decode cX7_topOf 109 = .ok (.invokevirtual 120, 3) := by decide +kernel
theorem dX7_topOf_112 : decode cX7_topOf 112 = .ok (.aload_n 0, 1) := by decide +kernel
theorem dX7_topOf_113 : decode cX7_topOf 113 = .ok (.iload 11, 2) := by decide +kernel
theorem dX7_topOf_115 : decode cX7_topOf 115 = .ok (.iload_n 2, 1) := by decide +kernel
theorem dX7_topOf_116 : decode cX7_topOf 116 = .ok (.invokevirtual 120, 3) := by decide +kernel
theorem dX7_topOf_119 : decode cX7_topOf 119 = .ok (.if_icmp .lt 8, 3) := by decide +kernel
theorem dX7_topOf_122 : decode cX7_topOf 122 = .ok (.iload 12, 2) := by decide +kernel
theorem dX7_topOf_124 : decode cX7_topOf 124 = .ok (.goto 5, 3) := by decide +kernel
theorem dX7_topOf_127 : decode cX7_topOf 127 = .ok (.iload 11, 2) := by decide +kernel
theorem dX7_topOf_129 : decode cX7_topOf 129 = .ok (.istore 11, 2) := by decide +kernel
theorem dX7_topOf_131 : decode cX7_topOf 131 = .ok (.iinc 12 (-1), 3) := by decide +kernel
theorem dX7_topOf_134 : decode cX7_topOf 134 = .ok (.goto (-89), 3) := by decide +kernel
theorem dX7_topOf_137 : decode cX7_topOf 137 = .ok (.iload 11, 2) := by decide +kernel
theorem dX7_topOf_139 : decode cX7_topOf 139 = .ok (.ifCond .lt 7, 3) := by decide +kernel
theorem dX7_topOf_142 : decode cX7_topOf 142 = .ok (.iconst 1, 1) := by decide +kernel
theorem dX7_topOf_143 : decode cX7_topOf 143 = .ok (.goto 4, 3) := by decide +kernel
theorem dX7_topOf_146 : decode cX7_topOf 146 = .ok (.iconst 0, 1) := by decide +kernel
theorem dX7_topOf_147 : decode cX7_topOf 147 = .ok (.istore 10, 2) := by decide +kernel
theorem dX7_topOf_149 : decode cX7_topOf 149 = .ok (.iload 10, 2) := by decide +kernel
theorem dX7_topOf_151 : decode cX7_topOf 151 = .ok (.ifCond .eq 18, 3) := by decide +kernel
theorem dX7_topOf_154 : decode cX7_topOf 154 = .ok (.ldc2_w 190, 3) := by decide +kernel
theorem dX7_topOf_157 : decode cX7_topOf 157 = .ok (.aload_n 0, 1) := by decide +kernel
theorem dX7_topOf_158 : decode cX7_topOf 158 = .ok (.iload 11, 2) := by decide +kernel
theorem dX7_topOf_160 : decode cX7_topOf 160 = .ok (.iload_n 2, 1) := by decide +kernel
theorem dX7_topOf_161 : decode cX7_topOf 161 = .ok (.invokevirtual 127, 3) := by decide +kernel
theorem dX7_topOf_164 : decode cX7_topOf 164 = .ok (.i2l, 1) := by decide +kernel
theorem dX7_topOf_165 : decode cX7_topOf 165 = .ok (.lmul, 1) := by decide +kernel
theorem dX7_topOf_166 : decode cX7_topOf 166 = .ok (.goto 4, 3) := by decide +kernel
theorem dX7_topOf_169 : decode cX7_topOf 169 = .ok (.lconst 0, 1) := by decide +kernel
theorem dX7_topOf_170 : decode cX7_topOf 170 = .ok (.lstore 12, 2) := by decide +kernel
theorem dX7_topOf_172 : decode cX7_topOf 172 = .ok (.lload 12, 2) := by decide +kernel
theorem dX7_topOf_174 : decode cX7_topOf 174 = .ok (.lload 5, 2) := by decide +kernel
theorem dX7_topOf_176 : decode cX7_topOf 176 = .ok (.lcmp, 1) := by decide +kernel
theorem dX7_topOf_177 : decode cX7_topOf 177 = .ok (.ifCond .ge 8, 3) := by decide +kernel
theorem dX7_topOf_180 : decode cX7_topOf 180 = .ok (.lload 12, 2) := by decide +kernel
theorem dX7_topOf_182 : decode cX7_topOf 182 = .ok (.goto 5, 3) := by decide +kernel
theorem dX7_topOf_185 : decode cX7_topOf 185 = .ok (.lload 5, 2) := by decide +kernel
theorem dX7_topOf_187 : decode cX7_topOf 187 = .ok (.lstore 12, 2) := by decide +kernel
theorem dX7_topOf_189 : decode cX7_topOf 189 = .ok (.lload 7, 2) := by decide +kernel
theorem dX7_topOf_191 : decode cX7_topOf 191 = .ok (.iload 10, 2) := by decide +kernel
theorem dX7_topOf_193 : decode cX7_topOf 193 = .ok (.ifCond .eq 17, 3) := by decide +kernel
theorem dX7_topOf_196 : decode cX7_topOf 196 = .ok (.lload 12, 2) := by decide +kernel
theorem dX7_topOf_198 : decode cX7_topOf 198 = .ok (.aload_n 0, 1) := by decide +kernel
theorem dX7_topOf_199 : decode cX7_topOf 199 = .ok (.iload 11, 2) := by decide +kernel
theorem dX7_topOf_201 : decode cX7_topOf 201 = .ok (.iload_n 2, 1) := by decide +kernel
theorem dX7_topOf_202 : decode cX7_topOf 202 = .ok (.invokevirtual 120, 3) := by decide +kernel
theorem dX7_topOf_205 : decode cX7_topOf 205 = .ok (.i2l, 1) := by decide +kernel
theorem dX7_topOf_206 : decode cX7_topOf 206 = .ok (.lmul, 1) := by decide +kernel
theorem dX7_topOf_207 : decode cX7_topOf 207 = .ok (.goto 4, 3) := by decide +kernel
theorem dX7_topOf_210 : decode cX7_topOf 210 = .ok (.lconst 0, 1) := by decide +kernel
theorem dX7_topOf_211 : decode cX7_topOf 211 = .ok (.ladd, 1) := by decide +kernel
theorem dX7_topOf_212 : decode cX7_topOf 212 = .ok (.lstore 7, 2) := by decide +kernel
theorem dX7_topOf_214 : decode cX7_topOf 214 = .ok (.lload 5, 2) := by decide +kernel
theorem dX7_topOf_216 : decode cX7_topOf 216 = .ok (.lload 12, 2) := by decide +kernel
theorem dX7_topOf_218 : decode cX7_topOf 218 = .ok (.lsub, 1) := by decide +kernel
theorem dX7_topOf_219 : decode cX7_topOf 219 = .ok (.lstore 5, 2) := by decide +kernel
theorem dX7_topOf_221 : decode cX7_topOf 221 = .ok (.iload 9, 2) := by decide +kernel
theorem dX7_topOf_223 : decode cX7_topOf 223 = .ok (.iload 10, 2) := by decide +kernel
theorem dX7_topOf_225 : decode cX7_topOf 225 = .ok (.ifCond .eq 10, 3) := by decide +kernel
theorem dX7_topOf_228 : decode cX7_topOf 228 = .ok (.iconst 1, 1) := by decide +kernel
theorem dX7_topOf_229 : decode cX7_topOf 229 = .ok (.iload 11, 2) := by decide +kernel
theorem dX7_topOf_231 : decode cX7_topOf 231 = .ok (.ishl, 1) := by decide +kernel
theorem dX7_topOf_232 : decode cX7_topOf 232 = .ok (.goto 4, 3) := by decide +kernel
theorem dX7_topOf_235 : decode cX7_topOf 235 = .ok (.iconst 0, 1) := by decide +kernel
theorem dX7_topOf_236 : decode cX7_topOf 236 = .ok (.ior, 1) := by decide +kernel
theorem dX7_topOf_237 : decode cX7_topOf 237 = .ok (.istore 9, 2) := by decide +kernel
theorem dX7_topOf_239 : decode cX7_topOf 239 = .ok (.goto (-218), 3) := by decide +kernel
theorem dX7_topOf_242 : decode cX7_topOf 242 = .ok (.lload 7, 2) := by decide +kernel
theorem dX7_topOf_244 : decode cX7_topOf 244 = .ok (.lreturn, 1) := by decide +kernel
set_option maxRecDepth 20000 in
theorem ggX7_partsOf_X7_totalOf : GoodIn wsX7_partsOf wsX7_totalOf := goodIn_r _ [7, 8, 9, 10, 11, 12, 6, 13, 14, 15, 16, 17, 18, 19, 20, 21, 22, 23, 24, 25, 26, 27, 28, 29, 30, 31, 32, 33, 34, 35, 41, 42, 43, 44, 45, 46, 47, 48, 49, 50, 51, 52, 53, 54, 55, 56, 57, 58, 59, 60, 61, 62, 63, 64, 65, 66, 67, 68] (by decide +kernel) (by decide +kernel)
set_option maxRecDepth 20000 in
theorem gX7_partsOf_X7_totalOf : GoodIn wsX7_partsOf (wsV RX7 192 RX7 yX7_totalOf wsX7_totalOf) := goodIn_app (goodIn_of _ (by decide +kernel)) ggX7_partsOf_X7_totalOf
set_option maxRecDepth 20000 in
theorem ggX7_partsOf_X7_topOf : GoodIn wsX7_partsOf wsX7_topOf := goodIn_r _ [39, 40, 8, 9, 2, 10, 11, 12, 6, 13, 14, 15, 16, 17, 18, 19, 20, 21, 22, 23, 24, 25, 26, 27, 28, 29, 30, 31, 32, 33, 34, 35, 41, 42, 43, 44, 45, 46, 47, 48, 49, 50, 51, 52, 53, 54, 55, 56, 57, 58, 59, 60, 61, 62, 63, 64, 65, 66, 67, 68] (by decide +kernel) (by decide +kernel)
set_option maxRecDepth 20000 in
theorem gX7_partsOf_X7_topOf : GoodIn wsX7_partsOf (wsV RX7 196 RX7 yX7_topOf wsX7_topOf) := goodIn_app (goodIn_of _ (by decide +kernel)) ggX7_partsOf_X7_topOf
theorem dX7_partsOf_0 : decode cX7_partsOf 0 = .ok (.aload_n 0, 1) := by decide +kernel
theorem dX7_partsOf_1 : decode cX7_partsOf 1 = .ok (.iload_n 1, 1) := by decide +kernel
theorem dX7_partsOf_2 : decode cX7_partsOf 2 = .ok (.iload_n 2, 1) := by decide +kernel
theorem dX7_partsOf_3 : decode cX7_partsOf 3 = .ok (.iload 4, 2) := by decide +kernel
theorem dX7_partsOf_5 : decode cX7_partsOf 5 = .ok (.invokevirtual 192, 3) := by decide +kernel
theorem dX7_partsOf_8 : decode cX7_partsOf 8 = .ok (.lstore 5, 2) := by decide +kernel
theorem dX7_partsOf_10 : decode cX7_partsOf 10 = .ok (.lload 5, 2) := by decide +kernel
theorem dX7_partsOf_12 : decode cX7_partsOf 12 = .ok (.lconst 0, 1) := by decide +kernel
theorem dX7_partsOf_13 : decode cX7_partsOf 13 = .ok (.lcmp, 1) := by decide +kernel
theorem dX7_partsOf_14 : decode cX7_partsOf 14 = .ok (.ifCond .ne 7, 3) := by decide +kernel
theorem dX7_partsOf_17 : decode cX7_partsOf 17 = .ok (.iconst 0, 1) := by decide +kernel
theorem dX7_partsOf_18 : decode cX7_partsOf 18 = .ok (.goto 24, 3) := by decide +kernel
theorem dX7_partsOf_21 : decode cX7_partsOf 21 = .ok (.aload_n 0, 1) := by decide +kernel
theorem dX7_partsOf_22 : decode cX7_partsOf 22 = .ok (.iload_n 1, 1) := by decide +kernel
theorem dX7_partsOf_23 : decode cX7_partsOf 23 = .ok (.iload_n 2, 1) := by decide +kernel
theorem dX7_partsOf_24 : decode cX7_partsOf 24 = .ok (.iload_n 3, 1) := by decide +kernel
theorem dX7_partsOf_25 : decode cX7_partsOf 25 = .ok (.iload 4, 2) := by decide +kernel
theorem dX7_partsOf_27 : decode cX7_partsOf 27 = .ok (.invokevirtual 196, 3) := by decide +kernel
theorem dX7_partsOf_30 : decode cX7_partsOf 30 = .ok (.ldc2_w 200, 3) := by decide +kernel
theorem dX7_partsOf_33 : decode cX7_partsOf 33 = .ok (.lmul, 1) := by decide +kernel
theorem dX7_partsOf_34 : decode cX7_partsOf 34 = .ok (.ldc2_w 190, 3) := by decide +kernel
theorem dX7_partsOf_37 : decode cX7_partsOf 37 = .ok (.lload 5, 2) := by decide +kernel
theorem dX7_partsOf_39 : decode cX7_partsOf 39 = .ok (.lmul, 1) := by decide +kernel
theorem dX7_partsOf_40 : decode cX7_partsOf 40 = .ok (.ldiv, 1) := by decide +kernel
theorem dX7_partsOf_41 : decode cX7_partsOf 41 = .ok (.l2i, 1) := by decide +kernel
theorem dX7_partsOf_42 : decode cX7_partsOf 42 = .ok (.ireturn, 1) := by decide +kernel
set_option maxRecDepth 20000 in
theorem ggX7_unseen_X7_isBooked : GoodIn wsX7_unseen wsX7_isBooked := goodIn_r _ [10, 11, 12, 13, 14, 9, 15, 16, 17, 18, 19, 20, 21, 22, 23, 2, 30, 31, 32, 33, 34, 35, 36, 37, 38, 39, 40, 41, 42, 43, 44, 45, 46, 47, 48, 49, 50, 51, 52, 53, 54, 55, 56, 57] (by decide +kernel) (by decide +kernel)
set_option maxRecDepth 20000 in
theorem gX7_unseen_X7_isBooked : GoodIn wsX7_unseen (wsV RX7 123 RX7 yX7_isBooked wsX7_isBooked) := goodIn_app (goodIn_of _ (by decide +kernel)) ggX7_unseen_X7_isBooked
set_option maxRecDepth 20000 in
theorem ggX7_unseen_X7_weight : GoodIn wsX7_unseen wsX7_weight := goodIn_r _ [27, 28, 29, 3, 4, 12, 13, 14, 9, 15, 16, 17, 18, 19, 20, 21, 22, 23, 2, 30, 31, 32, 33, 34, 35, 36, 37, 38, 39, 40, 41, 42, 43, 44, 45, 46, 47, 48, 49, 50, 51, 52, 53, 54, 55, 56, 57] (by decide +kernel) (by decide +kernel)
set_option maxRecDepth 20000 in
theorem gX7_unseen_X7_weight : GoodIn wsX7_unseen (wsV RX7 127 RX7 yX7_weight wsX7_weight) := goodIn_app (goodIn_of _ (by decide +kernel)) ggX7_unseen_X7_weight
set_option maxRecDepth 20000 in
theorem ggX7_unseen_X7_sworn : GoodIn wsX7_unseen wsX7_sworn := goodIn_r _ [15, 16, 17, 18, 19, 20, 9, 21, 22, 23, 2, 30, 31, 32, 33, 34, 35, 36, 37, 38, 39, 40, 41, 42, 43, 44, 45, 46, 47, 48, 49, 50, 51, 52, 53, 54, 55, 56, 57] (by decide +kernel) (by decide +kernel)
set_option maxRecDepth 20000 in
theorem gX7_unseen_X7_sworn : GoodIn wsX7_unseen (wsV RX7 120 RX7 yX7_sworn wsX7_sworn) := goodIn_app (goodIn_of _ (by decide +kernel)) ggX7_unseen_X7_sworn
theorem dX7_unseen_0 : decode cX7_unseen 0 = .ok (.lconst 0, 1) := by decide +kernel
theorem dX7_unseen_1 : decode cX7_unseen 1 = .ok (.lstore_n 2, 1) := by decide +kernel
theorem dX7_unseen_2 : decode cX7_unseen 2 = .ok (.iconst 0, 1) := by decide +kernel
theorem dX7_unseen_3 : decode cX7_unseen 3 = .ok (.istore 4, 2) := by decide +kernel
theorem dX7_unseen_5 : decode cX7_unseen 5 = .ok (.iload 4, 2) := by decide +kernel
theorem dX7_unseen_7 : decode cX7_unseen 7 = .ok (.aload_n 0, 1) := by decide +kernel
theorem dX7_unseen_8 : decode cX7_unseen 8 = .ok (.getfield 87, 3) := by decide +kernel
theorem dX7_unseen_11 : decode cX7_unseen 11 = .ok (.if_icmp .ge 115, 3) := by decide +kernel
theorem dX7_unseen_14 : decode cX7_unseen 14 = .ok (.lconst 0, 1) := by decide +kernel
theorem dX7_unseen_15 : decode cX7_unseen 15 = .ok (.lstore 5, 2) := by decide +kernel
theorem dX7_unseen_17 : decode cX7_unseen 17 = .ok (.iconst 0, 1) := by decide +kernel
theorem dX7_unseen_18 : decode cX7_unseen 18 = .ok (.istore 7, 2) := by decide +kernel
theorem dX7_unseen_20 : decode cX7_unseen 20 = .ok (.iload 7, 2) := by decide +kernel
theorem dX7_unseen_22 : decode cX7_unseen 22 = .ok (.iconst 4, 1) := by decide +kernel
theorem dX7_unseen_23 : decode cX7_unseen 23 = .ok (.if_icmp .ge 27, 3) := by decide +kernel
theorem dX7_unseen_26 : decode cX7_unseen 26 = .ok (.lload 5, 2) := by decide +kernel
theorem dX7_unseen_28 : decode cX7_unseen 28 = .ok (.aload_n 0, 1) := by decide +kernel
theorem dX7_unseen_29 : decode cX7_unseen 29 = .ok (.getfield 27, 3) := by decide +kernel
theorem dX7_unseen_32 : decode cX7_unseen 32 = .ok (.iconst 4, 1) := by decide +kernel
theorem dX7_unseen_33 : decode cX7_unseen 33 = .ok (.iload 4, 2) := by decide +kernel
