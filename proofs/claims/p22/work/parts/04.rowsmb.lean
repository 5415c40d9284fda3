theorem dX10_sells_98 : decode cX10_sells 98 = .ok (.iload_n 3, 1) := by decide +kernel
theorem dX10_sells_99 : decode cX10_sells 99 = .ok (.iload 4, 2) := by decide +kernel
theorem dX10_sells_101 : decode cX10_sells 101 = .ok (.invokevirtual 177, 3) := by decide +kernel
theorem dX10_sells_104 : decode cX10_sells 104 = .ok (.ifCond .eq 34, 3) := by decide +kernel
theorem dX10_sells_107 : decode cX10_sells 107 = .ok (.aload_n 0, 1) := by decide +kernel
theorem dX10_sells_108 : decode cX10_sells 108 = .ok (.iload_n 2, 1) := by decide +kernel
theorem dX10_sells_109 : decode cX10_sells 109 = .ok (.iload 8, 2) := by decide +kernel
theorem dX10_sells_111 : decode cX10_sells 111 = .ok (.iload_n 3, 1) := by decide +kernel
theorem dX10_sells_112 : decode cX10_sells 112 = .ok (.iload 4, 2) := by decide +kernel
theorem dX10_sells_114 : decode cX10_sells 114 = .ok (.invokevirtual 181, 3) := by decide +kernel
theorem dX10_sells_117 : decode cX10_sells 117 = .ok (.iload 7, 2) := by decide +kernel
theorem dX10_sells_119 : decode cX10_sells 119 = .ok (.if_icmp .ge 19, 3) := by decide +kernel
theorem dX10_sells_122 : decode cX10_sells 122 = .ok (.iload 8, 2) := by decide +kernel
theorem dX10_sells_124 : decode cX10_sells 124 = .ok (.istore 6, 2) := by decide +kernel
theorem dX10_sells_126 : decode cX10_sells 126 = .ok (.aload_n 0, 1) := by decide +kernel
theorem dX10_sells_127 : decode cX10_sells 127 = .ok (.iload_n 2, 1) := by decide +kernel
theorem dX10_sells_128 : decode cX10_sells 128 = .ok (.iload 8, 2) := by decide +kernel
theorem dX10_sells_130 : decode cX10_sells 130 = .ok (.iload_n 3, 1) := by decide +kernel
theorem dX10_sells_131 : decode cX10_sells 131 = .ok (.iload 4, 2) := by decide +kernel
theorem dX10_sells_133 : decode cX10_sells 133 = .ok (.invokevirtual 181, 3) := by decide +kernel
theorem dX10_sells_136 : decode cX10_sells 136 = .ok (.istore 7, 2) := by decide +kernel
theorem dX10_sells_138 : decode cX10_sells 138 = .ok (.iinc 8 1, 3) := by decide +kernel
theorem dX10_sells_141 : decode cX10_sells 141 = .ok (.goto (-79), 3) := by decide +kernel
theorem dX10_sells_144 : decode cX10_sells 144 = .ok (.iload 6, 2) := by decide +kernel
theorem dX10_sells_146 : decode cX10_sells 146 = .ok (.iconst (-1), 1) := by decide +kernel
theorem dX10_sells_147 : decode cX10_sells 147 = .ok (.if_icmp .ne 5, 3) := by decide +kernel
theorem dX10_sells_150 : decode cX10_sells 150 = .ok (.iconst (-1), 1) := by decide +kernel
theorem dX10_sells_151 : decode cX10_sells 151 = .ok (.ireturn, 1) := by decide +kernel
theorem dX10_sells_152 : decode cX10_sells 152 = .ok (.aload_n 0, 1) := by decide +kernel
theorem dX10_sells_153 : decode cX10_sells 153 = .ok (.getfield 38, 3) := by decide +kernel
theorem dX10_sells_156 : decode cX10_sells 156 = .ok (.iconst 0, 1) := by decide +kernel
theorem dX10_sells_157 : decode cX10_sells 157 = .ok (.iaload, 1) := by decide +kernel
theorem dX10_sells_158 : decode cX10_sells 158 = .ok (.istore 8, 2) := by decide +kernel
theorem dX10_sells_160 : decode cX10_sells 160 = .ok (.aload_n 0, 1) := by decide +kernel
theorem dX10_sells_161 : decode cX10_sells 161 = .ok (.getfield 38, 3) := by decide +kernel
theorem dX10_sells_164 : decode cX10_sells 164 = .ok (.iconst 0, 1) := by decide +kernel
theorem dX10_sells_165 : decode cX10_sells 165 = .ok (.dup2, 1) := by decide +kernel
theorem dX10_sells_166 : decode cX10_sells 166 = .ok (.iaload, 1) := by decide +kernel
theorem dX10_sells_167 : decode cX10_sells 167 = .ok (.iconst 1, 1) := by decide +kernel
theorem dX10_sells_168 : decode cX10_sells 168 = .ok (.iadd, 1) := by decide +kernel
theorem dX10_sells_169 : decode cX10_sells 169 = .ok (.iastore, 1) := by decide +kernel
theorem dX10_sells_170 : decode cX10_sells 170 = .ok (.aload_n 0, 1) := by decide +kernel
theorem dX10_sells_171 : decode cX10_sells 171 = .ok (.getfield 41, 3) := by decide +kernel
theorem dX10_sells_174 : decode cX10_sells 174 = .ok (.iload 8, 2) := by decide +kernel
theorem dX10_sells_176 : decode cX10_sells 176 = .ok (.iload_n 2, 1) := by decide +kernel
theorem dX10_sells_177 : decode cX10_sells 177 = .ok (.iastore, 1) := by decide +kernel
theorem dX10_sells_178 : decode cX10_sells 178 = .ok (.aload_n 0, 1) := by decide +kernel
theorem dX10_sells_179 : decode cX10_sells 179 = .ok (.getfield 44, 3) := by decide +kernel
theorem dX10_sells_182 : decode cX10_sells 182 = .ok (.iload 8, 2) := by decide +kernel
theorem dX10_sells_184 : decode cX10_sells 184 = .ok (.iload 6, 2) := by decide +kernel
theorem dX10_sells_186 : decode cX10_sells 186 = .ok (.iastore, 1) := by decide +kernel
theorem dX10_sells_187 : decode cX10_sells 187 = .ok (.aload_n 0, 1) := by decide +kernel
theorem dX10_sells_188 : decode cX10_sells 188 = .ok (.getfield 47, 3) := by decide +kernel
theorem dX10_sells_191 : decode cX10_sells 191 = .ok (.iload 8, 2) := by decide +kernel
theorem dX10_sells_193 : decode cX10_sells 193 = .ok (.iload_n 3, 1) := by decide +kernel
theorem dX10_sells_194 : decode cX10_sells 194 = .ok (.iastore, 1) := by decide +kernel
theorem dX10_sells_195 : decode cX10_sells 195 = .ok (.aload_n 0, 1) := by decide +kernel
theorem dX10_sells_196 : decode cX10_sells 196 = .ok (.getfield 50, 3) := by decide +kernel
theorem dX10_sells_199 : decode cX10_sells 199 = .ok (.iload 8, 2) := by decide +kernel
theorem dX10_sells_201 : decode cX10_sells 201 = .ok (.iload 4, 2) := by decide +kernel
theorem dX10_sells_203 : decode cX10_sells 203 = .ok (.iastore, 1) := by decide +kernel
theorem dX10_sells_204 : decode cX10_sells 204 = .ok (.aload_n 0, 1) := by decide +kernel
theorem dX10_sells_205 : decode cX10_sells 205 = .ok (.getfield 53, 3) := by decide +kernel
theorem dX10_sells_208 : decode cX10_sells 208 = .ok (.iload 8, 2) := by decide +kernel
theorem dX10_sells_210 : decode cX10_sells 210 = .ok (.iload_n 1, 1) := by decide +kernel
theorem dX10_sells_211 : decode cX10_sells 211 = .ok (.iastore, 1) := by decide +kernel
theorem dX10_sells_212 : decode cX10_sells 212 = .ok (.aload_n 0, 1) := by decide +kernel
theorem dX10_sells_213 : decode cX10_sells 213 = .ok (.getfield 56, 3) := by decide +kernel
theorem dX10_sells_216 : decode cX10_sells 216 = .ok (.iload 8, 2) := by decide +kernel
theorem dX10_sells_218 : decode cX10_sells 218 = .ok (.iconst 0, 1) := by decide +kernel
theorem dX10_sells_219 : decode cX10_sells 219 = .ok (.iastore, 1) := by decide +kernel
theorem dX10_sells_220 : decode cX10_sells 220 = .ok (.iload_n 3, 1) := by decide +kernel
theorem dX10_sells_221 : decode cX10_sells 221 = .ok (.istore 9, 2) := by decide +kernel
theorem dX10_sells_223 : decode cX10_sells 223 = .ok (.iload 9, 2) := by decide +kernel
theorem dX10_sells_225 : decode cX10_sells 225 = .ok (.iload 4, 2) := by decide +kernel
theorem dX10_sells_227 : decode cX10_sells 227 = .ok (.if_icmp .ge 25, 3) := by decide +kernel
theorem dX10_sells_230 : decode cX10_sells 230 = .ok (.aload_n 0, 1) := by decide +kernel
theorem dX10_sells_231 : decode cX10_sells 231 = .ok (.getfield 35, 3) := by decide +kernel
theorem dX10_sells_234 : decode cX10_sells 234 = .ok (.aload_n 0, 1) := by decide +kernel
theorem dX10_sells_235 : decode cX10_sells 235 = .ok (.iload_n 2, 1) := by decide +kernel
theorem dX10_sells_236 : decode cX10_sells 236 = .ok (.iload 6, 2) := by decide +kernel
theorem dX10_sells_238 : decode cX10_sells 238 = .ok (.iload 9, 2) := by decide +kernel
theorem dX10_sells_240 : decode cX10_sells 240 = .ok (.invokevirtual 162, 3) := by decide +kernel
theorem dX10_sells_243 : decode cX10_sells 243 = .ok (.iload 8, 2) := by decide +kernel
theorem dX10_sells_245 : decode cX10_sells 245 = .ok (.iastore, 1) := by decide +kernel
theorem dX10_sells_246 : decode cX10_sells 246 = .ok (.iinc 9 1, 3) := by decide +kernel
theorem dX10_sells_249 : decode cX10_sells 249 = .ok (.goto (-26), 3) := by decide +kernel
theorem dX10_sells_252 : decode cX10_sells 252 = .ok (.iload 8, 2) := by decide +kernel
theorem dX10_sells_254 : decode cX10_sells 254 = .ok (.ireturn, 1) := by decide +kernel
set_option maxRecDepth 20000 in
theorem ggX10_sell_X10_canAsk : GoodIn wsX10_sell wsX10_canAsk := goodIn_sub (gw_c (gw_X10_sell_X10_sell_r1 _ (gw_g 5 rfl)) (gw_a (gw_c (gw_X10_sell_X10_sell_r1 _ (gw_g 6 rfl)) (gw_c (gw_X10_sell_X10_sell_r1 _ (gw_g 7 rfl)) (gw_c (gw_X10_sell_X10_sell_r1 _ (gw_g 8 rfl)) (gw_c (gw_X10_sell_X10_sell_r1 _ (gw_g 9 rfl)) (gw_c (gw_X10_sell_X10_sell_r1 _ (gw_g 4 rfl)) (gw_c (gw_X10_sell_X10_sell_r1 _ (gw_g 10 rfl)) (gw_c (gw_X10_sell_X10_sell_r1 _ (gw_g 11 rfl)) (gw_c (gw_X10_sell_X10_sell_r1 _ (gw_g 12 rfl)) (gw_c (gw_X10_sell_X10_sell_r1 _ (gw_g 13 rfl)) (gw_c (gw_X10_sell_X10_sell_r1 _ (gw_g 14 rfl)) (gw_c (gw_X10_sell_X10_sell_r1 _ (gw_g 15 rfl)) (gw_c (gw_X10_sell_X10_sell_r1 _ (gw_g 16 rfl)) (gw_c (gw_X10_sell_X10_sell_r1 _ (gw_g 17 rfl)) (gw_c (gw_X10_sell_X10_sell_r1 _ (gw_g 18 rfl)) (gw_c (gw_X10_sell_X10_sell_r1 _ (gw_g 19 rfl)) (gw_c (gw_X10_sell_X10_sell_r1 _ (gw_g 20 rfl)) (gw_c (gw_X10_sell_X10_sell_r1 _ (gw_g 21 rfl)) (gw_c (gw_X10_sell_X10_sell_r1 _ (gw_g 22 rfl)) (gw_c (gw_X10_sell_X10_sell_r1 _ (gw_g 23 rfl)) gw_n))))))))))))))))))) gw_X10_sell_X100)) (by decide +kernel)
set_option maxRecDepth 20000 in
theorem gX10_sell_X10_canAsk : GoodIn wsX10_sell (wsV RX10 185 RX10 yX10_canAsk wsX10_canAsk) := goodIn_app (goodIn_sub (gw_c (gw_X10_sell_X10_sell_r1 _ (gw_g 1 rfl)) (gw_c (gw_X10_sell_X10_sell_r1 _ (gw_g 2 rfl)) (gw_c (gw_X10_sell_X10_sell_r1 _ (gw_g 3 rfl)) (gw_c (gw_X10_sell_X10_sell_r1 _ (gw_g 4 rfl)) gw_n)))) (by decide +kernel)) ggX10_sell_X10_canAsk
set_option maxRecDepth 20000 in
theorem ggX10_sell_X10_sells : GoodIn wsX10_sell wsX10_sells := goodIn_sub (gw_c (gw_X10_sell_X10_sell_r2 _ (gw_g 3 rfl)) (gw_a (gw_a (gw_c (gw_X10_sell_X10_sell_r1 _ (gw_g 6 rfl)) (gw_c (gw_X10_sell_X10_sell_r2 _ (gw_g 4 rfl)) (gw_c (gw_X10_sell_X10_sell_r1 _ (gw_g 18 rfl)) (gw_c (gw_X10_sell_X10_sell_r2 _ (gw_g 5 rfl)) (gw_c (gw_X10_sell_X10_sell_r2 _ (gw_g 6 rfl)) (gw_c (gw_X10_sell_X10_sell_r2 _ (gw_g 7 rfl)) (gw_c (gw_X10_sell_X10_sell_r2 _ (gw_g 8 rfl)) (gw_c (gw_X10_sell_X10_sell_r2 _ (gw_g 9 rfl)) (gw_c (gw_X10_sell_X10_sell_r2 _ (gw_g 10 rfl)) (gw_c (gw_X10_sell_X10_sell_r2 _ (gw_g 11 rfl)) (gw_c (gw_X10_sell_X10_sell_r2 _ (gw_g 12 rfl)) (gw_c (gw_X10_sell_X10_sell_r2 _ (gw_g 13 rfl)) (gw_c (gw_X10_sell_X10_sell_r2 _ (gw_g 14 rfl)) (gw_c (gw_X10_sell_X10_sell_r2 _ (gw_g 15 rfl)) (gw_c (gw_X10_sell_X10_sell_r1 _ (gw_g 4 rfl)) (gw_c (gw_X10_sell_X10_sell_r2 _ (gw_g 16 rfl)) (gw_c (gw_X10_sell_X10_sell_r2 _ (gw_g 17 rfl)) (gw_c (gw_X10_sell_X10_sell_r2 _ (gw_g 18 rfl)) (gw_c (gw_X10_sell_X10_sell_r2 _ (gw_g 19 rfl)) (gw_c (gw_X10_sell_X10_sell_r2 _ (gw_g 20 rfl)) (gw_c (gw_X10_sell_X10_sell_r2 _ (gw_g 21 rfl)) (gw_c (gw_X10_sell_X10_sell_r2 _ (gw_g 22 rfl)) (gw_c (gw_X10_sell_X10_sell_r2 _ (gw_g 23 rfl)) (gw_c (gw_X10_sell_X10_sell_r3 _ (gw_g 0 rfl)) gw_n)))))))))))))))))))))))) (gw_c (gw_X10_sell_X10_sell_r3 _ (gw_g 1 rfl)) (gw_c (gw_X10_sell_X10_sell_r3 _ (gw_g 2 rfl)) (gw_c (gw_X10_sell_X10_sell_r3 _ (gw_g 3 rfl)) (gw_c (gw_X10_sell_X10_sell_r3 _ (gw_g 4 rfl)) (gw_c (gw_X10_sell_X10_sell_r3 _ (gw_g 5 rfl)) (gw_c (gw_X10_sell_X10_sell_r3 _ (gw_g 6 rfl)) (gw_c (gw_X10_sell_X10_sell_r3 _ (gw_g 7 rfl)) (gw_c (gw_X10_sell_X10_sell_r3 _ (gw_g 8 rfl)) (gw_c (gw_X10_sell_X10_sell_r3 _ (gw_g 9 rfl)) (gw_c (gw_X10_sell_X10_sell_r1 _ (gw_g 23 rfl)) gw_n))))))))))) gw_X10_sell_X100)) (by decide +kernel)
set_option maxRecDepth 20000 in
theorem gX10_sell_X10_sells : GoodIn wsX10_sell (wsV RX10 188 RX10 yX10_sells wsX10_sells) := goodIn_app (goodIn_sub (gw_c (gw_X10_sell_X10_sell_r2 _ (gw_g 0 rfl)) (gw_c (gw_X10_sell_X10_sell_r2 _ (gw_g 1 rfl)) (gw_c (gw_X10_sell_X10_sell_r2 _ (gw_g 2 rfl)) (gw_c (gw_X10_sell_X10_sell_r1 _ (gw_g 4 rfl)) gw_n)))) (by decide +kernel)) ggX10_sell_X10_sells
theorem dX10_sell_0 : decode cX10_sell 0 = .ok (.aload_n 0, 1) := by decide +kernel
theorem dX10_sell_1 : decode cX10_sell 1 = .ok (.iconst 0, 1) := by decide +kernel
theorem dX10_sell_2 : decode cX10_sell 2 = .ok (.putfield 139, 3) := by decide +kernel
theorem dX10_sell_5 : decode cX10_sell 5 = .ok (.aload_n 0, 1) := by decide +kernel
theorem dX10_sell_6 : decode cX10_sell 6 = .ok (.iload_n 1, 1) := by decide +kernel
theorem dX10_sell_7 : decode cX10_sell 7 = .ok (.iload_n 2, 1) := by decide +kernel
theorem dX10_sell_8 : decode cX10_sell 8 = .ok (.iload_n 3, 1) := by decide +kernel
theorem dX10_sell_9 : decode cX10_sell 9 = .ok (.iload 4, 2) := by decide +kernel
theorem dX10_sell_11 : decode cX10_sell 11 = .ok (.invokevirtual 185, 3) := by decide +kernel
theorem dX10_sell_14 : decode cX10_sell 14 = .ok (.ifCond .eq 15, 3) := by decide +kernel
theorem dX10_sell_17 : decode cX10_sell 17 = .ok (.aload_n 0, 1) := by decide +kernel
theorem dX10_sell_18 : decode cX10_sell 18 = .ok (.iload_n 1, 1) := by decide +kernel
theorem dX10_sell_19 : decode cX10_sell 19 = .ok (.iload_n 2, 1) := by decide +kernel
theorem dX10_sell_20 : decode cX10_sell 20 = .ok (.iload_n 3, 1) := by decide +kernel
theorem dX10_sell_21 : decode cX10_sell 21 = .ok (.iload 4, 2) := by decide +kernel
theorem dX10_sell_23 : decode cX10_sell 23 = .ok (.invokevirtual 188, 3) := by decide +kernel
theorem dX10_sell_26 : decode cX10_sell 26 = .ok (.goto 4, 3) := by decide +kernel
theorem dX10_sell_29 : decode cX10_sell 29 = .ok (.iconst (-1), 1) := by decide +kernel
theorem dX10_sell_30 : decode cX10_sell 30 = .ok (.ireturn, 1) := by decide +kernel
set_option maxRecDepth 20000 in
theorem ggX10_back_X10_in : GoodIn wsX10_back wsX10_in := goodIn_sub (gw_c (gw_X10_back_X10_back_r1 _ (gw_g 12 rfl)) gw_n) (by decide +kernel)
set_option maxRecDepth 20000 in
theorem gX10_back_X10_in : GoodIn wsX10_back (va_wsS RX10 146 yX10_in wsX10_in) := goodIn_app (goodIn_sub (gw_c (gw_X10_back_X10_back_r1 _ (gw_g 9 rfl)) (gw_c (gw_X10_back_X10_back_r1 _ (gw_g 10 rfl)) (gw_c (gw_X10_back_X10_back_r1 _ (gw_g 11 rfl)) gw_n))) (by decide +kernel)) ggX10_back_X10_in
set_option maxRecDepth 20000 in
theorem ggX10_back_X10_leaves : GoodIn wsX10_back wsX10_leaves := goodIn_sub (gw_c (gw_X10_back_X10_back_r1 _ (gw_g 16 rfl)) (gw_a (gw_c (gw_X10_back_X10_back_r1 _ (gw_g 17 rfl)) (gw_c (gw_X10_back_X10_back_r1 _ (gw_g 18 rfl)) (gw_c (gw_X10_back_X10_back_r1 _ (gw_g 19 rfl)) (gw_c (gw_X10_back_X10_back_r1 _ (gw_g 11 rfl)) (gw_c (gw_X10_back_X10_back_r1 _ (gw_g 20 rfl)) (gw_c (gw_X10_back_X10_back_r1 _ (gw_g 21 rfl)) gw_n)))))) gw_X10_back_X100)) (by decide +kernel)
set_option maxRecDepth 20000 in
theorem gX10_back_X10_leaves : GoodIn wsX10_back (wsV RX10 173 RX10 yX10_leaves wsX10_leaves) := goodIn_app (goodIn_sub (gw_c (gw_X10_back_X10_back_r1 _ (gw_g 13 rfl)) (gw_c (gw_X10_back_X10_back_r1 _ (gw_g 14 rfl)) (gw_c (gw_X10_back_X10_back_r1 _ (gw_g 15 rfl)) (gw_c (gw_X10_back_X10_back_r1 _ (gw_g 11 rfl)) gw_n)))) (by decide +kernel)) ggX10_back_X10_leaves
set_option maxRecDepth 20000 in
theorem ggX10_back_X10_at : GoodIn wsX10_back wsX10_at := goodIn_sub (gw_c (gw_X10_back_X10_back_r2 _ (gw_g 1 rfl)) gw_n) (by decide +kernel)
set_option maxRecDepth 20000 in
theorem gX10_back_X10_at : GoodIn wsX10_back (wsV RX10 162 RX10 yX10_at wsX10_at) := goodIn_app (goodIn_sub (gw_c (gw_X10_back_X10_back_r1 _ (gw_g 22 rfl)) (gw_c (gw_X10_back_X10_back_r1 _ (gw_g 23 rfl)) (gw_c (gw_X10_back_X10_back_r2 _ (gw_g 0 rfl)) (gw_c (gw_X10_back_X10_back_r1 _ (gw_g 11 rfl)) gw_n)))) (by decide +kernel)) ggX10_back_X10_at
theorem dX10_back_0 : decode cX10_back 0 = .ok (.aload_n 0, 1) := by decide +kernel
theorem dX10_back_1 : decode cX10_back 1 = .ok (.iconst 0, 1) := by decide +kernel
theorem dX10_back_2 : decode cX10_back 2 = .ok (.putfield 139, 3) := by decide +kernel
theorem dX10_back_5 : decode cX10_back 5 = .ok (.iload_n 1, 1) := by decide +kernel
theorem dX10_back_6 : decode cX10_back 6 = .ok (.iconst 0, 1) := by decide +kernel
theorem dX10_back_7 : decode cX10_back 7 = .ok (.aload_n 0, 1) := by decide +kernel
theorem dX10_back_8 : decode cX10_back 8 = .ok (.getfield 38, 3) := by decide +kernel
theorem dX10_back_11 : decode cX10_back 11 = .ok (.iconst 0, 1) := by decide +kernel
theorem dX10_back_12 : decode cX10_back 12 = .ok (.iaload, 1) := by decide +kernel
theorem dX10_back_13 : decode cX10_back 13 = .ok (.iconst 1, 1) := by decide +kernel
theorem dX10_back_14 : decode cX10_back 14 = .ok (.isub, 1) := by decide +kernel
theorem dX10_back_15 : decode cX10_back 15 = .ok (.invokestatic 146, 3) := by decide +kernel
theorem dX10_back_18 : decode cX10_back 18 = .ok (.ifCond .eq 38, 3) := by decide +kernel
theorem dX10_back_21 : decode cX10_back 21 = .ok (.aload_n 0, 1) := by decide +kernel
theorem dX10_back_22 : decode cX10_back 22 = .ok (.getfield 56, 3) := by decide +kernel
theorem dX10_back_25 : decode cX10_back 25 = .ok (.iload_n 1, 1) := by decide +kernel
theorem dX10_back_26 : decode cX10_back 26 = .ok (.iaload, 1) := by decide +kernel
theorem dX10_back_27 : decode cX10_back 27 = .ok (.iconst 1, 1) := by decide +kernel
theorem dX10_back_28 : decode cX10_back 28 = .ok (.if_icmp .eq 28, 3) := by decide +kernel
theorem dX10_back_31 : decode cX10_back 31 = .ok (.aload_n 0, 1) := by decide +kernel
theorem dX10_back_32 : decode cX10_back 32 = .ok (.getfield 83, 3) := by decide +kernel
theorem dX10_back_35 : decode cX10_back 35 = .ok (.iconst 0, 1) := by decide +kernel
theorem dX10_back_36 : decode cX10_back 36 = .ok (.iaload, 1) := by decide +kernel
theorem dX10_back_37 : decode cX10_back 37 = .ok (.aload_n 0, 1) := by decide +kernel
theorem dX10_back_38 : decode cX10_back 38 = .ok (.aload_n 0, 1) := by decide +kernel
theorem dX10_back_39 : decode cX10_back 39 = .ok (.getfield 41, 3) := by decide +kernel
theorem dX10_back_42 : decode cX10_back 42 = .ok (.iload_n 1, 1) := by decide +kernel
theorem dX10_back_43 : decode cX10_back 43 = .ok (.iaload, 1) := by decide +kernel
theorem dX10_back_44 : decode cX10_back 44 = .ok (.aload_n 0, 1) := by decide +kernel
theorem dX10_back_45 : decode cX10_back 45 = .ok (.getfield 47, 3) := by decide +kernel
theorem dX10_back_48 : decode cX10_back 48 = .ok (.iload_n 1, 1) := by decide +kernel
theorem dX10_back_49 : decode cX10_back 49 = .ok (.iaload, 1) := by decide +kernel
theorem dX10_back_50 : decode cX10_back 50 = .ok (.invokevirtual 173, 3) := by decide +kernel
theorem dX10_back_53 : decode cX10_back 53 = .ok (.if_icmp .lt 5, 3) := by decide +kernel
theorem dX10_back_56 : decode cX10_back 56 = .ok (.iconst 0, 1) := by decide +kernel
theorem dX10_back_57 : decode cX10_back 57 = .ok (.ireturn, 1) := by decide +kernel
theorem dX10_back_58 : decode cX10_back 58 = .ok (.aload_n 0, 1) := by decide +kernel
theorem dX10_back_59 : decode cX10_back 59 = .ok (.getfield 56, 3) := by decide +kernel
theorem dX10_back_62 : decode cX10_back 62 = .ok (.iload_n 1, 1) := by decide +kernel
theorem dX10_back_63 : decode cX10_back 63 = .ok (.iconst 1, 1) := by decide +kernel
theorem dX10_back_64 : decode cX10_back 64 = .ok (.iastore, 1) := by decide +kernel
theorem dX10_back_65 : decode cX10_back 65 = .ok (.aload_n 0, 1) := by decide +kernel
theorem dX10_back_66 : decode cX10_back 66 = .ok (.getfield 47, 3) := by decide +kernel
theorem dX10_back_69 : decode cX10_back 69 = .ok (.iload_n 1, 1) := by decide +kernel
theorem dX10_back_70 : decode cX10_back 70 = .ok (.iaload, 1) := by decide +kernel
theorem dX10_back_71 : decode cX10_back 71 = .ok (.istore_n 2, 1) := by decide +kernel
theorem dX10_back_72 : decode cX10_back 72 = .ok (.iload_n 2, 1) := by decide +kernel
theorem dX10_back_73 : decode cX10_back 73 = .ok (.aload_n 0, 1) := by decide +kernel
theorem dX10_back_74 : decode cX10_back 74 = .ok (.getfield 50, 3) := by decide +kernel
theorem dX10_back_77 : decode cX10_back 77 = .ok (.iload_n 1, 1) := by decide +kernel
theorem dX10_back_78 : decode cX10_back 78 = .ok (.iaload, 1) := by decide +kernel
theorem dX10_back_79 : decode cX10_back 79 = .ok (.if_icmp .ge 32, 3) := by decide +kernel
theorem dX10_back_82 : decode cX10_back 82 = .ok (.aload_n 0, 1) := by decide +kernel
theorem dX10_back_83 : decode cX10_back 83 = .ok (.getfield 35, 3) := by decide +kernel
theorem dX10_back_86 : decode cX10_back 86 = .ok (.aload_n 0, 1) := by decide +kernel
theorem dX10_back_87 : decode cX10_back 87 = .ok (.aload_n 0, 1) := by decide +kernel
theorem dX10_back_88 : decode cX10_back 88 = .ok (.getfield 41, 3) := by decide +kernel
theorem dX10_back_91 : decode cX10_back 91 = .ok (.iload_n 1, 1) := by decide +kernel
theorem dX10_back_92 : decode cX10_back 92 = .ok (.iaload, 1) := by decide +kernel
theorem dX10_back_93 : decode cX10_back 93 = .ok (.aload_n 0, 1) := by decide +kernel
theorem dX10_back_94 : decode cX10_back 94 = .ok (.getfield 44, 3) := by decide +kernel
theorem dX10_back_97 : decode cX10_back 97 = .ok (.iload_n 1, 1) := by decide +kernel
theorem dX10_back_98 : decode cX10_back 98 = .ok (.iaload, 1) := by decide +kernel
theorem dX10_back_99 : decode cX10_back 99 = .ok (.iload_n 2, 1) := by decide +kernel
theorem dX10_back_100 : decode cX10_back 100 = .ok (.invokevirtual 162, 3) := by decide +kernel
theorem dX10_back_103 : decode cX10_back 103 = .ok (.iconst (-1), 1) := by decide +kernel
theorem dX10_back_104 : decode cX10_back 104 = .ok (.iastore, 1) := by decide +kernel
theorem dX10_back_105 : decode cX10_back 105 = .ok (.iinc 2 1, 3) := by decide +kernel
theorem dX10_back_108 : decode cX10_back 108 = .ok (.goto (-36), 3) := by decide +kernel
theorem dX10_back_111 : decode cX10_back 111 = .ok (.iconst 1, 1) := by decide +kernel
theorem dX10_back_112 : decode cX10_back 112 = .ok (.ireturn, 1) := by decide +kernel
set_option maxRecDepth 20000 in
theorem ggX10_between_X10_upTo : GoodIn wsX10_between wsX10_upTo := goodIn_sub (gw_c (gw_t (gw_l (gw_g 5 rfl))) (gw_a (gw_c (gw_t (gw_l (gw_g 6 rfl))) gw_n) gw_X10_between_X100)) (by decide +kernel)
set_option maxRecDepth 20000 in
theorem gX10_between_X10_upTo : GoodIn wsX10_between (wsV RX10 150 RX10 yX10_upTo wsX10_upTo) := goodIn_app (goodIn_sub (gw_c (gw_t (gw_l (gw_g 1 rfl))) (gw_c (gw_t (gw_l (gw_g 2 rfl))) (gw_c (gw_t (gw_l (gw_g 3 rfl))) (gw_c (gw_t (gw_l (gw_g 4 rfl))) gw_n)))) (by decide +kernel)) ggX10_between_X10_upTo
theorem dX10_between_0 : decode cX10_between 0 = .ok (.aload_n 0, 1) := by decide +kernel
theorem dX10_between_1 : decode cX10_between 1 = .ok (.aload_n 0, 1) := by decide +kernel
theorem dX10_between_2 : decode cX10_between 2 = .ok (.getfield 23, 3) := by decide +kernel
theorem dX10_between_5 : decode cX10_between 5 = .ok (.iload_n 1, 1) := by decide +kernel
theorem dX10_between_6 : decode cX10_between 6 = .ok (.iaload, 1) := by decide +kernel
theorem dX10_between_7 : decode cX10_between 7 = .ok (.invokevirtual 150, 3) := by decide +kernel
theorem dX10_between_10 : decode cX10_between 10 = .ok (.aload_n 0, 1) := by decide +kernel
theorem dX10_between_11 : decode cX10_between 11 = .ok (.aload_n 0, 1) := by decide +kernel
theorem dX10_between_12 : decode cX10_between 12 = .ok (.getfield 23, 3) := by decide +kernel
theorem dX10_between_15 : decode cX10_between 15 = .ok (.iload_n 2, 1) := by decide +kernel
theorem dX10_between_16 : decode cX10_between 16 = .ok (.iaload, 1) := by decide +kernel
theorem dX10_between_17 : decode cX10_between 17 = .ok (.invokevirtual 150, 3) := by decide +kernel
theorem dX10_between_20 : decode cX10_between 20 = .ok (.isub, 1) := by decide +kernel
theorem dX10_between_21 : decode cX10_between 21 = .ok (.istore_n 3, 1) := by decide +kernel
theorem dX10_between_22 : decode cX10_between 22 = .ok (.iload_n 3, 1) := by decide +kernel
theorem dX10_between_23 : decode cX10_between 23 = .ok (.ifCond .ge 8, 3) := by decide +kernel
theorem dX10_between_26 : decode cX10_between 26 = .ok (.iload_n 3, 1) := by decide +kernel
theorem dX10_between_27 : decode cX10_between 27 = .ok (.ineg, 1) := by decide +kernel
theorem dX10_between_28 : decode cX10_between 28 = .ok (.goto 4, 3) := by decide +kernel
theorem dX10_between_31 : decode cX10_between 31 = .ok (.iload_n 3, 1) := by decide +kernel
theorem dX10_between_32 : decode cX10_between 32 = .ok (.ireturn, 1) := by decide +kernel
set_option maxRecDepth 20000 in
theorem ggX10_letter_X10_isOffice : GoodIn wsX10_letter wsX10_isOffice := goodIn_sub (gw_c (gw_X10_letter_X10_letter_r1 _ (gw_g 14 rfl)) (gw_c (gw_X10_letter_X10_letter_r1 _ (gw_g 15 rfl)) (gw_c (gw_X10_letter_X10_letter_r1 _ (gw_g 16 rfl)) (gw_c (gw_X10_letter_X10_letter_r1 _ (gw_g 13 rfl)) (gw_c (gw_X10_letter_X10_letter_r1 _ (gw_g 17 rfl)) gw_n))))) (by decide +kernel)
set_option maxRecDepth 20000 in
theorem gX10_letter_X10_isOffice : GoodIn wsX10_letter (wsV RX10 158 RX10 yX10_isOffice wsX10_isOffice) := goodIn_app (goodIn_sub (gw_c (gw_X10_letter_X10_letter_r1 _ (gw_g 10 rfl)) (gw_c (gw_X10_letter_X10_letter_r1 _ (gw_g 11 rfl)) (gw_c (gw_X10_letter_X10_letter_r1 _ (gw_g 12 rfl)) (gw_c (gw_X10_letter_X10_letter_r1 _ (gw_g 13 rfl)) gw_n)))) (by decide +kernel)) ggX10_letter_X10_isOffice
set_option maxRecDepth 20000 in
theorem ggX10_letter_X10_canAsk : GoodIn wsX10_letter wsX10_canAsk := goodIn_sub (gw_c (gw_X10_letter_X10_letter_r1 _ (gw_g 21 rfl)) (gw_a (gw_c (gw_X10_letter_X10_letter_r1 _ (gw_g 22 rfl)) (gw_c (gw_X10_letter_X10_letter_r1 _ (gw_g 10 rfl)) (gw_c (gw_X10_letter_X10_letter_r1 _ (gw_g 11 rfl)) (gw_c (gw_X10_letter_X10_letter_r1 _ (gw_g 12 rfl)) (gw_c (gw_X10_letter_X10_letter_r1 _ (gw_g 13 rfl)) (gw_c (gw_X10_letter_X10_letter_r1 _ (gw_g 14 rfl)) (gw_c (gw_X10_letter_X10_letter_r1 _ (gw_g 15 rfl)) (gw_c (gw_X10_letter_X10_letter_r1 _ (gw_g 16 rfl)) (gw_c (gw_X10_letter_X10_letter_r1 _ (gw_g 17 rfl)) (gw_c (gw_X10_letter_X10_letter_r1 _ (gw_g 23 rfl)) (gw_c (gw_X10_letter_X10_letter_r2 _ (gw_g 0 rfl)) (gw_c (gw_X10_letter_X10_letter_r2 _ (gw_g 1 rfl)) (gw_c (gw_X10_letter_X10_letter_r2 _ (gw_g 2 rfl)) (gw_c (gw_X10_letter_X10_letter_r2 _ (gw_g 3 rfl)) (gw_c (gw_X10_letter_X10_letter_r2 _ (gw_g 4 rfl)) (gw_c (gw_X10_letter_X10_letter_r2 _ (gw_g 5 rfl)) (gw_c (gw_X10_letter_X10_letter_r2 _ (gw_g 6 rfl)) (gw_c (gw_X10_letter_X10_letter_r2 _ (gw_g 7 rfl)) (gw_c (gw_X10_letter_X10_letter_r2 _ (gw_g 8 rfl)) gw_n))))))))))))))))))) gw_X10_letter_X100)) (by decide +kernel)
set_option maxRecDepth 20000 in
theorem gX10_letter_X10_canAsk : GoodIn wsX10_letter (wsV RX10 185 RX10 yX10_canAsk wsX10_canAsk) := goodIn_app (goodIn_sub (gw_c (gw_X10_letter_X10_letter_r1 _ (gw_g 18 rfl)) (gw_c (gw_X10_letter_X10_letter_r1 _ (gw_g 19 rfl)) (gw_c (gw_X10_letter_X10_letter_r1 _ (gw_g 20 rfl)) (gw_c (gw_X10_letter_X10_letter_r1 _ (gw_g 13 rfl)) gw_n)))) (by decide +kernel)) ggX10_letter_X10_canAsk
set_option maxRecDepth 20000 in
theorem ggX10_letter_X10_between : GoodIn wsX10_letter wsX10_between := goodIn_sub (gw_c (gw_X10_letter_X10_letter_r2 _ (gw_g 12 rfl)) (gw_a (gw_c (gw_X10_letter_X10_letter_r2 _ (gw_g 13 rfl)) (gw_c (gw_X10_letter_X10_letter_r2 _ (gw_g 14 rfl)) (gw_c (gw_X10_letter_X10_letter_r2 _ (gw_g 15 rfl)) (gw_c (gw_X10_letter_X10_letter_r2 _ (gw_g 16 rfl)) (gw_c (gw_X10_letter_X10_letter_r1 _ (gw_g 13 rfl)) (gw_c (gw_X10_letter_X10_letter_r2 _ (gw_g 17 rfl)) (gw_c (gw_X10_letter_X10_letter_r2 _ (gw_g 18 rfl)) gw_n))))))) gw_X10_letter_X100)) (by decide +kernel)
set_option maxRecDepth 20000 in
theorem gX10_letter_X10_between : GoodIn wsX10_letter (wsV RX10 191 RX10 yX10_between wsX10_between) := goodIn_app (goodIn_sub (gw_c (gw_X10_letter_X10_letter_r2 _ (gw_g 9 rfl)) (gw_c (gw_X10_letter_X10_letter_r2 _ (gw_g 10 rfl)) (gw_c (gw_X10_letter_X10_letter_r2 _ (gw_g 11 rfl)) (gw_c (gw_X10_letter_X10_letter_r1 _ (gw_g 13 rfl)) gw_n)))) (by decide +kernel)) ggX10_letter_X10_between
theorem dX10_letter_0 : decode cX10_letter 0 = .ok (.aload_n 0, 1) := by decide +kernel
theorem dX10_letter_1 : decode cX10_letter 1 = .ok (.iconst 0, 1) := by decide +kernel
theorem dX10_letter_2 : decode cX10_letter 2 = .ok (.putfield 139, 3) := by decide +kernel
theorem dX10_letter_5 : decode cX10_letter 5 = .ok (.aload_n 0, 1) := by decide +kernel
theorem dX10_letter_6 : decode cX10_letter 6 = .ok (.iload_n 1, 1) := by decide +kernel
theorem dX10_letter_7 : decode cX10_letter 7 = .ok (.invokevirtual 158, 3) := by decide +kernel
theorem dX10_letter_10 : decode cX10_letter 10 = .ok (.ifCond .eq 32, 3) := by decide +kernel
theorem dX10_letter_13 : decode cX10_letter 13 = .ok (.iload_n 1, 1) := by decide +kernel
theorem dX10_letter_14 : decode cX10_letter 14 = .ok (.iload_n 2, 1) := by decide +kernel
theorem dX10_letter_15 : decode cX10_letter 15 = .ok (.if_icmp .eq 27, 3) := by decide +kernel
theorem dX10_letter_18 : decode cX10_letter 18 = .ok (.aload_n 0, 1) := by decide +kernel
theorem dX10_letter_19 : decode cX10_letter 19 = .ok (.iload_n 2, 1) := by decide +kernel
theorem dX10_letter_20 : decode cX10_letter 20 = .ok (.iload_n 3, 1) := by decide +kernel
theorem dX10_letter_21 : decode cX10_letter 21 = .ok (.iload 4, 2) := by decide +kernel
theorem dX10_letter_23 : decode cX10_letter 23 = .ok (.iload 5, 2) := by decide +kernel
theorem dX10_letter_25 : decode cX10_letter 25 = .ok (.invokevirtual 185, 3) := by decide +kernel
theorem dX10_letter_28 : decode cX10_letter 28 = .ok (.ifCond .eq 14, 3) := by decide +kernel
theorem dX10_letter_31 : decode cX10_letter 31 = .ok (.aload_n 0, 1) := by decide +kernel
theorem dX10_letter_32 : decode cX10_letter 32 = .ok (.getfield 59, 3) := by decide +kernel
theorem dX10_letter_35 : decode cX10_letter 35 = .ok (.iconst 0, 1) := by decide +kernel
theorem dX10_letter_36 : decode cX10_letter 36 = .ok (.iaload, 1) := by decide +kernel
theorem dX10_letter_37 : decode cX10_letter 37 = .ok (.bipush 100, 2) := by decide +kernel
theorem dX10_letter_39 : decode cX10_letter 39 = .ok (.if_icmp .ne 5, 3) := by decide +kernel
theorem dX10_letter_42 : decode cX10_letter 42 = .ok (.iconst (-1), 1) := by decide +kernel
theorem dX10_letter_43 : decode cX10_letter 43 = .ok (.ireturn, 1) := by decide +kernel
theorem dX10_letter_44 : decode cX10_letter 44 = .ok (.aload_n 0, 1) := by decide +kernel
theorem dX10_letter_45 : decode cX10_letter 45 = .ok (.getfield 59, 3) := by decide +kernel
theorem dX10_letter_48 : decode cX10_letter 48 = .ok (.iconst 0, 1) := by decide +kernel
theorem dX10_letter_49 : decode cX10_letter 49 = .ok (.iaload, 1) := by decide +kernel
theorem dX10_letter_50 : decode cX10_letter 50 = .ok (.istore 6, 2) := by decide +kernel
theorem dX10_letter_52 : decode cX10_letter 52 = .ok (.aload_n 0, 1) := by decide +kernel
theorem dX10_letter_53 : decode cX10_letter 53 = .ok (.getfield 59, 3) := by decide +kernel
theorem dX10_letter_56 : decode cX10_letter 56 = .ok (.iconst 0, 1) := by decide +kernel
theorem dX10_letter_57 : decode cX10_letter 57 = .ok (.dup2, 1) := by decide +kernel
theorem dX10_letter_58 : decode cX10_letter 58 = .ok (.iaload, 1) := by decide +kernel
theorem dX10_letter_59 : decode cX10_letter 59 = .ok (.iconst 1, 1) := by decide +kernel
theorem dX10_letter_60 : decode cX10_letter 60 = .ok (.iadd, 1) := by decide +kernel
theorem dX10_letter_61 : decode cX10_letter 61 = .ok (.iastore, 1) := by decide +kernel
theorem dX10_letter_62 : decode cX10_letter 62 = .ok (.aload_n 0, 1) := by decide +kernel
theorem dX10_letter_63 : decode cX10_letter 63 = .ok (.getfield 62, 3) := by decide +kernel
theorem dX10_letter_66 : decode cX10_letter 66 = .ok (.iload 6, 2) := by decide +kernel
theorem dX10_letter_68 : decode cX10_letter 68 = .ok (.aload_n 0, 1) := by decide +kernel
theorem dX10_letter_69 : decode cX10_letter 69 = .ok (.getfield 83, 3) := by decide +kernel
theorem dX10_letter_72 : decode cX10_letter 72 = .ok (.iconst 0, 1) := by decide +kernel
theorem dX10_letter_73 : decode cX10_letter 73 = .ok (.iaload, 1) := by decide +kernel
theorem dX10_letter_74 : decode cX10_letter 74 = .ok (.iconst 1, 1) := by decide +kernel
theorem dX10_letter_75 : decode cX10_letter 75 = .ok (.iadd, 1) := by decide +kernel
theorem dX10_letter_76 : decode cX10_letter 76 = .ok (.aload_n 0, 1) := by decide +kernel
theorem dX10_letter_77 : decode cX10_letter 77 = .ok (.iload_n 1, 1) := by decide +kernel
theorem dX10_letter_78 : decode cX10_letter 78 = .ok (.iload_n 2, 1) := by decide +kernel
theorem dX10_letter_79 : decode cX10_letter 79 = .ok (.invokevirtual 191, 3) := by decide +kernel
theorem dX10_letter_82 : decode cX10_letter 82 = .ok (.iadd, 1) := by decide +kernel
theorem dX10_letter_83 : decode cX10_letter 83 = .ok (.iastore, 1) := by decide +kernel
theorem dX10_letter_84 : decode cX10_letter 84 = .ok (.aload_n 0, 1) := by decide +kernel
theorem dX10_letter_85 : decode cX10_letter 85 = .ok (.getfield 65, 3) := by decide +kernel
theorem dX10_letter_88 : decode cX10_letter 88 = .ok (.iload 6, 2) := by decide +kernel
theorem dX10_letter_90 : decode cX10_letter 90 = .ok (.aload_n 0, 1) := by decide +kernel
theorem dX10_letter_91 : decode cX10_letter 91 = .ok (.getfield 62, 3) := by decide +kernel
theorem dX10_letter_94 : decode cX10_letter 94 = .ok (.iload 6, 2) := by decide +kernel
theorem dX10_letter_96 : decode cX10_letter 96 = .ok (.iaload, 1) := by decide +kernel
theorem dX10_letter_97 : decode cX10_letter 97 = .ok (.iconst 1, 1) := by decide +kernel
theorem dX10_letter_98 : decode cX10_letter 98 = .ok (.iadd, 1) := by decide +kernel
theorem dX10_letter_99 : decode cX10_letter 99 = .ok (.aload_n 0, 1) := by decide +kernel
theorem dX10_letter_100 : decode cX10_letter 100 = .ok (.iload_n 1, 1) := by decide +kernel
theorem dX10_letter_101 : decode cX10_letter 101 = .ok (.iload_n 2, 1) := by decide +kernel
theorem dX10_letter_102 : decode cX10_letter 102 = .ok (.invokevirtual 191, 3) := by decide +kernel
theorem dX10_letter_105 : decode cX10_letter 105 = .ok (.iadd, 1) := by decide +kernel
theorem dX10_letter_106 : decode cX10_letter 106 = .ok (.iastore, 1) := by decide +kernel
theorem dX10_letter_107 : decode cX10_letter 107 = .ok (.aload_n 0, 1) := by decide +kernel
theorem dX10_letter_108 : decode cX10_letter 108 = .ok (.getfield 68, 3) := by decide +kernel
theorem dX10_letter_111 : decode cX10_letter 111 = .ok (.iload 6, 2) := by decide +kernel
theorem dX10_letter_113 : decode cX10_letter 113 = .ok (.iload_n 2, 1) := by decide +kernel
theorem dX10_letter_114 : decode cX10_letter 114 = .ok (.iastore, 1) := by decide +kernel
theorem dX10_letter_115 : decode cX10_letter 115 = .ok (.aload_n 0, 1) := by decide +kernel
theorem dX10_letter_116 : decode cX10_letter 116 = .ok (.getfield 71, 3) := by decide +kernel
theorem dX10_letter_119 : decode cX10_letter 119 = .ok (.iload 6, 2) := by decide +kernel
theorem dX10_letter_121 : decode cX10_letter 121 = .ok (.iload_n 3, 1) := by decide +kernel
theorem dX10_letter_122 : decode cX10_letter 122 = .ok (.iastore, 1) := by decide +kernel
theorem dX10_letter_123 : decode cX10_letter 123 = .ok (.aload_n 0, 1) := by decide +kernel
theorem dX10_letter_124 : decode cX10_letter 124 = .ok (.getfield 74, 3) := by decide +kernel
theorem dX10_letter_127 : decode cX10_letter 127 = .ok (.iload 6, 2) := by decide +kernel
theorem dX10_letter_129 : decode cX10_letter 129 = .ok (.iload 4, 2) := by decide +kernel
theorem dX10_letter_131 : decode cX10_letter 131 = .ok (.iastore, 1) := by decide +kernel
theorem dX10_letter_132 : decode cX10_letter 132 = .ok (.aload_n 0, 1) := by decide +kernel
theorem dX10_letter_133 : decode cX10_letter 133 = .ok (.getfield 77, 3) := by decide +kernel
theorem dX10_letter_136 : decode cX10_letter 136 = .ok (.iload 6, 2) := by decide +kernel
theorem dX10_letter_138 : decode cX10_letter 138 = .ok (.iload 5, 2) := by decide +kernel
theorem dX10_letter_140 : decode cX10_letter 140 = .ok (.iastore, 1) := by decide +kernel
theorem dX10_letter_141 : decode cX10_letter 141 = .ok (.aload_n 0, 1) := by decide +kernel
theorem dX10_letter_142 : decode cX10_letter 142 = .ok (.getfield 80, 3) := by decide +kernel
theorem dX10_letter_145 : decode cX10_letter 145 = .ok (.iload 6, 2) := by decide +kernel
theorem dX10_letter_147 : decode cX10_letter 147 = .ok (.iconst (-1), 1) := by decide +kernel
theorem dX10_letter_148 : decode cX10_letter 148 = .ok (.iastore, 1) := by decide +kernel
theorem dX10_letter_149 : decode cX10_letter 149 = .ok (.iload 6, 2) := by decide +kernel
theorem dX10_letter_151 : decode cX10_letter 151 = .ok (.ireturn, 1) := by decide +kernel
set_option maxRecDepth 20000 in
theorem ggX10_post_X10_in : GoodIn wsX10_post wsX10_in := goodIn_sub (gw_c (gw_t (gw_l (gw_g 9 rfl))) gw_n) (by decide +kernel)
set_option maxRecDepth 20000 in
theorem gX10_post_X10_in : GoodIn wsX10_post (va_wsS RX10 146 yX10_in wsX10_in) := goodIn_app (goodIn_sub (gw_c (gw_t (gw_l (gw_g 6 rfl))) (gw_c (gw_t (gw_l (gw_g 7 rfl))) (gw_c (gw_t (gw_l (gw_g 8 rfl))) gw_n))) (by decide +kernel)) ggX10_post_X10_in
theorem dX10_post_0 : decode cX10_post 0 = .ok (.aload_n 0, 1) := by decide +kernel
theorem dX10_post_1 : decode cX10_post 1 = .ok (.iconst 0, 1) := by decide +kernel
theorem dX10_post_2 : decode cX10_post 2 = .ok (.putfield 139, 3) := by decide +kernel
theorem dX10_post_5 : decode cX10_post 5 = .ok (.iload_n 1, 1) := by decide +kernel
theorem dX10_post_6 : decode cX10_post 6 = .ok (.iconst 0, 1) := by decide +kernel
theorem dX10_post_7 : decode cX10_post 7 = .ok (.aload_n 0, 1) := by decide +kernel
theorem dX10_post_8 : decode cX10_post 8 = .ok (.getfield 59, 3) := by decide +kernel
theorem dX10_post_11 : decode cX10_post 11 = .ok (.iconst 0, 1) := by decide +kernel
theorem dX10_post_12 : decode cX10_post 12 = .ok (.iaload, 1) := by decide +kernel
theorem dX10_post_13 : decode cX10_post 13 = .ok (.iconst 1, 1) := by decide +kernel
theorem dX10_post_14 : decode cX10_post 14 = .ok (.isub, 1) := by decide +kernel
theorem dX10_post_15 : decode cX10_post 15 = .ok (.invokestatic 146, 3) := by decide +kernel
theorem dX10_post_18 : decode cX10_post 18 = .ok (.ifCond .ne 5, 3) := by decide +kernel
theorem dX10_post_21 : decode cX10_post 21 = .ok (.iconst (-1), 1) := by decide +kernel
theorem dX10_post_22 : decode cX10_post 22 = .ok (.ireturn, 1) := by decide +kernel
theorem dX10_post_23 : decode cX10_post 23 = .ok (.iload_n 2, 1) := by decide +kernel
theorem dX10_post_24 : decode cX10_post 24 = .ok (.tableswitch 113 0 3 #[32, 39, 46, 86], 32) := by decide +kernel
theorem dX10_post_56 : decode cX10_post 56 = .ok (.aload_n 0, 1) := by decide +kernel
theorem dX10_post_57 : decode cX10_post 57 = .ok (.getfield 62, 3) := by decide +kernel
theorem dX10_post_60 : decode cX10_post 60 = .ok (.iload_n 1, 1) := by decide +kernel
theorem dX10_post_61 : decode cX10_post 61 = .ok (.iaload, 1) := by decide +kernel
theorem dX10_post_62 : decode cX10_post 62 = .ok (.ireturn, 1) := by decide +kernel
theorem dX10_post_63 : decode cX10_post 63 = .ok (.aload_n 0, 1) := by decide +kernel
theorem dX10_post_64 : decode cX10_post 64 = .ok (.getfield 65, 3) := by decide +kernel
theorem dX10_post_67 : decode cX10_post 67 = .ok (.iload_n 1, 1) := by decide +kernel
theorem dX10_post_68 : decode cX10_post 68 = .ok (.iaload, 1) := by decide +kernel
theorem dX10_post_69 : decode cX10_post 69 = .ok (.ireturn, 1) := by decide +kernel
theorem dX10_post_70 : decode cX10_post 70 = .ok (.aload_n 0, 1) := by decide +kernel
theorem dX10_post_71 : decode cX10_post 71 = .ok (.getfield 83, 3) := by decide +kernel
theorem dX10_post_74 : decode cX10_post 74 = .ok (.iconst 0, 1) := by decide +kernel
theorem dX10_post_75 : decode cX10_post 75 = .ok (.iaload, 1) := by decide +kernel
theorem dX10_post_76 : decode cX10_post 76 = .ok (.aload_n 0, 1) := by decide +kernel
theorem dX10_post_77 : decode cX10_post 77 = .ok (.getfield 65, 3) := by decide +kernel
theorem dX10_post_80 : decode cX10_post 80 = .ok (.iload_n 1, 1) := by decide +kernel
theorem dX10_post_81 : decode cX10_post 81 = .ok (.iaload, 1) := by decide +kernel
theorem dX10_post_82 : decode cX10_post 82 = .ok (.if_icmp .lt 7, 3) := by decide +kernel
theorem dX10_post_85 : decode cX10_post 85 = .ok (.iconst 2, 1) := by decide +kernel
theorem dX10_post_86 : decode cX10_post 86 = .ok (.goto 23, 3) := by decide +kernel
theorem dX10_post_89 : decode cX10_post 89 = .ok (.aload_n 0, 1) := by decide +kernel
theorem dX10_post_90 : decode cX10_post 90 = .ok (.getfield 83, 3) := by decide +kernel
theorem dX10_post_93 : decode cX10_post 93 = .ok (.iconst 0, 1) := by decide +kernel
theorem dX10_post_94 : decode cX10_post 94 = .ok (.iaload, 1) := by decide +kernel
theorem dX10_post_95 : decode cX10_post 95 = .ok (.aload_n 0, 1) := by decide +kernel
theorem dX10_post_96 : decode cX10_post 96 = .ok (.getfield 62, 3) := by decide +kernel
theorem dX10_post_99 : decode cX10_post 99 = .ok (.iload_n 1, 1) := by decide +kernel
theorem dX10_post_100 : decode cX10_post 100 = .ok (.iaload, 1) := by decide +kernel
theorem dX10_post_101 : decode cX10_post 101 = .ok (.if_icmp .lt 7, 3) := by decide +kernel
theorem dX10_post_104 : decode cX10_post 104 = .ok (.iconst 1, 1) := by decide +kernel
theorem dX10_post_105 : decode cX10_post 105 = .ok (.goto 4, 3) := by decide +kernel
theorem dX10_post_108 : decode cX10_post 108 = .ok (.iconst 0, 1) := by decide +kernel
theorem dX10_post_109 : decode cX10_post 109 = .ok (.ireturn, 1) := by decide +kernel
theorem dX10_post_110 : decode cX10_post 110 = .ok (.aload_n 0, 1) := by decide +kernel
theorem dX10_post_111 : decode cX10_post 111 = .ok (.getfield 83, 3) := by decide +kernel
theorem dX10_post_114 : decode cX10_post 114 = .ok (.iconst 0, 1) := by decide +kernel
theorem dX10_post_115 : decode cX10_post 115 = .ok (.iaload, 1) := by decide +kernel
theorem dX10_post_116 : decode cX10_post 116 = .ok (.aload_n 0, 1) := by decide +kernel
theorem dX10_post_117 : decode cX10_post 117 = .ok (.getfield 65, 3) := by decide +kernel
theorem dX10_post_120 : decode cX10_post 120 = .ok (.iload_n 1, 1) := by decide +kernel
theorem dX10_post_121 : decode cX10_post 121 = .ok (.iaload, 1) := by decide +kernel
theorem dX10_post_122 : decode cX10_post 122 = .ok (.if_icmp .lt 12, 3) := by decide +kernel
theorem dX10_post_125 : decode cX10_post 125 = .ok (.aload_n 0, 1) := by decide +kernel
theorem dX10_post_126 : decode cX10_post 126 = .ok (.getfield 80, 3) := by decide +kernel
theorem dX10_post_129 : decode cX10_post 129 = .ok (.iload_n 1, 1) := by decide +kernel
theorem dX10_post_130 : decode cX10_post 130 = .ok (.iaload, 1) := by decide +kernel
theorem dX10_post_131 : decode cX10_post 131 = .ok (.goto 5, 3) := by decide +kernel
theorem dX10_post_134 : decode cX10_post 134 = .ok (.bipush (-2), 2) := by decide +kernel
theorem dX10_post_136 : decode cX10_post 136 = .ok (.ireturn, 1) := by decide +kernel
theorem dX10_post_137 : decode cX10_post 137 = .ok (.iconst (-1), 1) := by decide +kernel
theorem dX10_post_138 : decode cX10_post 138 = .ok (.ireturn, 1) := by decide +kernel
set_option maxRecDepth 20000 in
theorem ggX10_hours_X10_in : GoodIn wsX10_hours wsX10_in := goodIn_sub (gw_c (gw_X10_hours_X10_hours_r1 _ (gw_g 12 rfl)) gw_n) (by decide +kernel)
set_option maxRecDepth 20000 in
theorem gX10_hours_X10_in : GoodIn wsX10_hours (va_wsS RX10 146 yX10_in wsX10_in) := goodIn_app (goodIn_sub (gw_c (gw_X10_hours_X10_hours_r1 _ (gw_g 9 rfl)) (gw_c (gw_X10_hours_X10_hours_r1 _ (gw_g 10 rfl)) (gw_c (gw_X10_hours_X10_hours_r1 _ (gw_g 11 rfl)) gw_n))) (by decide +kernel)) ggX10_hours_X10_in
set_option maxRecDepth 20000 in
theorem ggX10_hours_X10_sells : GoodIn wsX10_hours wsX10_sells := goodIn_sub (gw_c (gw_X10_hours_X10_hours_r1 _ (gw_g 16 rfl)) (gw_a (gw_a (gw_c (gw_X10_hours_X10_hours_r1 _ (gw_g 17 rfl)) (gw_c (gw_X10_hours_X10_hours_r1 _ (gw_g 1 rfl)) (gw_c (gw_X10_hours_X10_hours_r1 _ (gw_g 18 rfl)) (gw_c (gw_X10_hours_X10_hours_r1 _ (gw_g 19 rfl)) (gw_c (gw_X10_hours_X10_hours_r1 _ (gw_g 20 rfl)) (gw_c (gw_X10_hours_X10_hours_r1 _ (gw_g 21 rfl)) (gw_c (gw_X10_hours_X10_hours_r1 _ (gw_g 22 rfl)) (gw_c (gw_X10_hours_X10_hours_r1 _ (gw_g 23 rfl)) (gw_c (gw_X10_hours_X10_hours_r2 _ (gw_g 0 rfl)) (gw_c (gw_X10_hours_X10_hours_r2 _ (gw_g 1 rfl)) (gw_c (gw_X10_hours_X10_hours_r2 _ (gw_g 2 rfl)) (gw_c (gw_X10_hours_X10_hours_r2 _ (gw_g 3 rfl)) (gw_c (gw_X10_hours_X10_hours_r2 _ (gw_g 4 rfl)) (gw_c (gw_X10_hours_X10_hours_r2 _ (gw_g 5 rfl)) (gw_c (gw_X10_hours_X10_hours_r1 _ (gw_g 11 rfl)) (gw_c (gw_X10_hours_X10_hours_r2 _ (gw_g 6 rfl)) (gw_c (gw_X10_hours_X10_hours_r2 _ (gw_g 7 rfl)) (gw_c (gw_X10_hours_X10_hours_r2 _ (gw_g 8 rfl)) (gw_c (gw_X10_hours_X10_hours_r2 _ (gw_g 9 rfl)) (gw_c (gw_X10_hours_X10_hours_r2 _ (gw_g 10 rfl)) (gw_c (gw_X10_hours_X10_hours_r2 _ (gw_g 11 rfl)) (gw_c (gw_X10_hours_X10_hours_r2 _ (gw_g 12 rfl)) (gw_c (gw_X10_hours_X10_hours_r2 _ (gw_g 13 rfl)) (gw_c (gw_X10_hours_X10_hours_r2 _ (gw_g 14 rfl)) gw_n)))))))))))))))))))))))) (gw_c (gw_X10_hours_X10_hours_r2 _ (gw_g 15 rfl)) (gw_c (gw_X10_hours_X10_hours_r2 _ (gw_g 16 rfl)) (gw_c (gw_X10_hours_X10_hours_r2 _ (gw_g 17 rfl)) (gw_c (gw_X10_hours_X10_hours_r2 _ (gw_g 18 rfl)) (gw_c (gw_X10_hours_X10_hours_r2 _ (gw_g 19 rfl)) (gw_c (gw_X10_hours_X10_hours_r2 _ (gw_g 20 rfl)) (gw_c (gw_X10_hours_X10_hours_r2 _ (gw_g 21 rfl)) (gw_c (gw_X10_hours_X10_hours_r2 _ (gw_g 22 rfl)) (gw_c (gw_X10_hours_X10_hours_r2 _ (gw_g 23 rfl)) (gw_c (gw_X10_hours_X10_hours_r3 _ (gw_g 0 rfl)) gw_n))))))))))) gw_X10_hours_X100)) (by decide +kernel)
set_option maxRecDepth 20000 in
theorem gX10_hours_X10_sells : GoodIn wsX10_hours (wsV RX10 188 RX10 yX10_sells wsX10_sells) := goodIn_app (goodIn_sub (gw_c (gw_X10_hours_X10_hours_r1 _ (gw_g 13 rfl)) (gw_c (gw_X10_hours_X10_hours_r1 _ (gw_g 14 rfl)) (gw_c (gw_X10_hours_X10_hours_r1 _ (gw_g 15 rfl)) (gw_c (gw_X10_hours_X10_hours_r1 _ (gw_g 11 rfl)) gw_n)))) (by decide +kernel)) ggX10_hours_X10_sells
theorem dX10_hours_0 : decode cX10_hours 0 = .ok (.aload_n 0, 1) := by decide +kernel
theorem dX10_hours_1 : decode cX10_hours 1 = .ok (.iconst 0, 1) := by decide +kernel
theorem dX10_hours_2 : decode cX10_hours 2 = .ok (.putfield 139, 3) := by decide +kernel
theorem dX10_hours_5 : decode cX10_hours 5 = .ok (.iload_n 1, 1) := by decide +kernel
theorem dX10_hours_6 : decode cX10_hours 6 = .ok (.iconst 1, 1) := by decide +kernel
theorem dX10_hours_7 : decode cX10_hours 7 = .ok (.bipush 100, 2) := by decide +kernel
theorem dX10_hours_9 : decode cX10_hours 9 = .ok (.invokestatic 146, 3) := by decide +kernel
theorem dX10_hours_12 : decode cX10_hours 12 = .ok (.ifCond .eq 17, 3) := by decide +kernel
theorem dX10_hours_15 : decode cX10_hours 15 = .ok (.aload_n 0, 1) := by decide +kernel
theorem dX10_hours_16 : decode cX10_hours 16 = .ok (.getfield 83, 3) := by decide +kernel
theorem dX10_hours_19 : decode cX10_hours 19 = .ok (.iconst 0, 1) := by decide +kernel
theorem dX10_hours_20 : decode cX10_hours 20 = .ok (.iaload, 1) := by decide +kernel
theorem dX10_hours_21 : decode cX10_hours 21 = .ok (.iload_n 1, 1) := by decide +kernel
theorem dX10_hours_22 : decode cX10_hours 22 = .ok (.iadd, 1) := by decide +kernel
theorem dX10_hours_23 : decode cX10_hours 23 = .ok (.sipush 2000, 3) := by decide +kernel
theorem dX10_hours_26 : decode cX10_hours 26 = .ok (.if_icmp .le 5, 3) := by decide +kernel
theorem dX10_hours_29 : decode cX10_hours 29 = .ok (.iconst (-1), 1) := by decide +kernel
theorem dX10_hours_30 : decode cX10_hours 30 = .ok (.ireturn, 1) := by decide +kernel
theorem dX10_hours_31 : decode cX10_hours 31 = .ok (.iconst 0, 1) := by decide +kernel
theorem dX10_hours_32 : decode cX10_hours 32 = .ok (.istore_n 2, 1) := by decide +kernel
theorem dX10_hours_33 : decode cX10_hours 33 = .ok (.iload_n 2, 1) := by decide +kernel
theorem dX10_hours_34 : decode cX10_hours 34 = .ok (.iload_n 1, 1) := by decide +kernel
theorem dX10_hours_35 : decode cX10_hours 35 = .ok (.if_icmp .ge 86, 3) := by decide +kernel
theorem dX10_hours_38 : decode cX10_hours 38 = .ok (.aload_n 0, 1) := by decide +kernel
theorem dX10_hours_39 : decode cX10_hours 39 = .ok (.getfield 83, 3) := by decide +kernel
theorem dX10_hours_42 : decode cX10_hours 42 = .ok (.iconst 0, 1) := by decide +kernel
theorem dX10_hours_43 : decode cX10_hours 43 = .ok (.dup2, 1) := by decide +kernel
theorem dX10_hours_44 : decode cX10_hours 44 = .ok (.iaload, 1) := by decide +kernel
theorem dX10_hours_45 : decode cX10_hours 45 = .ok (.iconst 1, 1) := by decide +kernel
theorem dX10_hours_46 : decode cX10_hours 46 = .ok (.iadd, 1) := by decide +kernel
theorem dX10_hours_47 : decode cX10_hours 47 = .ok (.iastore, 1) := by decide +kernel
theorem dX10_hours_48 : decode cX10_hours 48 = .ok (.iconst 0, 1) := by decide +kernel
theorem dX10_hours_49 : decode cX10_hours 49 = .ok (.istore_n 3, 1) := by decide +kernel
theorem dX10_hours_50 : decode cX10_hours 50 = .ok (.iload_n 3, 1) := by decide +kernel
theorem dX10_hours_51 : decode cX10_hours 51 = .ok (.aload_n 0, 1) := by decide +kernel
theorem dX10_hours_52 : decode cX10_hours 52 = .ok (.getfield 59, 3) := by decide +kernel
theorem dX10_hours_55 : decode cX10_hours 55 = .ok (.iconst 0, 1) := by decide +kernel
theorem dX10_hours_56 : decode cX10_hours 56 = .ok (.iaload, 1) := by decide +kernel
theorem dX10_hours_57 : decode cX10_hours 57 = .ok (.if_icmp .ge 58, 3) := by decide +kernel
theorem dX10_hours_60 : decode cX10_hours 60 = .ok (.aload_n 0, 1) := by decide +kernel
theorem dX10_hours_61 : decode cX10_hours 61 = .ok (.getfield 62, 3) := by decide +kernel
theorem dX10_hours_64 : decode cX10_hours 64 = .ok (.iload_n 3, 1) := by decide +kernel
theorem dX10_hours_65 : decode cX10_hours 65 = .ok (.iaload, 1) := by decide +kernel
theorem dX10_hours_66 : decode cX10_hours 66 = .ok (.aload_n 0, 1) := by decide +kernel
theorem dX10_hours_67 : decode cX10_hours 67 = .ok (.getfield 83, 3) := by decide +kernel
theorem dX10_hours_70 : decode cX10_hours 70 = .ok (.iconst 0, 1) := by decide +kernel
theorem dX10_hours_71 : decode cX10_hours 71 = .ok (.iaload, 1) := by decide +kernel
theorem dX10_hours_72 : decode cX10_hours 72 = .ok (.if_icmp .ne 37, 3) := by decide +kernel
theorem dX10_hours_75 : decode cX10_hours 75 = .ok (.aload_n 0, 1) := by decide +kernel
theorem dX10_hours_76 : decode cX10_hours 76 = .ok (.getfield 80, 3) := by decide +kernel
theorem dX10_hours_79 : decode cX10_hours 79 = .ok (.iload_n 3, 1) := by decide +kernel
theorem dX10_hours_80 : decode cX10_hours 80 = .ok (.aload_n 0, 1) := by decide +kernel
theorem dX10_hours_81 : decode cX10_hours 81 = .ok (.aload_n 0, 1) := by decide +kernel
theorem dX10_hours_82 : decode cX10_hours 82 = .ok (.getfield 68, 3) := by decide +kernel
theorem dX10_hours_85 : decode cX10_hours 85 = .ok (.iload_n 3, 1) := by decide +kernel
theorem dX10_hours_86 : decode cX10_hours 86 = .ok (.iaload, 1) := by decide +kernel
theorem dX10_hours_87 : decode cX10_hours 87 = .ok (.aload_n 0, 1) := by decide +kernel
theorem dX10_hours_88 : decode cX10_hours 88 = .ok (.getfield 71, 3) := by decide +kernel
theorem dX10_hours_91 : decode cX10_hours 91 = .ok (.iload_n 3, 1) := by decide +kernel
theorem dX10_hours_92 : decode cX10_hours 92 = .ok (.iaload, 1) := by decide +kernel
theorem dX10_hours_93 : decode cX10_hours 93 = .ok (.aload_n 0, 1) := by decide +kernel
theorem dX10_hours_94 : decode cX10_hours 94 = .ok (.getfield 74, 3) := by decide +kernel
theorem dX10_hours_97 : decode cX10_hours 97 = .ok (.iload_n 3, 1) := by decide +kernel
theorem dX10_hours_98 : decode cX10_hours 98 = .ok (.iaload, 1) := by decide +kernel
theorem dX10_hours_99 : decode cX10_hours 99 = .ok (.aload_n 0, 1) := by decide +kernel
theorem dX10_hours_100 : decode cX10_hours 100 = .ok (.getfield 77, 3) := by decide +kernel
theorem dX10_hours_103 : decode cX10_hours 103 = .ok (.iload_n 3, 1) := by decide +kernel
theorem dX10_hours_104 : decode cX10_hours 104 = .ok (.iaload, 1) := by decide +kernel
theorem dX10_hours_105 : decode cX10_hours 105 = .ok (.invokevirtual 188, 3) := by decide +kernel
theorem dX10_hours_108 : decode cX10_hours 108 = .ok (.iastore, 1) := by decide +kernel
theorem dX10_hours_109 : decode cX10_hours 109 = .ok (.iinc 3 1, 3) := by decide +kernel
theorem dX10_hours_112 : decode cX10_hours 112 = .ok (.goto (-62), 3) := by decide +kernel
theorem dX10_hours_115 : decode cX10_hours 115 = .ok (.iinc 2 1, 3) := by decide +kernel
theorem dX10_hours_118 : decode cX10_hours 118 = .ok (.goto (-85), 3) := by decide +kernel
theorem dX10_hours_121 : decode cX10_hours 121 = .ok (.aload_n 0, 1) := by decide +kernel
theorem dX10_hours_122 : decode cX10_hours 122 = .ok (.getfield 83, 3) := by decide +kernel
theorem dX10_hours_125 : decode cX10_hours 125 = .ok (.iconst 0, 1) := by decide +kernel
theorem dX10_hours_126 : decode cX10_hours 126 = .ok (.iaload, 1) := by decide +kernel
theorem dX10_hours_127 : decode cX10_hours 127 = .ok (.ireturn, 1) := by decide +kernel
theorem dX10_following_0 : decode cX10_following 0 = .ok (.iconst (-1), 1) := by decide +kernel
theorem dX10_following_1 : decode cX10_following 1 = .ok (.istore 4, 2) := by decide +kernel
theorem dX10_following_3 : decode cX10_following 3 = .ok (.iconst 0, 1) := by decide +kernel
theorem dX10_following_4 : decode cX10_following 4 = .ok (.istore 5, 2) := by decide +kernel
theorem dX10_following_6 : decode cX10_following 6 = .ok (.iload 5, 2) := by decide +kernel
theorem dX10_following_8 : decode cX10_following 8 = .ok (.aload_n 0, 1) := by decide +kernel
theorem dX10_following_9 : decode cX10_following 9 = .ok (.getfield 38, 3) := by decide +kernel
theorem dX10_following_12 : decode cX10_following 12 = .ok (.iconst 0, 1) := by decide +kernel
theorem dX10_following_13 : decode cX10_following 13 = .ok (.iaload, 1) := by decide +kernel
theorem dX10_following_14 : decode cX10_following 14 = .ok (.if_icmp .ge 133, 3) := by decide +kernel
theorem dX10_following_17 : decode cX10_following 17 = .ok (.aload_n 0, 1) := by decide +kernel
theorem dX10_following_18 : decode cX10_following 18 = .ok (.getfield 56, 3) := by decide +kernel
theorem dX10_following_21 : decode cX10_following 21 = .ok (.iload 5, 2) := by decide +kernel
theorem dX10_following_23 : decode cX10_following 23 = .ok (.iaload, 1) := by decide +kernel
theorem dX10_following_24 : decode cX10_following 24 = .ok (.ifCond .ne 82, 3) := by decide +kernel
theorem dX10_following_27 : decode cX10_following 27 = .ok (.aload_n 0, 1) := by decide +kernel
theorem dX10_following_28 : decode cX10_following 28 = .ok (.getfield 41, 3) := by decide +kernel
theorem dX10_following_31 : decode cX10_following 31 = .ok (.iload 5, 2) := by decide +kernel
theorem dX10_following_33 : decode cX10_following 33 = .ok (.iaload, 1) := by decide +kernel
theorem dX10_following_34 : decode cX10_following 34 = .ok (.iload_n 2, 1) := by decide +kernel
theorem dX10_following_35 : decode cX10_following 35 = .ok (.if_icmp .ne 71, 3) := by decide +kernel
theorem dX10_following_38 : decode cX10_following 38 = .ok (.aload_n 0, 1) := by decide +kernel
theorem dX10_following_39 : decode cX10_following 39 = .ok (.getfield 32, 3) := by decide +kernel
theorem dX10_following_42 : decode cX10_following 42 = .ok (.bipush 10, 2) := by decide +kernel
theorem dX10_following_44 : decode cX10_following 44 = .ok (.iload_n 2, 1) := by decide +kernel
theorem dX10_following_45 : decode cX10_following 45 = .ok (.imul, 1) := by decide +kernel
theorem dX10_following_46 : decode cX10_following 46 = .ok (.aload_n 0, 1) := by decide +kernel
theorem dX10_following_47 : decode cX10_following 47 = .ok (.getfield 44, 3) := by decide +kernel
theorem dX10_following_50 : decode cX10_following 50 = .ok (.iload 5, 2) := by decide +kernel
theorem dX10_following_52 : decode cX10_following 52 = .ok (.iaload, 1) := by decide +kernel
theorem dX10_following_53 : decode cX10_following 53 = .ok (.iadd, 1) := by decide +kernel
theorem dX10_following_54 : decode cX10_following 54 = .ok (.iaload, 1) := by decide +kernel
theorem dX10_following_55 : decode cX10_following 55 = .ok (.iload_n 1, 1) := by decide +kernel
theorem dX10_following_56 : decode cX10_following 56 = .ok (.if_icmp .ne 50, 3) := by decide +kernel
theorem dX10_following_59 : decode cX10_following 59 = .ok (.iload_n 3, 1) := by decide +kernel
theorem dX10_following_60 : decode cX10_following 60 = .ok (.iconst (-1), 1) := by decide +kernel
theorem dX10_following_61 : decode cX10_following 61 = .ok (.if_icmp .eq 41, 3) := by decide +kernel
theorem dX10_following_64 : decode cX10_following 64 = .ok (.aload_n 0, 1) := by decide +kernel
theorem dX10_following_65 : decode cX10_following 65 = .ok (.getfield 47, 3) := by decide +kernel
theorem dX10_following_68 : decode cX10_following 68 = .ok (.iload 5, 2) := by decide +kernel
theorem dX10_following_70 : decode cX10_following 70 = .ok (.iaload, 1) := by decide +kernel
theorem dX10_following_71 : decode cX10_following 71 = .ok (.aload_n 0, 1) := by decide +kernel
theorem dX10_following_72 : decode cX10_following 72 = .ok (.getfield 47, 3) := by decide +kernel
theorem dX10_following_75 : decode cX10_following 75 = .ok (.iload_n 3, 1) := by decide +kernel
theorem dX10_following_76 : decode cX10_following 76 = .ok (.iaload, 1) := by decide +kernel
theorem dX10_following_77 : decode cX10_following 77 = .ok (.if_icmp .gt 25, 3) := by decide +kernel
theorem dX10_following_80 : decode cX10_following 80 = .ok (.aload_n 0, 1) := by decide +kernel
theorem dX10_following_81 : decode cX10_following 81 = .ok (.getfield 47, 3) := by decide +kernel
theorem dX10_following_84 : decode cX10_following 84 = .ok (.iload 5, 2) := by decide +kernel
theorem dX10_following_86 : decode cX10_following 86 = .ok (.iaload, 1) := by decide +kernel
theorem dX10_following_87 : decode cX10_following 87 = .ok (.aload_n 0, 1) := by decide +kernel
theorem dX10_following_88 : decode cX10_following 88 = .ok (.getfield 47, 3) := by decide +kernel
theorem dX10_following_91 : decode cX10_following 91 = .ok (.iload_n 3, 1) := by decide +kernel
theorem dX10_following_92 : decode cX10_following 92 = .ok (.iaload, 1) := by decide +kernel
theorem dX10_following_93 : decode cX10_following 93 = .ok (.if_icmp .ne 13, 3) := by decide +kernel
theorem dX10_following_96 : decode cX10_following 96 = .ok (.iload 5, 2) := by decide +kernel
theorem dX10_following_98 : decode cX10_following 98 = .ok (.iload_n 3, 1) := by decide +kernel
theorem dX10_following_99 : decode cX10_following 99 = .ok (.if_icmp .le 7, 3) := by decide +kernel
theorem dX10_following_102 : decode cX10_following 102 = .ok (.iconst 1, 1) := by decide +kernel
theorem dX10_following_103 : decode cX10_following 103 = .ok (.goto 4, 3) := by decide +kernel
theorem dX10_following_106 : decode cX10_following 106 = .ok (.iconst 0, 1) := by decide +kernel
theorem dX10_following_107 : decode cX10_following 107 = .ok (.istore 6, 2) := by decide +kernel
theorem dX10_following_109 : decode cX10_following 109 = .ok (.iload 6, 2) := by decide +kernel
theorem dX10_following_111 : decode cX10_following 111 = .ok (.ifCond .eq 30, 3) := by decide +kernel
theorem dX10_following_114 : decode cX10_following 114 = .ok (.iload 4, 2) := by decide +kernel
theorem dX10_following_116 : decode cX10_following 116 = .ok (.iconst (-1), 1) := by decide +kernel
theorem dX10_following_117 : decode cX10_following 117 = .ok (.if_icmp .eq 20, 3) := by decide +kernel
theorem dX10_following_120 : decode cX10_following 120 = .ok (.aload_n 0, 1) := by decide +kernel
theorem dX10_following_121 : decode cX10_following 121 = .ok (.getfield 47, 3) := by decide +kernel
theorem dX10_following_124 : decode cX10_following 124 = .ok (.iload 5, 2) := by decide +kernel
theorem dX10_following_126 : decode cX10_following 126 = .ok (.iaload, 1) := by decide +kernel
theorem dX10_following_127 : decode cX10_following 127 = .ok (.aload_n 0, 1) := by decide +kernel
theorem dX10_following_128 : decode cX10_following 128 = .ok (.getfield 47, 3) := by decide +kernel
theorem dX10_following_131 : decode cX10_following 131 = .ok (.iload 4, 2) := by decide +kernel
theorem dX10_following_133 : decode cX10_following 133 = .ok (.iaload, 1) := by decide +kernel
theorem dX10_following_134 : decode cX10_following 134 = .ok (.if_icmp .ge 7, 3) := by decide +kernel
theorem dX10_following_137 : decode cX10_following 137 = .ok (.iload 5, 2) := by decide +kernel
theorem dX10_following_139 : decode cX10_following 139 = .ok (.istore 4, 2) := by decide +kernel
theorem dX10_following_141 : decode cX10_following 141 = .ok (.iinc 5 1, 3) := by decide +kernel
theorem dX10_following_144 : decode cX10_following 144 = .ok (.goto (-138), 3) := by decide +kernel
theorem dX10_following_147 : decode cX10_following 147 = .ok (.iload 4, 2) := by decide +kernel
theorem dX10_following_149 : decode cX10_following 149 = .ok (.ireturn, 1) := by decide +kernel
theorem dX10_firstFree_0 : decode cX10_firstFree 0 = .ok (.iconst 0, 1) := by decide +kernel
theorem dX10_firstFree_1 : decode cX10_firstFree 1 = .ok (.istore 4, 2) := by decide +kernel
theorem dX10_firstFree_3 : decode cX10_firstFree 3 = .ok (.iload 4, 2) := by decide +kernel
theorem dX10_firstFree_5 : decode cX10_firstFree 5 = .ok (.aload_n 0, 1) := by decide +kernel
theorem dX10_firstFree_6 : decode cX10_firstFree 6 = .ok (.getfield 29, 3) := by decide +kernel
theorem dX10_firstFree_9 : decode cX10_firstFree 9 = .ok (.iload_n 2, 1) := by decide +kernel
theorem dX10_firstFree_10 : decode cX10_firstFree 10 = .ok (.iaload, 1) := by decide +kernel
theorem dX10_firstFree_11 : decode cX10_firstFree 11 = .ok (.if_icmp .ge 39, 3) := by decide +kernel
theorem dX10_firstFree_14 : decode cX10_firstFree 14 = .ok (.aload_n 0, 1) := by decide +kernel
theorem dX10_firstFree_15 : decode cX10_firstFree 15 = .ok (.getfield 32, 3) := by decide +kernel
theorem dX10_firstFree_18 : decode cX10_firstFree 18 = .ok (.bipush 10, 2) := by decide +kernel
theorem dX10_firstFree_20 : decode cX10_firstFree 20 = .ok (.iload_n 2, 1) := by decide +kernel
theorem dX10_firstFree_21 : decode cX10_firstFree 21 = .ok (.imul, 1) := by decide +kernel
theorem dX10_firstFree_22 : decode cX10_firstFree 22 = .ok (.iload 4, 2) := by decide +kernel
theorem dX10_firstFree_24 : decode cX10_firstFree 24 = .ok (.iadd, 1) := by decide +kernel
theorem dX10_firstFree_25 : decode cX10_firstFree 25 = .ok (.iaload, 1) := by decide +kernel
theorem dX10_firstFree_26 : decode cX10_firstFree 26 = .ok (.iload_n 1, 1) := by decide +kernel
theorem dX10_firstFree_27 : decode cX10_firstFree 27 = .ok (.if_icmp .ne 17, 3) := by decide +kernel
theorem dX10_firstFree_30 : decode cX10_firstFree 30 = .ok (.aload_n 0, 1) := by decide +kernel
theorem dX10_firstFree_31 : decode cX10_firstFree 31 = .ok (.getfield 107, 3) := by decide +kernel
theorem dX10_firstFree_34 : decode cX10_firstFree 34 = .ok (.iload 4, 2) := by decide +kernel
theorem dX10_firstFree_36 : decode cX10_firstFree 36 = .ok (.iaload, 1) := by decide +kernel
theorem dX10_firstFree_37 : decode cX10_firstFree 37 = .ok (.iload_n 3, 1) := by decide +kernel
theorem dX10_firstFree_38 : decode cX10_firstFree 38 = .ok (.if_icmp .gt 6, 3) := by decide +kernel
theorem dX10_firstFree_41 : decode cX10_firstFree 41 = .ok (.iload 4, 2) := by decide +kernel
theorem dX10_firstFree_43 : decode cX10_firstFree 43 = .ok (.ireturn, 1) := by decide +kernel
theorem dX10_firstFree_44 : decode cX10_firstFree 44 = .ok (.iinc 4 1, 3) := by decide +kernel
theorem dX10_firstFree_47 : decode cX10_firstFree 47 = .ok (.goto (-44), 3) := by decide +kernel
theorem dX10_firstFree_50 : decode cX10_firstFree 50 = .ok (.iconst (-1), 1) := by decide +kernel
theorem dX10_firstFree_51 : decode cX10_firstFree 51 = .ok (.ireturn, 1) := by decide +kernel
set_option maxRecDepth 20000 in
theorem ggX10_places_X10_following : GoodIn wsX10_places wsX10_following := goodIn_sub (gw_c (gw_t (gw_l (gw_g 8 rfl))) (gw_a (gw_c (gw_t (gw_l (gw_g 9 rfl))) (gw_c (gw_t (gw_l (gw_g 10 rfl))) (gw_c (gw_t (gw_l (gw_g 11 rfl))) (gw_c (gw_t (gw_l (gw_g 12 rfl))) (gw_c (gw_t (gw_l (gw_g 13 rfl))) (gw_c (gw_t (gw_l (gw_g 1 rfl))) gw_n)))))) gw_X10_places_X100)) (by decide +kernel)
set_option maxRecDepth 20000 in
theorem gX10_places_X10_following : GoodIn wsX10_places (wsV RX10 194 RX10 yX10_following wsX10_following) := goodIn_app (goodIn_sub (gw_c (gw_t (gw_l (gw_g 4 rfl))) (gw_c (gw_t (gw_l (gw_g 5 rfl))) (gw_c (gw_t (gw_l (gw_g 6 rfl))) (gw_c (gw_t (gw_l (gw_g 7 rfl))) gw_n)))) (by decide +kernel)) ggX10_places_X10_following
set_option maxRecDepth 20000 in
theorem ggX10_places_X10_firstFree : GoodIn wsX10_places wsX10_firstFree := goodIn_sub (gw_c (gw_t (gw_l (gw_g 17 rfl))) (gw_a (gw_c (gw_t (gw_l (gw_g 18 rfl))) (gw_c (gw_t (gw_l (gw_g 12 rfl))) (gw_c (gw_t (gw_l (gw_g 0 rfl))) gw_n))) gw_X10_places_X100)) (by decide +kernel)
set_option maxRecDepth 20000 in
theorem gX10_places_X10_firstFree : GoodIn wsX10_places (wsV RX10 197 RX10 yX10_firstFree wsX10_firstFree) := goodIn_app (goodIn_sub (gw_c (gw_t (gw_l (gw_g 14 rfl))) (gw_c (gw_t (gw_l (gw_g 15 rfl))) (gw_c (gw_t (gw_l (gw_g 16 rfl))) (gw_c (gw_t (gw_l (gw_g 7 rfl))) gw_n)))) (by decide +kernel)) ggX10_places_X10_firstFree
theorem dX10_places_0 : decode cX10_places 0 = .ok (.iconst 0, 1) := by decide +kernel
theorem dX10_places_1 : decode cX10_places 1 = .ok (.istore 5, 2) := by decide +kernel
theorem dX10_places_3 : decode cX10_places 3 = .ok (.iload 5, 2) := by decide +kernel
theorem dX10_places_5 : decode cX10_places 5 = .ok (.bipush 10, 2) := by decide +kernel
theorem dX10_places_7 : decode cX10_places 7 = .ok (.if_icmp .ge 17, 3) := by decide +kernel
theorem dX10_places_10 : decode cX10_places 10 = .ok (.aload_n 0, 1) := by decide +kernel
theorem dX10_places_11 : decode cX10_places 11 = .ok (.getfield 107, 3) := by decide +kernel
theorem dX10_places_14 : decode cX10_places 14 = .ok (.iload 5, 2) := by decide +kernel
theorem dX10_places_16 : decode cX10_places 16 = .ok (.iconst 0, 1) := by decide +kernel
theorem dX10_places_17 : decode cX10_places 17 = .ok (.iastore, 1) := by decide +kernel
theorem dX10_places_18 : decode cX10_places 18 = .ok (.iinc 5 1, 3) := by decide +kernel
theorem dX10_places_21 : decode cX10_places 21 = .ok (.goto (-18), 3) := by decide +kernel
theorem dX10_places_24 : decode cX10_places 24 = .ok (.iload_n 3, 1) := by decide +kernel
theorem dX10_places_25 : decode cX10_places 25 = .ok (.iconst (-1), 1) := by decide +kernel
theorem dX10_places_26 : decode cX10_places 26 = .ok (.if_icmp .eq 7, 3) := by decide +kernel
theorem dX10_places_29 : decode cX10_places 29 = .ok (.iconst 1, 1) := by decide +kernel
theorem dX10_places_30 : decode cX10_places 30 = .ok (.goto 4, 3) := by decide +kernel
theorem dX10_places_33 : decode cX10_places 33 = .ok (.iconst 0, 1) := by decide +kernel
theorem dX10_places_34 : decode cX10_places 34 = .ok (.istore 5, 2) := by decide +kernel
theorem dX10_places_36 : decode cX10_places 36 = .ok (.aload_n 0, 1) := by decide +kernel
theorem dX10_places_37 : decode cX10_places 37 = .ok (.iload_n 1, 1) := by decide +kernel
theorem dX10_places_38 : decode cX10_places 38 = .ok (.iload_n 2, 1) := by decide +kernel
theorem dX10_places_39 : decode cX10_places 39 = .ok (.iconst (-1), 1) := by decide +kernel
theorem dX10_places_40 : decode cX10_places 40 = .ok (.invokevirtual 194, 3) := by decide +kernel
theorem dX10_places_43 : decode cX10_places 43 = .ok (.istore 6, 2) := by decide +kernel
theorem dX10_places_45 : decode cX10_places 45 = .ok (.iload 6, 2) := by decide +kernel
theorem dX10_places_47 : decode cX10_places 47 = .ok (.iconst (-1), 1) := by decide +kernel
theorem dX10_places_48 : decode cX10_places 48 = .ok (.if_icmp .ne 8, 3) := by decide +kernel
theorem dX10_places_51 : decode cX10_places 51 = .ok (.iload 5, 2) := by decide +kernel
theorem dX10_places_53 : decode cX10_places 53 = .ok (.ifCond .eq 120, 3) := by decide +kernel
theorem dX10_places_56 : decode cX10_places 56 = .ok (.iload 5, 2) := by decide +kernel
theorem dX10_places_58 : decode cX10_places 58 = .ok (.ifCond .eq 24, 3) := by decide +kernel
theorem dX10_places_61 : decode cX10_places 61 = .ok (.iload 6, 2) := by decide +kernel
theorem dX10_places_63 : decode cX10_places 63 = .ok (.iconst (-1), 1) := by decide +kernel
theorem dX10_places_64 : decode cX10_places 64 = .ok (.if_icmp .eq 14, 3) := by decide +kernel
theorem dX10_places_67 : decode cX10_places 67 = .ok (.aload_n 0, 1) := by decide +kernel
theorem dX10_places_68 : decode cX10_places 68 = .ok (.getfield 47, 3) := by decide +kernel
theorem dX10_places_71 : decode cX10_places 71 = .ok (.iload 6, 2) := by decide +kernel
theorem dX10_places_73 : decode cX10_places 73 = .ok (.iaload, 1) := by decide +kernel
theorem dX10_places_74 : decode cX10_places 74 = .ok (.iload_n 3, 1) := by decide +kernel
theorem dX10_places_75 : decode cX10_places 75 = .ok (.if_icmp .le 7, 3) := by decide +kernel
theorem dX10_places_78 : decode cX10_places 78 = .ok (.iconst 1, 1) := by decide +kernel
theorem dX10_places_79 : decode cX10_places 79 = .ok (.goto 4, 3) := by decide +kernel
theorem dX10_places_82 : decode cX10_places 82 = .ok (.iconst 0, 1) := by decide +kernel
theorem dX10_places_83 : decode cX10_places 83 = .ok (.istore 7, 2) := by decide +kernel
theorem dX10_places_85 : decode cX10_places 85 = .ok (.aload_n 0, 1) := by decide +kernel
theorem dX10_places_86 : decode cX10_places 86 = .ok (.iload_n 1, 1) := by decide +kernel
theorem dX10_places_87 : decode cX10_places 87 = .ok (.iload_n 2, 1) := by decide +kernel
theorem dX10_places_88 : decode cX10_places 88 = .ok (.iload 7, 2) := by decide +kernel
theorem dX10_places_90 : decode cX10_places 90 = .ok (.ifCond .eq 7, 3) := by decide +kernel
theorem dX10_places_93 : decode cX10_places 93 = .ok (.iload_n 3, 1) := by decide +kernel
theorem dX10_places_94 : decode cX10_places 94 = .ok (.goto 10, 3) := by decide +kernel
theorem dX10_places_97 : decode cX10_places 97 = .ok (.aload_n 0, 1) := by decide +kernel
theorem dX10_places_98 : decode cX10_places 98 = .ok (.getfield 47, 3) := by decide +kernel
theorem dX10_places_101 : decode cX10_places 101 = .ok (.iload 6, 2) := by decide +kernel
theorem dX10_places_103 : decode cX10_places 103 = .ok (.iaload, 1) := by decide +kernel
theorem dX10_places_104 : decode cX10_places 104 = .ok (.invokevirtual 197, 3) := by decide +kernel
theorem dX10_places_107 : decode cX10_places 107 = .ok (.istore 8, 2) := by decide +kernel
theorem dX10_places_109 : decode cX10_places 109 = .ok (.iload 8, 2) := by decide +kernel
theorem dX10_places_111 : decode cX10_places 111 = .ok (.iconst (-1), 1) := by decide +kernel
theorem dX10_places_112 : decode cX10_places 112 = .ok (.if_icmp .ne 5, 3) := by decide +kernel
theorem dX10_places_115 : decode cX10_places 115 = .ok (.iconst 0, 1) := by decide +kernel
theorem dX10_places_116 : decode cX10_places 116 = .ok (.ireturn, 1) := by decide +kernel
theorem dX10_places_117 : decode cX10_places 117 = .ok (.iload 7, 2) := by decide +kernel
theorem dX10_places_119 : decode cX10_places 119 = .ok (.ifCond .eq 18, 3) := by decide +kernel
theorem dX10_places_122 : decode cX10_places 122 = .ok (.aload_n 0, 1) := by decide +kernel
theorem dX10_places_123 : decode cX10_places 123 = .ok (.getfield 107, 3) := by decide +kernel
theorem dX10_places_126 : decode cX10_places 126 = .ok (.iload 8, 2) := by decide +kernel
theorem dX10_places_128 : decode cX10_places 128 = .ok (.iload 4, 2) := by decide +kernel
theorem dX10_places_130 : decode cX10_places 130 = .ok (.iastore, 1) := by decide +kernel
theorem dX10_places_131 : decode cX10_places 131 = .ok (.iconst 0, 1) := by decide +kernel
theorem dX10_places_132 : decode cX10_places 132 = .ok (.istore 5, 2) := by decide +kernel
theorem dX10_places_134 : decode cX10_places 134 = .ok (.goto 36, 3) := by decide +kernel
theorem dX10_places_137 : decode cX10_places 137 = .ok (.aload_n 0, 1) := by decide +kernel
theorem dX10_places_138 : decode cX10_places 138 = .ok (.getfield 107, 3) := by decide +kernel
theorem dX10_places_141 : decode cX10_places 141 = .ok (.iload 8, 2) := by decide +kernel
theorem dX10_places_143 : decode cX10_places 143 = .ok (.aload_n 0, 1) := by decide +kernel
theorem dX10_places_144 : decode cX10_places 144 = .ok (.getfield 50, 3) := by decide +kernel
theorem dX10_places_147 : decode cX10_places 147 = .ok (.iload 6, 2) := by decide +kernel
theorem dX10_places_149 : decode cX10_places 149 = .ok (.iaload, 1) := by decide +kernel
theorem dX10_places_150 : decode cX10_places 150 = .ok (.iastore, 1) := by decide +kernel
theorem dX10_places_151 : decode cX10_places 151 = .ok (.aload_n 0, 1) := by decide +kernel
theorem dX10_places_152 : decode cX10_places 152 = .ok (.getfield 110, 3) := by decide +kernel
theorem dX10_places_155 : decode cX10_places 155 = .ok (.iload 6, 2) := by decide +kernel
theorem dX10_places_157 : decode cX10_places 157 = .ok (.iload 8, 2) := by decide +kernel
theorem dX10_places_159 : decode cX10_places 159 = .ok (.iastore, 1) := by decide +kernel
theorem dX10_places_160 : decode cX10_places 160 = .ok (.aload_n 0, 1) := by decide +kernel
theorem dX10_places_161 : decode cX10_places 161 = .ok (.iload_n 1, 1) := by decide +kernel
theorem dX10_places_162 : decode cX10_places 162 = .ok (.iload_n 2, 1) := by decide +kernel
theorem dX10_places_163 : decode cX10_places 163 = .ok (.iload 6, 2) := by decide +kernel
theorem dX10_places_165 : decode cX10_places 165 = .ok (.invokevirtual 194, 3) := by decide +kernel
theorem dX10_places_168 : decode cX10_places 168 = .ok (.istore 6, 2) := by decide +kernel
theorem dX10_places_170 : decode cX10_places 170 = .ok (.goto (-125), 3) := by decide +kernel
theorem dX10_places_173 : decode cX10_places 173 = .ok (.iconst 1, 1) := by decide +kernel
theorem dX10_places_174 : decode cX10_places 174 = .ok (.ireturn, 1) := by decide +kernel
theorem dX10_hasLeft_0 : decode cX10_hasLeft 0 = .ok (.aload_n 0, 1) := by decide +kernel
theorem dX10_hasLeft_1 : decode cX10_hasLeft 1 = .ok (.getfield 83, 3) := by decide +kernel
theorem dX10_hasLeft_4 : decode cX10_hasLeft 4 = .ok (.iconst 0, 1) := by decide +kernel
theorem dX10_hasLeft_5 : decode cX10_hasLeft 5 = .ok (.iaload, 1) := by decide +kernel
theorem dX10_hasLeft_6 : decode cX10_hasLeft 6 = .ok (.bipush 24, 2) := by decide +kernel
theorem dX10_hasLeft_8 : decode cX10_hasLeft 8 = .ok (.iload_n 1, 1) := by decide +kernel
theorem dX10_hasLeft_9 : decode cX10_hasLeft 9 = .ok (.imul, 1) := by decide +kernel
theorem dX10_hasLeft_10 : decode cX10_hasLeft 10 = .ok (.if_icmp .lt 7, 3) := by decide +kernel
theorem dX10_hasLeft_13 : decode cX10_hasLeft 13 = .ok (.iconst 1, 1) := by decide +kernel
theorem dX10_hasLeft_14 : decode cX10_hasLeft 14 = .ok (.goto 4, 3) := by decide +kernel
theorem dX10_hasLeft_17 : decode cX10_hasLeft 17 = .ok (.iconst 0, 1) := by decide +kernel
theorem dX10_hasLeft_18 : decode cX10_hasLeft 18 = .ok (.ireturn, 1) := by decide +kernel
set_option maxRecDepth 20000 in
theorem ggX10_moved_X10_isRun : GoodIn wsX10_moved wsX10_isRun := goodIn_sub (gw_c (gw_X10_moved_X10_moved_r1 _ (gw_g 13 rfl)) (gw_a (gw_c (gw_X10_moved_X10_moved_r1 _ (gw_g 14 rfl)) (gw_c (gw_X10_moved_X10_moved_r1 _ (gw_g 15 rfl)) (gw_c (gw_X10_moved_X10_moved_r1 _ (gw_g 16 rfl)) (gw_c (gw_X10_moved_X10_moved_r1 _ (gw_g 12 rfl)) (gw_c (gw_X10_moved_X10_moved_r1 _ (gw_g 17 rfl)) gw_n))))) gw_X10_moved_X100)) (by decide +kernel)
set_option maxRecDepth 20000 in
theorem gX10_moved_X10_isRun : GoodIn wsX10_moved (wsV RX10 166 RX10 yX10_isRun wsX10_isRun) := goodIn_app (goodIn_sub (gw_c (gw_X10_moved_X10_moved_r1 _ (gw_g 9 rfl)) (gw_c (gw_X10_moved_X10_moved_r1 _ (gw_g 10 rfl)) (gw_c (gw_X10_moved_X10_moved_r1 _ (gw_g 11 rfl)) (gw_c (gw_X10_moved_X10_moved_r1 _ (gw_g 12 rfl)) gw_n)))) (by decide +kernel)) ggX10_moved_X10_isRun
set_option maxRecDepth 20000 in
theorem ggX10_moved_X10_hasLeft : GoodIn wsX10_moved wsX10_hasLeft := goodIn_sub (gw_c (gw_X10_moved_X10_moved_r1 _ (gw_g 21 rfl)) (gw_a (gw_c (gw_X10_moved_X10_moved_r1 _ (gw_g 22 rfl)) gw_n) gw_X10_moved_X100)) (by decide +kernel)
set_option maxRecDepth 20000 in
theorem gX10_moved_X10_hasLeft : GoodIn wsX10_moved (wsV RX10 200 RX10 yX10_hasLeft wsX10_hasLeft) := goodIn_app (goodIn_sub (gw_c (gw_X10_moved_X10_moved_r1 _ (gw_g 18 rfl)) (gw_c (gw_X10_moved_X10_moved_r1 _ (gw_g 19 rfl)) (gw_c (gw_X10_moved_X10_moved_r1 _ (gw_g 20 rfl)) (gw_c (gw_X10_moved_X10_moved_r1 _ (gw_g 12 rfl)) gw_n)))) (by decide +kernel)) ggX10_moved_X10_hasLeft
set_option maxRecDepth 20000 in
theorem ggX10_moved_X10_places : GoodIn wsX10_moved wsX10_places := goodIn_sub (gw_c (gw_X10_moved_X10_moved_r2 _ (gw_g 2 rfl)) (gw_a (gw_c (gw_X10_moved_X10_moved_r2 _ (gw_g 3 rfl)) (gw_c (gw_X10_moved_X10_moved_r1 _ (gw_g 7 rfl)) (gw_c (gw_X10_moved_X10_moved_r1 _ (gw_g 8 rfl)) (gw_c (gw_X10_moved_X10_moved_r1 _ (gw_g 2 rfl)) (gw_c (gw_X10_moved_X10_moved_r2 _ (gw_g 4 rfl)) (gw_c (gw_X10_moved_X10_moved_r2 _ (gw_g 5 rfl)) (gw_c (gw_X10_moved_X10_moved_r2 _ (gw_g 6 rfl)) (gw_c (gw_X10_moved_X10_moved_r1 _ (gw_g 12 rfl)) (gw_c (gw_X10_moved_X10_moved_r2 _ (gw_g 7 rfl)) (gw_c (gw_X10_moved_X10_moved_r1 _ (gw_g 1 rfl)) (gw_c (gw_X10_moved_X10_moved_r1 _ (gw_g 6 rfl)) (gw_c (gw_X10_moved_X10_moved_r1 _ (gw_g 5 rfl)) (gw_c (gw_X10_moved_X10_moved_r2 _ (gw_g 8 rfl)) (gw_c (gw_X10_moved_X10_moved_r1 _ (gw_g 3 rfl)) (gw_c (gw_X10_moved_X10_moved_r2 _ (gw_g 9 rfl)) (gw_c (gw_X10_moved_X10_moved_r2 _ (gw_g 10 rfl)) (gw_c (gw_X10_moved_X10_moved_r2 _ (gw_g 11 rfl)) (gw_c (gw_X10_moved_X10_moved_r2 _ (gw_g 12 rfl)) (gw_c (gw_X10_moved_X10_moved_r1 _ (gw_g 14 rfl)) gw_n))))))))))))))))))) gw_X10_moved_X100)) (by decide +kernel)
set_option maxRecDepth 20000 in
theorem gX10_moved_X10_places : GoodIn wsX10_moved (wsV RX10 203 RX10 yX10_places wsX10_places) := goodIn_app (goodIn_sub (gw_c (gw_X10_moved_X10_moved_r1 _ (gw_g 23 rfl)) (gw_c (gw_X10_moved_X10_moved_r2 _ (gw_g 0 rfl)) (gw_c (gw_X10_moved_X10_moved_r2 _ (gw_g 1 rfl)) (gw_c (gw_X10_moved_X10_moved_r1 _ (gw_g 12 rfl)) gw_n)))) (by decide +kernel)) ggX10_moved_X10_places
set_option maxRecDepth 20000 in
theorem ggX10_moved_X10_at : GoodIn wsX10_moved wsX10_at := goodIn_sub (gw_c (gw_X10_moved_X10_moved_r2 _ (gw_g 16 rfl)) gw_n) (by decide +kernel)
set_option maxRecDepth 20000 in
theorem gX10_moved_X10_at : GoodIn wsX10_moved (wsV RX10 162 RX10 yX10_at wsX10_at) := goodIn_app (goodIn_sub (gw_c (gw_X10_moved_X10_moved_r2 _ (gw_g 13 rfl)) (gw_c (gw_X10_moved_X10_moved_r2 _ (gw_g 14 rfl)) (gw_c (gw_X10_moved_X10_moved_r2 _ (gw_g 15 rfl)) (gw_c (gw_X10_moved_X10_moved_r1 _ (gw_g 12 rfl)) gw_n)))) (by decide +kernel)) ggX10_moved_X10_at
theorem dX10_moved_0 : decode cX10_moved 0 = .ok (.aload_n 0, 1) := by decide +kernel
theorem dX10_moved_1 : decode cX10_moved 1 = .ok (.iconst 0, 1) := by decide +kernel
theorem dX10_moved_2 : decode cX10_moved 2 = .ok (.putfield 139, 3) := by decide +kernel
theorem dX10_moved_5 : decode cX10_moved 5 = .ok (.aload_n 0, 1) := by decide +kernel
theorem dX10_moved_6 : decode cX10_moved 6 = .ok (.iload_n 1, 1) := by decide +kernel
theorem dX10_moved_7 : decode cX10_moved 7 = .ok (.invokevirtual 166, 3) := by decide +kernel
theorem dX10_moved_10 : decode cX10_moved 10 = .ok (.ifCond .eq 11, 3) := by decide +kernel
theorem dX10_moved_13 : decode cX10_moved 13 = .ok (.aload_n 0, 1) := by decide +kernel
theorem dX10_moved_14 : decode cX10_moved 14 = .ok (.iload_n 1, 1) := by decide +kernel
theorem dX10_moved_15 : decode cX10_moved 15 = .ok (.invokevirtual 200, 3) := by decide +kernel
theorem dX10_moved_18 : decode cX10_moved 18 = .ok (.ifCond .eq 5, 3) := by decide +kernel
theorem dX10_moved_21 : decode cX10_moved 21 = .ok (.iconst (-1), 1) := by decide +kernel
theorem dX10_moved_22 : decode cX10_moved 22 = .ok (.ireturn, 1) := by decide +kernel
theorem dX10_moved_23 : decode cX10_moved 23 = .ok (.iconst 0, 1) := by decide +kernel
theorem dX10_moved_24 : decode cX10_moved 24 = .ok (.istore_n 2, 1) := by decide +kernel
theorem dX10_moved_25 : decode cX10_moved 25 = .ok (.iload_n 2, 1) := by decide +kernel
theorem dX10_moved_26 : decode cX10_moved 26 = .ok (.aload_n 0, 1) := by decide +kernel
theorem dX10_moved_27 : decode cX10_moved 27 = .ok (.getfield 38, 3) := by decide +kernel
theorem dX10_moved_30 : decode cX10_moved 30 = .ok (.iconst 0, 1) := by decide +kernel
theorem dX10_moved_31 : decode cX10_moved 31 = .ok (.iaload, 1) := by decide +kernel
theorem dX10_moved_32 : decode cX10_moved 32 = .ok (.if_icmp .ge 21, 3) := by decide +kernel
theorem dX10_moved_35 : decode cX10_moved 35 = .ok (.aload_n 0, 1) := by decide +kernel
theorem dX10_moved_36 : decode cX10_moved 36 = .ok (.getfield 110, 3) := by decide +kernel
theorem dX10_moved_39 : decode cX10_moved 39 = .ok (.iload_n 2, 1) := by decide +kernel
theorem dX10_moved_40 : decode cX10_moved 40 = .ok (.aload_n 0, 1) := by decide +kernel
theorem dX10_moved_41 : decode cX10_moved 41 = .ok (.getfield 44, 3) := by decide +kernel
theorem dX10_moved_44 : decode cX10_moved 44 = .ok (.iload_n 2, 1) := by decide +kernel
theorem dX10_moved_45 : decode cX10_moved 45 = .ok (.iaload, 1) := by decide +kernel
theorem dX10_moved_46 : decode cX10_moved 46 = .ok (.iastore, 1) := by decide +kernel
theorem dX10_moved_47 : decode cX10_moved 47 = .ok (.iinc 2 1, 3) := by decide +kernel
theorem dX10_moved_50 : decode cX10_moved 50 = .ok (.goto (-25), 3) := by decide +kernel
theorem dX10_moved_53 : decode cX10_moved 53 = .ok (.iconst 0, 1) := by decide +kernel
theorem dX10_moved_54 : decode cX10_moved 54 = .ok (.istore_n 2, 1) := by decide +kernel
theorem dX10_moved_55 : decode cX10_moved 55 = .ok (.iload_n 2, 1) := by decide +kernel
theorem dX10_moved_56 : decode cX10_moved 56 = .ok (.bipush 6, 2) := by decide +kernel
theorem dX10_moved_58 : decode cX10_moved 58 = .ok (.if_icmp .ge 18, 3) := by decide +kernel
theorem dX10_moved_61 : decode cX10_moved 61 = .ok (.aload_n 0, 1) := by decide +kernel
theorem dX10_moved_62 : decode cX10_moved 62 = .ok (.iload_n 2, 1) := by decide +kernel
theorem dX10_moved_63 : decode cX10_moved 63 = .ok (.iload_n 1, 1) := by decide +kernel
theorem dX10_moved_64 : decode cX10_moved 64 = .ok (.iconst (-1), 1) := by decide +kernel
theorem dX10_moved_65 : decode cX10_moved 65 = .ok (.iconst (-1), 1) := by decide +kernel
theorem dX10_moved_66 : decode cX10_moved 66 = .ok (.invokevirtual 203, 3) := by decide +kernel
theorem dX10_moved_69 : decode cX10_moved 69 = .ok (.istore_n 3, 1) := by decide +kernel
theorem dX10_moved_70 : decode cX10_moved 70 = .ok (.iinc 2 1, 3) := by decide +kernel
theorem dX10_moved_73 : decode cX10_moved 73 = .ok (.goto (-18), 3) := by decide +kernel
theorem dX10_moved_76 : decode cX10_moved 76 = .ok (.iconst 0, 1) := by decide +kernel
theorem dX10_moved_77 : decode cX10_moved 77 = .ok (.istore_n 2, 1) := by decide +kernel
theorem dX10_moved_78 : decode cX10_moved 78 = .ok (.aload_n 0, 1) := by decide +kernel
theorem dX10_moved_79 : decode cX10_moved 79 = .ok (.iload_n 1, 1) := by decide +kernel
theorem dX10_moved_80 : decode cX10_moved 80 = .ok (.iconst 0, 1) := by decide +kernel
theorem dX10_moved_81 : decode cX10_moved 81 = .ok (.iconst 0, 1) := by decide +kernel
theorem dX10_moved_82 : decode cX10_moved 82 = .ok (.invokevirtual 162, 3) := by decide +kernel
theorem dX10_moved_85 : decode cX10_moved 85 = .ok (.istore_n 3, 1) := by decide +kernel
theorem dX10_moved_86 : decode cX10_moved 86 = .ok (.iload_n 3, 1) := by decide +kernel
theorem dX10_moved_87 : decode cX10_moved 87 = .ok (.aload_n 0, 1) := by decide +kernel
theorem dX10_moved_88 : decode cX10_moved 88 = .ok (.iload_n 1, 1) := by decide +kernel
theorem dX10_moved_89 : decode cX10_moved 89 = .ok (.iconst 1, 1) := by decide +kernel
theorem dX10_moved_90 : decode cX10_moved 90 = .ok (.iadd, 1) := by decide +kernel
theorem dX10_moved_91 : decode cX10_moved 91 = .ok (.iconst 0, 1) := by decide +kernel
theorem dX10_moved_92 : decode cX10_moved 92 = .ok (.iconst 0, 1) := by decide +kernel
theorem dX10_moved_93 : decode cX10_moved 93 = .ok (.invokevirtual 162, 3) := by decide +kernel
theorem dX10_moved_96 : decode cX10_moved 96 = .ok (.if_icmp .ge 16, 3) := by decide +kernel
theorem dX10_moved_99 : decode cX10_moved 99 = .ok (.aload_n 0, 1) := by decide +kernel
theorem dX10_moved_100 : decode cX10_moved 100 = .ok (.getfield 35, 3) := by decide +kernel
theorem dX10_moved_103 : decode cX10_moved 103 = .ok (.iload_n 3, 1) := by decide +kernel
theorem dX10_moved_104 : decode cX10_moved 104 = .ok (.iconst (-1), 1) := by decide +kernel
theorem dX10_moved_105 : decode cX10_moved 105 = .ok (.iastore, 1) := by decide +kernel
theorem dX10_moved_106 : decode cX10_moved 106 = .ok (.iinc 3 1, 3) := by decide +kernel
theorem dX10_moved_109 : decode cX10_moved 109 = .ok (.goto (-23), 3) := by decide +kernel
theorem dX10_moved_112 : decode cX10_moved 112 = .ok (.iconst 0, 1) := by decide +kernel
theorem dX10_moved_113 : decode cX10_moved 113 = .ok (.istore_n 3, 1) := by decide +kernel
theorem dX10_moved_114 : decode cX10_moved 114 = .ok (.iload_n 3, 1) := by decide +kernel
theorem dX10_moved_115 : decode cX10_moved 115 = .ok (.aload_n 0, 1) := by decide +kernel
theorem dX10_moved_116 : decode cX10_moved 116 = .ok (.getfield 38, 3) := by decide +kernel
theorem dX10_moved_119 : decode cX10_moved 119 = .ok (.iconst 0, 1) := by decide +kernel
theorem dX10_moved_120 : decode cX10_moved 120 = .ok (.iaload, 1) := by decide +kernel
theorem dX10_moved_121 : decode cX10_moved 121 = .ok (.if_icmp .ge 111, 3) := by decide +kernel
theorem dX10_moved_124 : decode cX10_moved 124 = .ok (.aload_n 0, 1) := by decide +kernel
theorem dX10_moved_125 : decode cX10_moved 125 = .ok (.getfield 41, 3) := by decide +kernel
theorem dX10_moved_128 : decode cX10_moved 128 = .ok (.iload_n 3, 1) := by decide +kernel
theorem dX10_moved_129 : decode cX10_moved 129 = .ok (.iaload, 1) := by decide +kernel
theorem dX10_moved_130 : decode cX10_moved 130 = .ok (.iload_n 1, 1) := by decide +kernel
theorem dX10_moved_131 : decode cX10_moved 131 = .ok (.if_icmp .ne 95, 3) := by decide +kernel
theorem dX10_moved_134 : decode cX10_moved 134 = .ok (.aload_n 0, 1) := by decide +kernel
theorem dX10_moved_135 : decode cX10_moved 135 = .ok (.getfield 56, 3) := by decide +kernel
theorem dX10_moved_138 : decode cX10_moved 138 = .ok (.iload_n 3, 1) := by decide +kernel
theorem dX10_moved_139 : decode cX10_moved 139 = .ok (.iaload, 1) := by decide +kernel
theorem dX10_moved_140 : decode cX10_moved 140 = .ok (.iconst 1, 1) := by decide +kernel
theorem dX10_moved_141 : decode cX10_moved 141 = .ok (.if_icmp .ne 6, 3) := by decide +kernel
theorem dX10_moved_144 : decode cX10_moved 144 = .ok (.goto 82, 3) := by decide +kernel
theorem dX10_moved_147 : decode cX10_moved 147 = .ok (.iload_n 2, 1) := by decide +kernel
theorem dX10_moved_148 : decode cX10_moved 148 = .ok (.aload_n 0, 1) := by decide +kernel
theorem dX10_moved_149 : decode cX10_moved 149 = .ok (.getfield 44, 3) := by decide +kernel
theorem dX10_moved_152 : decode cX10_moved 152 = .ok (.iload_n 3, 1) := by decide +kernel
theorem dX10_moved_153 : decode cX10_moved 153 = .ok (.iaload, 1) := by decide +kernel
theorem dX10_moved_154 : decode cX10_moved 154 = .ok (.aload_n 0, 1) := by decide +kernel
theorem dX10_moved_155 : decode cX10_moved 155 = .ok (.getfield 110, 3) := by decide +kernel
theorem dX10_moved_158 : decode cX10_moved 158 = .ok (.iload_n 3, 1) := by decide +kernel
theorem dX10_moved_159 : decode cX10_moved 159 = .ok (.iaload, 1) := by decide +kernel
theorem dX10_moved_160 : decode cX10_moved 160 = .ok (.if_icmp .eq 7, 3) := by decide +kernel
theorem dX10_moved_163 : decode cX10_moved 163 = .ok (.iconst 1, 1) := by decide +kernel
theorem dX10_moved_164 : decode cX10_moved 164 = .ok (.goto 4, 3) := by decide +kernel
theorem dX10_moved_167 : decode cX10_moved 167 = .ok (.iconst 0, 1) := by decide +kernel
theorem dX10_moved_168 : decode cX10_moved 168 = .ok (.iadd, 1) := by decide +kernel
theorem dX10_moved_169 : decode cX10_moved 169 = .ok (.istore_n 2, 1) := by decide +kernel
theorem dX10_moved_170 : decode cX10_moved 170 = .ok (.aload_n 0, 1) := by decide +kernel
theorem dX10_moved_171 : decode cX10_moved 171 = .ok (.getfield 44, 3) := by decide +kernel
theorem dX10_moved_174 : decode cX10_moved 174 = .ok (.iload_n 3, 1) := by decide +kernel
theorem dX10_moved_175 : decode cX10_moved 175 = .ok (.aload_n 0, 1) := by decide +kernel
theorem dX10_moved_176 : decode cX10_moved 176 = .ok (.getfield 110, 3) := by decide +kernel
theorem dX10_moved_179 : decode cX10_moved 179 = .ok (.iload_n 3, 1) := by decide +kernel
theorem dX10_moved_180 : decode cX10_moved 180 = .ok (.iaload, 1) := by decide +kernel
theorem dX10_moved_181 : decode cX10_moved 181 = .ok (.iastore, 1) := by decide +kernel
theorem dX10_moved_182 : decode cX10_moved 182 = .ok (.aload_n 0, 1) := by decide +kernel
theorem dX10_moved_183 : decode cX10_moved 183 = .ok (.getfield 47, 3) := by decide +kernel
theorem dX10_moved_186 : decode cX10_moved 186 = .ok (.iload_n 3, 1) := by decide +kernel
theorem dX10_moved_187 : decode cX10_moved 187 = .ok (.iaload, 1) := by decide +kernel
theorem dX10_moved_188 : decode cX10_moved 188 = .ok (.istore 4, 2) := by decide +kernel
theorem dX10_moved_190 : decode cX10_moved 190 = .ok (.iload 4, 2) := by decide +kernel
theorem dX10_moved_192 : decode cX10_moved 192 = .ok (.aload_n 0, 1) := by decide +kernel
theorem dX10_moved_193 : decode cX10_moved 193 = .ok (.getfield 50, 3) := by decide +kernel
theorem dX10_moved_196 : decode cX10_moved 196 = .ok (.iload_n 3, 1) := by decide +kernel
theorem dX10_moved_197 : decode cX10_moved 197 = .ok (.iaload, 1) := by decide +kernel
theorem dX10_moved_198 : decode cX10_moved 198 = .ok (.if_icmp .ge 28, 3) := by decide +kernel
theorem dX10_moved_201 : decode cX10_moved 201 = .ok (.aload_n 0, 1) := by decide +kernel
theorem dX10_moved_202 : decode cX10_moved 202 = .ok (.getfield 35, 3) := by decide +kernel
theorem dX10_moved_205 : decode cX10_moved 205 = .ok (.aload_n 0, 1) := by decide +kernel
theorem dX10_moved_206 : decode cX10_moved 206 = .ok (.iload_n 1, 1) := by decide +kernel
theorem dX10_moved_207 : decode cX10_moved 207 = .ok (.aload_n 0, 1) := by decide +kernel
theorem dX10_moved_208 : decode cX10_moved 208 = .ok (.getfield 44, 3) := by decide +kernel
theorem dX10_moved_211 : decode cX10_moved 211 = .ok (.iload_n 3, 1) := by decide +kernel
theorem dX10_moved_212 : decode cX10_moved 212 = .ok (.iaload, 1) := by decide +kernel
theorem dX10_moved_213 : decode cX10_moved 213 = .ok (.iload 4, 2) := by decide +kernel
theorem dX10_moved_215 : decode cX10_moved 215 = .ok (.invokevirtual 162, 3) := by decide +kernel
theorem dX10_moved_218 : decode cX10_moved 218 = .ok (.iload_n 3, 1) := by decide +kernel
theorem dX10_moved_219 : decode cX10_moved 219 = .ok (.iastore, 1) := by decide +kernel
theorem dX10_moved_220 : decode cX10_moved 220 = .ok (.iinc 4 1, 3) := by decide +kernel
theorem dX10_moved_223 : decode cX10_moved 223 = .ok (.goto (-33), 3) := by decide +kernel
theorem dX10_moved_226 : decode cX10_moved 226 = .ok (.iinc 3 1, 3) := by decide +kernel
theorem dX10_moved_229 : decode cX10_moved 229 = .ok (.goto (-115), 3) := by decide +kernel
theorem dX10_moved_232 : decode cX10_moved 232 = .ok (.iload_n 2, 1) := by decide +kernel
theorem dX10_moved_233 : decode cX10_moved 233 = .ok (.ireturn, 1) := by decide +kernel
set_option maxRecDepth 20000 in
theorem ggX10_wouldFit_X10_isOffice : GoodIn wsX10_wouldFit wsX10_isOffice := goodIn_sub (gw_c (gw_X10_wouldFit_X10_wouldFit_r1 _ (gw_g 5 rfl)) (gw_c (gw_X10_wouldFit_X10_wouldFit_r1 _ (gw_g 6 rfl)) (gw_c (gw_X10_wouldFit_X10_wouldFit_r1 _ (gw_g 7 rfl)) (gw_c (gw_X10_wouldFit_X10_wouldFit_r1 _ (gw_g 4 rfl)) (gw_c (gw_X10_wouldFit_X10_wouldFit_r1 _ (gw_g 8 rfl)) gw_n))))) (by decide +kernel)
set_option maxRecDepth 20000 in
theorem gX10_wouldFit_X10_isOffice : GoodIn wsX10_wouldFit (wsV RX10 158 RX10 yX10_isOffice wsX10_isOffice) := goodIn_app (goodIn_sub (gw_c (gw_X10_wouldFit_X10_wouldFit_r1 _ (gw_g 1 rfl)) (gw_c (gw_X10_wouldFit_X10_wouldFit_r1 _ (gw_g 2 rfl)) (gw_c (gw_X10_wouldFit_X10_wouldFit_r1 _ (gw_g 3 rfl)) (gw_c (gw_X10_wouldFit_X10_wouldFit_r1 _ (gw_g 4 rfl)) gw_n)))) (by decide +kernel)) ggX10_wouldFit_X10_isOffice
set_option maxRecDepth 20000 in
theorem ggX10_wouldFit_X10_isRun : GoodIn wsX10_wouldFit wsX10_isRun := goodIn_sub (gw_c (gw_X10_wouldFit_X10_wouldFit_r1 _ (gw_g 12 rfl)) (gw_a (gw_c (gw_X10_wouldFit_X10_wouldFit_r1 _ (gw_g 13 rfl)) (gw_c (gw_X10_wouldFit_X10_wouldFit_r1 _ (gw_g 6 rfl)) (gw_c (gw_X10_wouldFit_X10_wouldFit_r1 _ (gw_g 7 rfl)) (gw_c (gw_X10_wouldFit_X10_wouldFit_r1 _ (gw_g 4 rfl)) (gw_c (gw_X10_wouldFit_X10_wouldFit_r1 _ (gw_g 8 rfl)) gw_n))))) gw_X10_wouldFit_X100)) (by decide +kernel)
set_option maxRecDepth 20000 in
theorem gX10_wouldFit_X10_isRun : GoodIn wsX10_wouldFit (wsV RX10 166 RX10 yX10_isRun wsX10_isRun) := goodIn_app (goodIn_sub (gw_c (gw_X10_wouldFit_X10_wouldFit_r1 _ (gw_g 9 rfl)) (gw_c (gw_X10_wouldFit_X10_wouldFit_r1 _ (gw_g 10 rfl)) (gw_c (gw_X10_wouldFit_X10_wouldFit_r1 _ (gw_g 11 rfl)) (gw_c (gw_X10_wouldFit_X10_wouldFit_r1 _ (gw_g 4 rfl)) gw_n)))) (by decide +kernel)) ggX10_wouldFit_X10_isRun
set_option maxRecDepth 20000 in
theorem ggX10_wouldFit_X10_hasLeft : GoodIn wsX10_wouldFit wsX10_hasLeft := goodIn_sub (gw_c (gw_X10_wouldFit_X10_wouldFit_r1 _ (gw_g 17 rfl)) (gw_a (gw_c (gw_X10_wouldFit_X10_wouldFit_r1 _ (gw_g 18 rfl)) gw_n) gw_X10_wouldFit_X100)) (by decide +kernel)
set_option maxRecDepth 20000 in
theorem gX10_wouldFit_X10_hasLeft : GoodIn wsX10_wouldFit (wsV RX10 200 RX10 yX10_hasLeft wsX10_hasLeft) := goodIn_app (goodIn_sub (gw_c (gw_X10_wouldFit_X10_wouldFit_r1 _ (gw_g 14 rfl)) (gw_c (gw_X10_wouldFit_X10_wouldFit_r1 _ (gw_g 15 rfl)) (gw_c (gw_X10_wouldFit_X10_wouldFit_r1 _ (gw_g 16 rfl)) (gw_c (gw_X10_wouldFit_X10_wouldFit_r1 _ (gw_g 4 rfl)) gw_n)))) (by decide +kernel)) ggX10_wouldFit_X10_hasLeft
set_option maxRecDepth 20000 in
theorem ggX10_wouldFit_X10_isStretch : GoodIn wsX10_wouldFit wsX10_isStretch := goodIn_sub (gw_c (gw_X10_wouldFit_X10_wouldFit_r1 _ (gw_g 22 rfl)) (gw_a (gw_c (gw_X10_wouldFit_X10_wouldFit_r1 _ (gw_g 23 rfl)) gw_n) gw_X10_wouldFit_X100)) (by decide +kernel)
set_option maxRecDepth 20000 in
theorem gX10_wouldFit_X10_isStretch : GoodIn wsX10_wouldFit (wsV RX10 169 RX10 yX10_isStretch wsX10_isStretch) := goodIn_app (goodIn_sub (gw_c (gw_X10_wouldFit_X10_wouldFit_r1 _ (gw_g 19 rfl)) (gw_c (gw_X10_wouldFit_X10_wouldFit_r1 _ (gw_g 20 rfl)) (gw_c (gw_X10_wouldFit_X10_wouldFit_r1 _ (gw_g 21 rfl)) (gw_c (gw_X10_wouldFit_X10_wouldFit_r1 _ (gw_g 4 rfl)) gw_n)))) (by decide +kernel)) ggX10_wouldFit_X10_isStretch
set_option maxRecDepth 20000 in
theorem ggX10_wouldFit_X10_places : GoodIn wsX10_wouldFit wsX10_places := goodIn_sub (gw_c (gw_X10_wouldFit_X10_wouldFit_r2 _ (gw_g 3 rfl)) (gw_a (gw_c (gw_X10_wouldFit_X10_wouldFit_r2 _ (gw_g 4 rfl)) (gw_c (gw_X10_wouldFit_X10_wouldFit_r2 _ (gw_g 5 rfl)) (gw_c (gw_X10_wouldFit_X10_wouldFit_r2 _ (gw_g 6 rfl)) (gw_c (gw_X10_wouldFit_X10_wouldFit_r2 _ (gw_g 7 rfl)) (gw_c (gw_X10_wouldFit_X10_wouldFit_r2 _ (gw_g 8 rfl)) (gw_c (gw_X10_wouldFit_X10_wouldFit_r2 _ (gw_g 9 rfl)) (gw_c (gw_X10_wouldFit_X10_wouldFit_r2 _ (gw_g 10 rfl)) (gw_c (gw_X10_wouldFit_X10_wouldFit_r1 _ (gw_g 4 rfl)) (gw_c (gw_X10_wouldFit_X10_wouldFit_r2 _ (gw_g 11 rfl)) (gw_c (gw_X10_wouldFit_X10_wouldFit_r2 _ (gw_g 12 rfl)) (gw_c (gw_X10_wouldFit_X10_wouldFit_r2 _ (gw_g 13 rfl)) (gw_c (gw_X10_wouldFit_X10_wouldFit_r2 _ (gw_g 14 rfl)) (gw_c (gw_X10_wouldFit_X10_wouldFit_r2 _ (gw_g 15 rfl)) (gw_c (gw_X10_wouldFit_X10_wouldFit_r2 _ (gw_g 16 rfl)) (gw_c (gw_X10_wouldFit_X10_wouldFit_r2 _ (gw_g 17 rfl)) (gw_c (gw_X10_wouldFit_X10_wouldFit_r2 _ (gw_g 18 rfl)) (gw_c (gw_X10_wouldFit_X10_wouldFit_r2 _ (gw_g 19 rfl)) (gw_c (gw_X10_wouldFit_X10_wouldFit_r2 _ (gw_g 20 rfl)) (gw_c (gw_X10_wouldFit_X10_wouldFit_r1 _ (gw_g 13 rfl)) gw_n))))))))))))))))))) gw_X10_wouldFit_X100)) (by decide +kernel)
set_option maxRecDepth 20000 in
theorem gX10_wouldFit_X10_places : GoodIn wsX10_wouldFit (wsV RX10 203 RX10 yX10_places wsX10_places) := goodIn_app (goodIn_sub (gw_c (gw_X10_wouldFit_X10_wouldFit_r2 _ (gw_g 0 rfl)) (gw_c (gw_X10_wouldFit_X10_wouldFit_r2 _ (gw_g 1 rfl)) (gw_c (gw_X10_wouldFit_X10_wouldFit_r2 _ (gw_g 2 rfl)) (gw_c (gw_X10_wouldFit_X10_wouldFit_r1 _ (gw_g 4 rfl)) gw_n)))) (by decide +kernel)) ggX10_wouldFit_X10_places
theorem dX10_wouldFit_0 : decode cX10_wouldFit 0 = .ok (.aload_n 0, 1) := by decide +kernel
theorem dX10_wouldFit_1 : decode cX10_wouldFit 1 = .ok (.iconst 0, 1) := by decide +kernel
theorem dX10_wouldFit_2 : decode cX10_wouldFit 2 = .ok (.putfield 139, 3) := by decide +kernel
theorem dX10_wouldFit_5 : decode cX10_wouldFit 5 = .ok (.aload_n 0, 1) := by decide +kernel
theorem dX10_wouldFit_6 : decode cX10_wouldFit 6 = .ok (.iload_n 1, 1) := by decide +kernel
theorem dX10_wouldFit_7 : decode cX10_wouldFit 7 = .ok (.invokevirtual 158, 3) := by decide +kernel
theorem dX10_wouldFit_10 : decode cX10_wouldFit 10 = .ok (.ifCond .eq 45, 3) := by decide +kernel
theorem dX10_wouldFit_13 : decode cX10_wouldFit 13 = .ok (.aload_n 0, 1) := by decide +kernel
theorem dX10_wouldFit_14 : decode cX10_wouldFit 14 = .ok (.iload_n 2, 1) := by decide +kernel
theorem dX10_wouldFit_15 : decode cX10_wouldFit 15 = .ok (.invokevirtual 166, 3) := by decide +kernel
theorem dX10_wouldFit_18 : decode cX10_wouldFit 18 = .ok (.ifCond .eq 37, 3) := by decide +kernel
theorem dX10_wouldFit_21 : decode cX10_wouldFit 21 = .ok (.aload_n 0, 1) := by decide +kernel
theorem dX10_wouldFit_22 : decode cX10_wouldFit 22 = .ok (.iload_n 2, 1) := by decide +kernel
theorem dX10_wouldFit_23 : decode cX10_wouldFit 23 = .ok (.invokevirtual 200, 3) := by decide +kernel
theorem dX10_wouldFit_26 : decode cX10_wouldFit 26 = .ok (.ifCond .ne 29, 3) := by decide +kernel
theorem dX10_wouldFit_29 : decode cX10_wouldFit 29 = .ok (.aload_n 0, 1) := by decide +kernel
theorem dX10_wouldFit_30 : decode cX10_wouldFit 30 = .ok (.iload_n 3, 1) := by decide +kernel
theorem dX10_wouldFit_31 : decode cX10_wouldFit 31 = .ok (.iload 4, 2) := by decide +kernel
theorem dX10_wouldFit_33 : decode cX10_wouldFit 33 = .ok (.invokevirtual 169, 3) := by decide +kernel
theorem dX10_wouldFit_36 : decode cX10_wouldFit 36 = .ok (.ifCond .eq 19, 3) := by decide +kernel
theorem dX10_wouldFit_39 : decode cX10_wouldFit 39 = .ok (.aload_n 0, 1) := by decide +kernel
theorem dX10_wouldFit_40 : decode cX10_wouldFit 40 = .ok (.iload_n 1, 1) := by decide +kernel
theorem dX10_wouldFit_41 : decode cX10_wouldFit 41 = .ok (.iload_n 2, 1) := by decide +kernel
theorem dX10_wouldFit_42 : decode cX10_wouldFit 42 = .ok (.iload_n 3, 1) := by decide +kernel
theorem dX10_wouldFit_43 : decode cX10_wouldFit 43 = .ok (.iload 4, 2) := by decide +kernel
theorem dX10_wouldFit_45 : decode cX10_wouldFit 45 = .ok (.invokevirtual 203, 3) := by decide +kernel
theorem dX10_wouldFit_48 : decode cX10_wouldFit 48 = .ok (.ifCond .eq 7, 3) := by decide +kernel
theorem dX10_wouldFit_51 : decode cX10_wouldFit 51 = .ok (.iconst 1, 1) := by decide +kernel
theorem dX10_wouldFit_52 : decode cX10_wouldFit 52 = .ok (.goto 4, 3) := by decide +kernel
theorem dX10_wouldFit_55 : decode cX10_wouldFit 55 = .ok (.iconst 0, 1) := by decide +kernel
theorem dX10_wouldFit_56 : decode cX10_wouldFit 56 = .ok (.ireturn, 1) := by decide +kernel
set_option maxRecDepth 20000 in
theorem ggX10_ticket_X10_in : GoodIn wsX10_ticket wsX10_in := goodIn_sub (gw_c (gw_t (gw_l (gw_g 11 rfl))) gw_n) (by decide +kernel)
set_option maxRecDepth 20000 in
theorem gX10_ticket_X10_in : GoodIn wsX10_ticket (va_wsS RX10 146 yX10_in wsX10_in) := goodIn_app (goodIn_sub (gw_c (gw_t (gw_l (gw_g 8 rfl))) (gw_c (gw_t (gw_l (gw_g 9 rfl))) (gw_c (gw_t (gw_l (gw_g 10 rfl))) gw_n))) (by decide +kernel)) ggX10_ticket_X10_in
theorem dX10_ticket_0 : decode cX10_ticket 0 = .ok (.aload_n 0, 1) := by decide +kernel
theorem dX10_ticket_1 : decode cX10_ticket 1 = .ok (.iconst 0, 1) := by decide +kernel
theorem dX10_ticket_2 : decode cX10_ticket 2 = .ok (.putfield 139, 3) := by decide +kernel
theorem dX10_ticket_5 : decode cX10_ticket 5 = .ok (.iload_n 1, 1) := by decide +kernel
theorem dX10_ticket_6 : decode cX10_ticket 6 = .ok (.iconst 0, 1) := by decide +kernel
theorem dX10_ticket_7 : decode cX10_ticket 7 = .ok (.aload_n 0, 1) := by decide +kernel
theorem dX10_ticket_8 : decode cX10_ticket 8 = .ok (.getfield 38, 3) := by decide +kernel
theorem dX10_ticket_11 : decode cX10_ticket 11 = .ok (.iconst 0, 1) := by decide +kernel
theorem dX10_ticket_12 : decode cX10_ticket 12 = .ok (.iaload, 1) := by decide +kernel
theorem dX10_ticket_13 : decode cX10_ticket 13 = .ok (.iconst 1, 1) := by decide +kernel
theorem dX10_ticket_14 : decode cX10_ticket 14 = .ok (.isub, 1) := by decide +kernel
theorem dX10_ticket_15 : decode cX10_ticket 15 = .ok (.invokestatic 146, 3) := by decide +kernel
theorem dX10_ticket_18 : decode cX10_ticket 18 = .ok (.ifCond .ne 5, 3) := by decide +kernel
theorem dX10_ticket_21 : decode cX10_ticket 21 = .ok (.iconst (-1), 1) := by decide +kernel
theorem dX10_ticket_22 : decode cX10_ticket 22 = .ok (.ireturn, 1) := by decide +kernel
theorem dX10_ticket_23 : decode cX10_ticket 23 = .ok (.iload_n 2, 1) := by decide +kernel
theorem dX10_ticket_24 : decode cX10_ticket 24 = .ok (.tableswitch 82 0 5 #[40, 47, 54, 61, 68, 75], 40) := by decide +kernel
