theorem dX10_contract_130 : decode cX10_contract 130 = .ok (.aload_n 0, 1) := by decide +kernel
theorem dX10_contract_131 : decode cX10_contract 131 = .ok (.getfield 117, 3) := by decide +kernel
theorem dX10_contract_134 : decode cX10_contract 134 = .ok (.iload_n 2, 1) := by decide +kernel
theorem dX10_contract_135 : decode cX10_contract 135 = .ok (.iaload, 1) := by decide +kernel
theorem dX10_contract_136 : decode cX10_contract 136 = .ok (.iastore, 1) := by decide +kernel
theorem dX10_contract_137 : decode cX10_contract 137 = .ok (.aload_n 0, 1) := by decide +kernel
theorem dX10_contract_138 : decode cX10_contract 138 = .ok (.getfield 101, 3) := by decide +kernel
theorem dX10_contract_141 : decode cX10_contract 141 = .ok (.iload_n 2, 1) := by decide +kernel
theorem dX10_contract_142 : decode cX10_contract 142 = .ok (.aload_n 0, 1) := by decide +kernel
theorem dX10_contract_143 : decode cX10_contract 143 = .ok (.getfield 129, 3) := by decide +kernel
theorem dX10_contract_146 : decode cX10_contract 146 = .ok (.iload_n 2, 1) := by decide +kernel
theorem dX10_contract_147 : decode cX10_contract 147 = .ok (.iaload, 1) := by decide +kernel
theorem dX10_contract_148 : decode cX10_contract 148 = .ok (.iastore, 1) := by decide +kernel
theorem dX10_contract_149 : decode cX10_contract 149 = .ok (.aload_n 0, 1) := by decide +kernel
theorem dX10_contract_150 : decode cX10_contract 150 = .ok (.getfield 104, 3) := by decide +kernel
theorem dX10_contract_153 : decode cX10_contract 153 = .ok (.iload_n 2, 1) := by decide +kernel
theorem dX10_contract_154 : decode cX10_contract 154 = .ok (.aload_n 0, 1) := by decide +kernel
theorem dX10_contract_155 : decode cX10_contract 155 = .ok (.getfield 132, 3) := by decide +kernel
theorem dX10_contract_158 : decode cX10_contract 158 = .ok (.iload_n 2, 1) := by decide +kernel
theorem dX10_contract_159 : decode cX10_contract 159 = .ok (.iaload, 1) := by decide +kernel
theorem dX10_contract_160 : decode cX10_contract 160 = .ok (.iastore, 1) := by decide +kernel
theorem dX10_contract_161 : decode cX10_contract 161 = .ok (.iconst 4, 1) := by decide +kernel
theorem dX10_contract_162 : decode cX10_contract 162 = .ok (.iload_n 2, 1) := by decide +kernel
theorem dX10_contract_163 : decode cX10_contract 163 = .ok (.imul, 1) := by decide +kernel
theorem dX10_contract_164 : decode cX10_contract 164 = .ok (.istore_n 3, 1) := by decide +kernel
theorem dX10_contract_165 : decode cX10_contract 165 = .ok (.iload_n 3, 1) := by decide +kernel
theorem dX10_contract_166 : decode cX10_contract 166 = .ok (.iconst 4, 1) := by decide +kernel
theorem dX10_contract_167 : decode cX10_contract 167 = .ok (.iload_n 2, 1) := by decide +kernel
theorem dX10_contract_168 : decode cX10_contract 168 = .ok (.imul, 1) := by decide +kernel
theorem dX10_contract_169 : decode cX10_contract 169 = .ok (.aload_n 0, 1) := by decide +kernel
theorem dX10_contract_170 : decode cX10_contract 170 = .ok (.getfield 117, 3) := by decide +kernel
theorem dX10_contract_173 : decode cX10_contract 173 = .ok (.iload_n 2, 1) := by decide +kernel
theorem dX10_contract_174 : decode cX10_contract 174 = .ok (.iaload, 1) := by decide +kernel
theorem dX10_contract_175 : decode cX10_contract 175 = .ok (.iadd, 1) := by decide +kernel
theorem dX10_contract_176 : decode cX10_contract 176 = .ok (.if_icmp .ge 45, 3) := by decide +kernel
theorem dX10_contract_179 : decode cX10_contract 179 = .ok (.aload_n 0, 1) := by decide +kernel
theorem dX10_contract_180 : decode cX10_contract 180 = .ok (.getfield 92, 3) := by decide +kernel
theorem dX10_contract_183 : decode cX10_contract 183 = .ok (.iload_n 3, 1) := by decide +kernel
theorem dX10_contract_184 : decode cX10_contract 184 = .ok (.aload_n 0, 1) := by decide +kernel
theorem dX10_contract_185 : decode cX10_contract 185 = .ok (.getfield 120, 3) := by decide +kernel
theorem dX10_contract_188 : decode cX10_contract 188 = .ok (.iload_n 3, 1) := by decide +kernel
theorem dX10_contract_189 : decode cX10_contract 189 = .ok (.iaload, 1) := by decide +kernel
theorem dX10_contract_190 : decode cX10_contract 190 = .ok (.iastore, 1) := by decide +kernel
theorem dX10_contract_191 : decode cX10_contract 191 = .ok (.aload_n 0, 1) := by decide +kernel
theorem dX10_contract_192 : decode cX10_contract 192 = .ok (.getfield 95, 3) := by decide +kernel
theorem dX10_contract_195 : decode cX10_contract 195 = .ok (.iload_n 3, 1) := by decide +kernel
theorem dX10_contract_196 : decode cX10_contract 196 = .ok (.aload_n 0, 1) := by decide +kernel
theorem dX10_contract_197 : decode cX10_contract 197 = .ok (.getfield 123, 3) := by decide +kernel
theorem dX10_contract_200 : decode cX10_contract 200 = .ok (.iload_n 3, 1) := by decide +kernel
theorem dX10_contract_201 : decode cX10_contract 201 = .ok (.iaload, 1) := by decide +kernel
theorem dX10_contract_202 : decode cX10_contract 202 = .ok (.iastore, 1) := by decide +kernel
theorem dX10_contract_203 : decode cX10_contract 203 = .ok (.aload_n 0, 1) := by decide +kernel
theorem dX10_contract_204 : decode cX10_contract 204 = .ok (.getfield 98, 3) := by decide +kernel
theorem dX10_contract_207 : decode cX10_contract 207 = .ok (.iload_n 3, 1) := by decide +kernel
theorem dX10_contract_208 : decode cX10_contract 208 = .ok (.aload_n 0, 1) := by decide +kernel
theorem dX10_contract_209 : decode cX10_contract 209 = .ok (.getfield 126, 3) := by decide +kernel
theorem dX10_contract_212 : decode cX10_contract 212 = .ok (.iload_n 3, 1) := by decide +kernel
theorem dX10_contract_213 : decode cX10_contract 213 = .ok (.iaload, 1) := by decide +kernel
theorem dX10_contract_214 : decode cX10_contract 214 = .ok (.iastore, 1) := by decide +kernel
theorem dX10_contract_215 : decode cX10_contract 215 = .ok (.iinc 3 1, 3) := by decide +kernel
theorem dX10_contract_218 : decode cX10_contract 218 = .ok (.goto (-53), 3) := by decide +kernel
theorem dX10_contract_221 : decode cX10_contract 221 = .ok (.iinc 2 1, 3) := by decide +kernel
theorem dX10_contract_224 : decode cX10_contract 224 = .ok (.goto (-107), 3) := by decide +kernel
theorem dX10_contract_227 : decode cX10_contract 227 = .ok (.aload_n 0, 1) := by decide +kernel
theorem dX10_contract_228 : decode cX10_contract 228 = .ok (.getfield 254, 3) := by decide +kernel
theorem dX10_contract_231 : decode cX10_contract 231 = .ok (.ireturn, 1) := by decide +kernel
theorem dX10_fault_0 : decode cX10_fault 0 = .ok (.aload_n 0, 1) := by decide +kernel
theorem dX10_fault_1 : decode cX10_fault 1 = .ok (.iconst 0, 1) := by decide +kernel
theorem dX10_fault_2 : decode cX10_fault 2 = .ok (.putfield 139, 3) := by decide +kernel
theorem dX10_fault_5 : decode cX10_fault 5 = .ok (.iload_n 1, 1) := by decide +kernel
theorem dX10_fault_6 : decode cX10_fault 6 = .ok (.ifCond .ne 10, 3) := by decide +kernel
theorem dX10_fault_9 : decode cX10_fault 9 = .ok (.aload_n 0, 1) := by decide +kernel
theorem dX10_fault_10 : decode cX10_fault 10 = .ok (.getfield 238, 3) := by decide +kernel
theorem dX10_fault_13 : decode cX10_fault 13 = .ok (.goto 16, 3) := by decide +kernel
theorem dX10_fault_16 : decode cX10_fault 16 = .ok (.iload_n 1, 1) := by decide +kernel
theorem dX10_fault_17 : decode cX10_fault 17 = .ok (.iconst 1, 1) := by decide +kernel
theorem dX10_fault_18 : decode cX10_fault 18 = .ok (.if_icmp .ne 10, 3) := by decide +kernel
theorem dX10_fault_21 : decode cX10_fault 21 = .ok (.aload_n 0, 1) := by decide +kernel
theorem dX10_fault_22 : decode cX10_fault 22 = .ok (.getfield 113, 3) := by decide +kernel
theorem dX10_fault_25 : decode cX10_fault 25 = .ok (.goto 4, 3) := by decide +kernel
theorem dX10_fault_28 : decode cX10_fault 28 = .ok (.iconst (-1), 1) := by decide +kernel
theorem dX10_fault_29 : decode cX10_fault 29 = .ok (.ireturn, 1) := by decide +kernel
set_option maxRecDepth 20000 in
theorem ggX10_asked_X10_leaves : GoodIn wsX10_asked wsX10_leaves := goodIn_sub (gw_c (gw_t (gw_l (gw_g 5 rfl))) (gw_a (gw_c (gw_t (gw_l (gw_g 6 rfl))) (gw_c (gw_t (gw_l (gw_g 7 rfl))) (gw_c (gw_t (gw_l (gw_g 8 rfl))) (gw_c (gw_t (gw_l (gw_g 4 rfl))) (gw_c (gw_t (gw_l (gw_g 9 rfl))) (gw_c (gw_t (gw_l (gw_g 10 rfl))) gw_n)))))) gw_X10_asked_X100)) (by decide +kernel)
set_option maxRecDepth 20000 in
theorem gX10_asked_X10_leaves : GoodIn wsX10_asked (wsV RX10 173 RX10 yX10_leaves wsX10_leaves) := goodIn_app (goodIn_sub (gw_c (gw_t (gw_l (gw_g 1 rfl))) (gw_c (gw_t (gw_l (gw_g 2 rfl))) (gw_c (gw_t (gw_l (gw_g 3 rfl))) (gw_c (gw_t (gw_l (gw_g 4 rfl))) gw_n)))) (by decide +kernel)) ggX10_asked_X10_leaves
set_option maxRecDepth 20000 in
theorem ggX10_asked_X10_sold : GoodIn wsX10_asked wsX10_sold := goodIn_sub (gw_c (gw_t (gw_l (gw_g 14 rfl))) (gw_a (gw_c (gw_t (gw_l (gw_g 15 rfl))) (gw_c (gw_t (gw_l (gw_g 16 rfl))) (gw_c (gw_t (gw_l (gw_g 17 rfl))) (gw_c (gw_t (gw_l (gw_g 18 rfl))) (gw_c (gw_t (gw_l (gw_g 19 rfl))) (gw_c (gw_t (gw_l (gw_g 4 rfl))) (gw_c (gw_t (gw_l (gw_g 20 rfl))) gw_n))))))) gw_X10_asked_X100)) (by decide +kernel)
set_option maxRecDepth 20000 in
theorem gX10_asked_X10_sold : GoodIn wsX10_asked (wsV RX10 206 RX10 yX10_sold wsX10_sold) := goodIn_app (goodIn_sub (gw_c (gw_t (gw_l (gw_g 11 rfl))) (gw_c (gw_t (gw_l (gw_g 12 rfl))) (gw_c (gw_t (gw_l (gw_g 13 rfl))) (gw_c (gw_t (gw_l (gw_g 4 rfl))) gw_n)))) (by decide +kernel)) ggX10_asked_X10_sold
theorem dX10_asked_0 : decode cX10_asked 0 = .ok (.aload_n 0, 1) := by decide +kernel
theorem dX10_asked_1 : decode cX10_asked 1 = .ok (.iload_n 1, 1) := by decide +kernel
theorem dX10_asked_2 : decode cX10_asked 2 = .ok (.iload_n 2, 1) := by decide +kernel
theorem dX10_asked_3 : decode cX10_asked 3 = .ok (.invokevirtual 173, 3) := by decide +kernel
theorem dX10_asked_6 : decode cX10_asked 6 = .ok (.bipush 24, 2) := by decide +kernel
theorem dX10_asked_8 : decode cX10_asked 8 = .ok (.irem, 1) := by decide +kernel
theorem dX10_asked_9 : decode cX10_asked 9 = .ok (.istore 4, 2) := by decide +kernel
theorem dX10_asked_11 : decode cX10_asked 11 = .ok (.iload_n 3, 1) := by decide +kernel
theorem dX10_asked_12 : decode cX10_asked 12 = .ok (.tableswitch 51 0 3 #[32, 34, 41, 44], 32) := by decide +kernel
theorem dX10_asked_44 : decode cX10_asked 44 = .ok (.iload_n 2, 1) := by decide +kernel
theorem dX10_asked_45 : decode cX10_asked 45 = .ok (.ireturn, 1) := by decide +kernel
theorem dX10_asked_46 : decode cX10_asked 46 = .ok (.aload_n 0, 1) := by decide +kernel
theorem dX10_asked_47 : decode cX10_asked 47 = .ok (.getfield 17, 3) := by decide +kernel
theorem dX10_asked_50 : decode cX10_asked 50 = .ok (.iload_n 2, 1) := by decide +kernel
theorem dX10_asked_51 : decode cX10_asked 51 = .ok (.iaload, 1) := by decide +kernel
theorem dX10_asked_52 : decode cX10_asked 52 = .ok (.ireturn, 1) := by decide +kernel
theorem dX10_asked_53 : decode cX10_asked 53 = .ok (.iload 4, 2) := by decide +kernel
theorem dX10_asked_55 : decode cX10_asked 55 = .ok (.ireturn, 1) := by decide +kernel
theorem dX10_asked_56 : decode cX10_asked 56 = .ok (.aload_n 0, 1) := by decide +kernel
theorem dX10_asked_57 : decode cX10_asked 57 = .ok (.iload_n 1, 1) := by decide +kernel
theorem dX10_asked_58 : decode cX10_asked 58 = .ok (.iload_n 2, 1) := by decide +kernel
theorem dX10_asked_59 : decode cX10_asked 59 = .ok (.invokevirtual 206, 3) := by decide +kernel
theorem dX10_asked_62 : decode cX10_asked 62 = .ok (.ireturn, 1) := by decide +kernel
theorem dX10_asked_63 : decode cX10_asked 63 = .ok (.iload 4, 2) := by decide +kernel
theorem dX10_asked_65 : decode cX10_asked 65 = .ok (.bipush 22, 2) := by decide +kernel
theorem dX10_asked_67 : decode cX10_asked 67 = .ok (.if_icmp .ge 10, 3) := by decide +kernel
theorem dX10_asked_70 : decode cX10_asked 70 = .ok (.iload 4, 2) := by decide +kernel
theorem dX10_asked_72 : decode cX10_asked 72 = .ok (.bipush 6, 2) := by decide +kernel
theorem dX10_asked_74 : decode cX10_asked 74 = .ok (.if_icmp .ge 7, 3) := by decide +kernel
theorem dX10_asked_77 : decode cX10_asked 77 = .ok (.iconst 1, 1) := by decide +kernel
theorem dX10_asked_78 : decode cX10_asked 78 = .ok (.goto 4, 3) := by decide +kernel
theorem dX10_asked_81 : decode cX10_asked 81 = .ok (.iconst 0, 1) := by decide +kernel
theorem dX10_asked_82 : decode cX10_asked 82 = .ok (.ireturn, 1) := by decide +kernel
set_option maxRecDepth 20000 in
theorem ggX10_holds_X10_asked : GoodIn wsX10_holds wsX10_asked := goodIn_sub (gw_c (gw_X10_holds_X10_holds_r1 _ (gw_g 8 rfl)) (gw_a (gw_c (gw_X10_holds_X10_holds_r1 _ (gw_g 9 rfl)) (gw_c (gw_X10_holds_X10_holds_r1 _ (gw_g 10 rfl)) (gw_c (gw_X10_holds_X10_holds_r1 _ (gw_g 11 rfl)) (gw_c (gw_X10_holds_X10_holds_r1 _ (gw_g 12 rfl)) (gw_c (gw_X10_holds_X10_holds_r1 _ (gw_g 7 rfl)) (gw_c (gw_X10_holds_X10_holds_r1 _ (gw_g 13 rfl)) (gw_c (gw_X10_holds_X10_holds_r1 _ (gw_g 14 rfl)) (gw_c (gw_X10_holds_X10_holds_r1 _ (gw_g 15 rfl)) (gw_c (gw_X10_holds_X10_holds_r1 _ (gw_g 16 rfl)) (gw_c (gw_X10_holds_X10_holds_r1 _ (gw_g 17 rfl)) (gw_c (gw_X10_holds_X10_holds_r1 _ (gw_g 18 rfl)) (gw_c (gw_X10_holds_X10_holds_r1 _ (gw_g 19 rfl)) (gw_c (gw_X10_holds_X10_holds_r1 _ (gw_g 20 rfl)) (gw_c (gw_X10_holds_X10_holds_r1 _ (gw_g 21 rfl)) (gw_c (gw_X10_holds_X10_holds_r1 _ (gw_g 22 rfl)) (gw_c (gw_X10_holds_X10_holds_r1 _ (gw_g 23 rfl)) (gw_c (gw_X10_holds_X10_holds_r2 _ (gw_g 0 rfl)) (gw_c (gw_X10_holds_X10_holds_r2 _ (gw_g 1 rfl)) (gw_c (gw_X10_holds_X10_holds_r2 _ (gw_g 2 rfl)) (gw_c (gw_X10_holds_X10_holds_r2 _ (gw_g 3 rfl)) (gw_c (gw_X10_holds_X10_holds_r2 _ (gw_g 4 rfl)) gw_n))))))))))))))))))))) gw_X10_holds_X100)) (by decide +kernel)
set_option maxRecDepth 20000 in
theorem gX10_holds_X10_asked : GoodIn wsX10_holds (wsV RX10 297 RX10 yX10_asked wsX10_asked) := goodIn_app (goodIn_sub (gw_c (gw_X10_holds_X10_holds_r1 _ (gw_g 4 rfl)) (gw_c (gw_X10_holds_X10_holds_r1 _ (gw_g 5 rfl)) (gw_c (gw_X10_holds_X10_holds_r1 _ (gw_g 6 rfl)) (gw_c (gw_X10_holds_X10_holds_r1 _ (gw_g 7 rfl)) gw_n)))) (by decide +kernel)) ggX10_holds_X10_asked
theorem dX10_holds_0 : decode cX10_holds 0 = .ok (.iconst 4, 1) := by decide +kernel
theorem dX10_holds_1 : decode cX10_holds 1 = .ok (.iload_n 1, 1) := by decide +kernel
theorem dX10_holds_2 : decode cX10_holds 2 = .ok (.imul, 1) := by decide +kernel
theorem dX10_holds_3 : decode cX10_holds 3 = .ok (.istore 4, 2) := by decide +kernel
theorem dX10_holds_5 : decode cX10_holds 5 = .ok (.iload 4, 2) := by decide +kernel
theorem dX10_holds_7 : decode cX10_holds 7 = .ok (.iconst 4, 1) := by decide +kernel
theorem dX10_holds_8 : decode cX10_holds 8 = .ok (.iload_n 1, 1) := by decide +kernel
theorem dX10_holds_9 : decode cX10_holds 9 = .ok (.imul, 1) := by decide +kernel
theorem dX10_holds_10 : decode cX10_holds 10 = .ok (.aload_n 0, 1) := by decide +kernel
theorem dX10_holds_11 : decode cX10_holds 11 = .ok (.getfield 89, 3) := by decide +kernel
theorem dX10_holds_14 : decode cX10_holds 14 = .ok (.iload_n 1, 1) := by decide +kernel
theorem dX10_holds_15 : decode cX10_holds 15 = .ok (.iaload, 1) := by decide +kernel
theorem dX10_holds_16 : decode cX10_holds 16 = .ok (.iadd, 1) := by decide +kernel
theorem dX10_holds_17 : decode cX10_holds 17 = .ok (.if_icmp .ge 134, 3) := by decide +kernel
theorem dX10_holds_20 : decode cX10_holds 20 = .ok (.aload_n 0, 1) := by decide +kernel
theorem dX10_holds_21 : decode cX10_holds 21 = .ok (.iload_n 2, 1) := by decide +kernel
theorem dX10_holds_22 : decode cX10_holds 22 = .ok (.iload_n 3, 1) := by decide +kernel
theorem dX10_holds_23 : decode cX10_holds 23 = .ok (.aload_n 0, 1) := by decide +kernel
theorem dX10_holds_24 : decode cX10_holds 24 = .ok (.getfield 92, 3) := by decide +kernel
theorem dX10_holds_27 : decode cX10_holds 27 = .ok (.iload 4, 2) := by decide +kernel
theorem dX10_holds_29 : decode cX10_holds 29 = .ok (.iaload, 1) := by decide +kernel
theorem dX10_holds_30 : decode cX10_holds 30 = .ok (.bipush 7, 2) := by decide +kernel
theorem dX10_holds_32 : decode cX10_holds 32 = .ok (.iand, 1) := by decide +kernel
theorem dX10_holds_33 : decode cX10_holds 33 = .ok (.invokevirtual 297, 3) := by decide +kernel
theorem dX10_holds_36 : decode cX10_holds 36 = .ok (.istore 5, 2) := by decide +kernel
theorem dX10_holds_38 : decode cX10_holds 38 = .ok (.aload_n 0, 1) := by decide +kernel
theorem dX10_holds_39 : decode cX10_holds 39 = .ok (.getfield 95, 3) := by decide +kernel
theorem dX10_holds_42 : decode cX10_holds 42 = .ok (.iload 4, 2) := by decide +kernel
theorem dX10_holds_44 : decode cX10_holds 44 = .ok (.iaload, 1) := by decide +kernel
theorem dX10_holds_45 : decode cX10_holds 45 = .ok (.bipush 60, 2) := by decide +kernel
theorem dX10_holds_47 : decode cX10_holds 47 = .ok (.if_icmp .ne 23, 3) := by decide +kernel
theorem dX10_holds_50 : decode cX10_holds 50 = .ok (.iload 5, 2) := by decide +kernel
theorem dX10_holds_52 : decode cX10_holds 52 = .ok (.aload_n 0, 1) := by decide +kernel
theorem dX10_holds_53 : decode cX10_holds 53 = .ok (.getfield 98, 3) := by decide +kernel
theorem dX10_holds_56 : decode cX10_holds 56 = .ok (.iload 4, 2) := by decide +kernel
theorem dX10_holds_58 : decode cX10_holds 58 = .ok (.iaload, 1) := by decide +kernel
theorem dX10_holds_59 : decode cX10_holds 59 = .ok (.if_icmp .ge 7, 3) := by decide +kernel
theorem dX10_holds_62 : decode cX10_holds 62 = .ok (.iconst 1, 1) := by decide +kernel
theorem dX10_holds_63 : decode cX10_holds 63 = .ok (.goto 56, 3) := by decide +kernel
theorem dX10_holds_66 : decode cX10_holds 66 = .ok (.iconst 0, 1) := by decide +kernel
theorem dX10_holds_67 : decode cX10_holds 67 = .ok (.goto 52, 3) := by decide +kernel
theorem dX10_holds_70 : decode cX10_holds 70 = .ok (.aload_n 0, 1) := by decide +kernel
theorem dX10_holds_71 : decode cX10_holds 71 = .ok (.getfield 95, 3) := by decide +kernel
theorem dX10_holds_74 : decode cX10_holds 74 = .ok (.iload 4, 2) := by decide +kernel
theorem dX10_holds_76 : decode cX10_holds 76 = .ok (.iaload, 1) := by decide +kernel
theorem dX10_holds_77 : decode cX10_holds 77 = .ok (.bipush 62, 2) := by decide +kernel
theorem dX10_holds_79 : decode cX10_holds 79 = .ok (.if_icmp .ne 23, 3) := by decide +kernel
theorem dX10_holds_82 : decode cX10_holds 82 = .ok (.iload 5, 2) := by decide +kernel
theorem dX10_holds_84 : decode cX10_holds 84 = .ok (.aload_n 0, 1) := by decide +kernel
theorem dX10_holds_85 : decode cX10_holds 85 = .ok (.getfield 98, 3) := by decide +kernel
theorem dX10_holds_88 : decode cX10_holds 88 = .ok (.iload 4, 2) := by decide +kernel
theorem dX10_holds_90 : decode cX10_holds 90 = .ok (.iaload, 1) := by decide +kernel
theorem dX10_holds_91 : decode cX10_holds 91 = .ok (.if_icmp .le 7, 3) := by decide +kernel
theorem dX10_holds_94 : decode cX10_holds 94 = .ok (.iconst 1, 1) := by decide +kernel
theorem dX10_holds_95 : decode cX10_holds 95 = .ok (.goto 24, 3) := by decide +kernel
theorem dX10_holds_98 : decode cX10_holds 98 = .ok (.iconst 0, 1) := by decide +kernel
theorem dX10_holds_99 : decode cX10_holds 99 = .ok (.goto 20, 3) := by decide +kernel
theorem dX10_holds_102 : decode cX10_holds 102 = .ok (.iload 5, 2) := by decide +kernel
theorem dX10_holds_104 : decode cX10_holds 104 = .ok (.aload_n 0, 1) := by decide +kernel
theorem dX10_holds_105 : decode cX10_holds 105 = .ok (.getfield 98, 3) := by decide +kernel
theorem dX10_holds_108 : decode cX10_holds 108 = .ok (.iload 4, 2) := by decide +kernel
theorem dX10_holds_110 : decode cX10_holds 110 = .ok (.iaload, 1) := by decide +kernel
theorem dX10_holds_111 : decode cX10_holds 111 = .ok (.if_icmp .ne 7, 3) := by decide +kernel
theorem dX10_holds_114 : decode cX10_holds 114 = .ok (.iconst 1, 1) := by decide +kernel
theorem dX10_holds_115 : decode cX10_holds 115 = .ok (.goto 4, 3) := by decide +kernel
theorem dX10_holds_118 : decode cX10_holds 118 = .ok (.iconst 0, 1) := by decide +kernel
theorem dX10_holds_119 : decode cX10_holds 119 = .ok (.istore 6, 2) := by decide +kernel
theorem dX10_holds_121 : decode cX10_holds 121 = .ok (.iload 6, 2) := by decide +kernel
theorem dX10_holds_123 : decode cX10_holds 123 = .ok (.aload_n 0, 1) := by decide +kernel
theorem dX10_holds_124 : decode cX10_holds 124 = .ok (.getfield 92, 3) := by decide +kernel
theorem dX10_holds_127 : decode cX10_holds 127 = .ok (.iload 4, 2) := by decide +kernel
theorem dX10_holds_129 : decode cX10_holds 129 = .ok (.iaload, 1) := by decide +kernel
theorem dX10_holds_130 : decode cX10_holds 130 = .ok (.bipush 7, 2) := by decide +kernel
theorem dX10_holds_132 : decode cX10_holds 132 = .ok (.if_icmp .le 7, 3) := by decide +kernel
theorem dX10_holds_135 : decode cX10_holds 135 = .ok (.iconst 1, 1) := by decide +kernel
theorem dX10_holds_136 : decode cX10_holds 136 = .ok (.goto 4, 3) := by decide +kernel
theorem dX10_holds_139 : decode cX10_holds 139 = .ok (.iconst 0, 1) := by decide +kernel
theorem dX10_holds_140 : decode cX10_holds 140 = .ok (.if_icmp .ne 5, 3) := by decide +kernel
theorem dX10_holds_143 : decode cX10_holds 143 = .ok (.iconst 0, 1) := by decide +kernel
theorem dX10_holds_144 : decode cX10_holds 144 = .ok (.ireturn, 1) := by decide +kernel
theorem dX10_holds_145 : decode cX10_holds 145 = .ok (.iinc 4 1, 3) := by decide +kernel
theorem dX10_holds_148 : decode cX10_holds 148 = .ok (.goto (-143), 3) := by decide +kernel
theorem dX10_holds_151 : decode cX10_holds 151 = .ok (.iconst 1, 1) := by decide +kernel
theorem dX10_holds_152 : decode cX10_holds 152 = .ok (.ireturn, 1) := by decide +kernel
set_option maxRecDepth 20000 in
theorem ggX10_costOf_X10_holds : GoodIn wsX10_costOf wsX10_holds := goodIn_sub (gw_c (gw_X10_costOf_X10_costOf_r1 _ (gw_g 9 rfl)) (gw_a (gw_a (gw_c (gw_X10_costOf_X10_costOf_r1 _ (gw_g 10 rfl)) (gw_c (gw_X10_costOf_X10_costOf_r1 _ (gw_g 11 rfl)) (gw_c (gw_X10_costOf_X10_costOf_r1 _ (gw_g 12 rfl)) (gw_c (gw_X10_costOf_X10_costOf_r1 _ (gw_g 13 rfl)) (gw_c (gw_X10_costOf_X10_costOf_r1 _ (gw_g 14 rfl)) (gw_c (gw_X10_costOf_X10_costOf_r1 _ (gw_g 15 rfl)) (gw_c (gw_X10_costOf_X10_costOf_r1 _ (gw_g 16 rfl)) (gw_c (gw_X10_costOf_X10_costOf_r1 _ (gw_g 8 rfl)) (gw_c (gw_X10_costOf_X10_costOf_r1 _ (gw_g 17 rfl)) (gw_c (gw_X10_costOf_X10_costOf_r1 _ (gw_g 4 rfl)) (gw_c (gw_X10_costOf_X10_costOf_r1 _ (gw_g 18 rfl)) (gw_c (gw_X10_costOf_X10_costOf_r1 _ (gw_g 19 rfl)) (gw_c (gw_X10_costOf_X10_costOf_r1 _ (gw_g 20 rfl)) (gw_c (gw_X10_costOf_X10_costOf_r1 _ (gw_g 21 rfl)) (gw_c (gw_X10_costOf_X10_costOf_r1 _ (gw_g 22 rfl)) (gw_c (gw_X10_costOf_X10_costOf_r1 _ (gw_g 23 rfl)) (gw_c (gw_X10_costOf_X10_costOf_r2 _ (gw_g 0 rfl)) (gw_c (gw_X10_costOf_X10_costOf_r2 _ (gw_g 1 rfl)) (gw_c (gw_X10_costOf_X10_costOf_r2 _ (gw_g 2 rfl)) (gw_c (gw_X10_costOf_X10_costOf_r2 _ (gw_g 3 rfl)) (gw_c (gw_X10_costOf_X10_costOf_r2 _ (gw_g 4 rfl)) (gw_c (gw_X10_costOf_X10_costOf_r2 _ (gw_g 5 rfl)) (gw_c (gw_X10_costOf_X10_costOf_r2 _ (gw_g 6 rfl)) (gw_c (gw_X10_costOf_X10_costOf_r2 _ (gw_g 7 rfl)) gw_n)))))))))))))))))))))))) (gw_c (gw_X10_costOf_X10_costOf_r2 _ (gw_g 8 rfl)) (gw_c (gw_X10_costOf_X10_costOf_r2 _ (gw_g 9 rfl)) (gw_c (gw_X10_costOf_X10_costOf_r2 _ (gw_g 10 rfl)) (gw_c (gw_X10_costOf_X10_costOf_r2 _ (gw_g 11 rfl)) (gw_c (gw_X10_costOf_X10_costOf_r2 _ (gw_g 12 rfl)) gw_n)))))) gw_X10_costOf_X100)) (by decide +kernel)
set_option maxRecDepth 20000 in
theorem gX10_costOf_X10_holds : GoodIn wsX10_costOf (wsV RX10 300 RX10 yX10_holds wsX10_holds) := goodIn_app (goodIn_sub (gw_c (gw_X10_costOf_X10_costOf_r1 _ (gw_g 5 rfl)) (gw_c (gw_X10_costOf_X10_costOf_r1 _ (gw_g 6 rfl)) (gw_c (gw_X10_costOf_X10_costOf_r1 _ (gw_g 7 rfl)) (gw_c (gw_X10_costOf_X10_costOf_r1 _ (gw_g 8 rfl)) gw_n)))) (by decide +kernel)) ggX10_costOf_X10_holds
set_option maxRecDepth 20000 in
theorem ggX10_costOf_X10_sold : GoodIn wsX10_costOf wsX10_sold := goodIn_sub (gw_c (gw_X10_costOf_X10_costOf_r2 _ (gw_g 6 rfl)) (gw_a (gw_c (gw_X10_costOf_X10_costOf_r2 _ (gw_g 7 rfl)) (gw_c (gw_X10_costOf_X10_costOf_r2 _ (gw_g 8 rfl)) (gw_c (gw_X10_costOf_X10_costOf_r2 _ (gw_g 9 rfl)) (gw_c (gw_X10_costOf_X10_costOf_r2 _ (gw_g 10 rfl)) (gw_c (gw_X10_costOf_X10_costOf_r2 _ (gw_g 11 rfl)) (gw_c (gw_X10_costOf_X10_costOf_r1 _ (gw_g 8 rfl)) (gw_c (gw_X10_costOf_X10_costOf_r2 _ (gw_g 12 rfl)) gw_n))))))) gw_X10_costOf_X100)) (by decide +kernel)
set_option maxRecDepth 20000 in
theorem gX10_costOf_X10_sold : GoodIn wsX10_costOf (wsV RX10 206 RX10 yX10_sold wsX10_sold) := goodIn_app (goodIn_sub (gw_c (gw_X10_costOf_X10_costOf_r2 _ (gw_g 3 rfl)) (gw_c (gw_X10_costOf_X10_costOf_r2 _ (gw_g 4 rfl)) (gw_c (gw_X10_costOf_X10_costOf_r2 _ (gw_g 5 rfl)) (gw_c (gw_X10_costOf_X10_costOf_r1 _ (gw_g 8 rfl)) gw_n)))) (by decide +kernel)) ggX10_costOf_X10_sold
theorem dX10_costOf_0 : decode cX10_costOf 0 = .ok (.lconst 0, 1) := by decide +kernel
theorem dX10_costOf_1 : decode cX10_costOf 1 = .ok (.lstore_n 3, 1) := by decide +kernel
theorem dX10_costOf_2 : decode cX10_costOf 2 = .ok (.iconst 0, 1) := by decide +kernel
theorem dX10_costOf_3 : decode cX10_costOf 3 = .ok (.istore 5, 2) := by decide +kernel
theorem dX10_costOf_5 : decode cX10_costOf 5 = .ok (.iload 5, 2) := by decide +kernel
theorem dX10_costOf_7 : decode cX10_costOf 7 = .ok (.aload_n 0, 1) := by decide +kernel
theorem dX10_costOf_8 : decode cX10_costOf 8 = .ok (.getfield 86, 3) := by decide +kernel
theorem dX10_costOf_11 : decode cX10_costOf 11 = .ok (.iconst 0, 1) := by decide +kernel
theorem dX10_costOf_12 : decode cX10_costOf 12 = .ok (.iaload, 1) := by decide +kernel
theorem dX10_costOf_13 : decode cX10_costOf 13 = .ok (.if_icmp .ge 106, 3) := by decide +kernel
theorem dX10_costOf_16 : decode cX10_costOf 16 = .ok (.aload_n 0, 1) := by decide +kernel
theorem dX10_costOf_17 : decode cX10_costOf 17 = .ok (.iload 5, 2) := by decide +kernel
theorem dX10_costOf_19 : decode cX10_costOf 19 = .ok (.iload_n 1, 1) := by decide +kernel
theorem dX10_costOf_20 : decode cX10_costOf 20 = .ok (.iload_n 2, 1) := by decide +kernel
theorem dX10_costOf_21 : decode cX10_costOf 21 = .ok (.invokevirtual 300, 3) := by decide +kernel
theorem dX10_costOf_24 : decode cX10_costOf 24 = .ok (.ifCond .eq 89, 3) := by decide +kernel
theorem dX10_costOf_27 : decode cX10_costOf 27 = .ok (.aload_n 0, 1) := by decide +kernel
theorem dX10_costOf_28 : decode cX10_costOf 28 = .ok (.getfield 104, 3) := by decide +kernel
theorem dX10_costOf_31 : decode cX10_costOf 31 = .ok (.iload 5, 2) := by decide +kernel
theorem dX10_costOf_33 : decode cX10_costOf 33 = .ok (.iaload, 1) := by decide +kernel
theorem dX10_costOf_34 : decode cX10_costOf 34 = .ok (.istore 6, 2) := by decide +kernel
theorem dX10_costOf_36 : decode cX10_costOf 36 = .ok (.lload_n 3, 1) := by decide +kernel
theorem dX10_costOf_37 : decode cX10_costOf 37 = .ok (.aload_n 0, 1) := by decide +kernel
theorem dX10_costOf_38 : decode cX10_costOf 38 = .ok (.getfield 101, 3) := by decide +kernel
theorem dX10_costOf_41 : decode cX10_costOf 41 = .ok (.iload 5, 2) := by decide +kernel
theorem dX10_costOf_43 : decode cX10_costOf 43 = .ok (.iaload, 1) := by decide +kernel
theorem dX10_costOf_44 : decode cX10_costOf 44 = .ok (.ifCond .ne 21, 3) := by decide +kernel
theorem dX10_costOf_47 : decode cX10_costOf 47 = .ok (.ldc2_w 303, 3) := by decide +kernel
theorem dX10_costOf_50 : decode cX10_costOf 50 = .ok (.iload 6, 2) := by decide +kernel
theorem dX10_costOf_52 : decode cX10_costOf 52 = .ok (.i2l, 1) := by decide +kernel
theorem dX10_costOf_53 : decode cX10_costOf 53 = .ok (.lmul, 1) := by decide +kernel
theorem dX10_costOf_54 : decode cX10_costOf 54 = .ok (.aload_n 0, 1) := by decide +kernel
theorem dX10_costOf_55 : decode cX10_costOf 55 = .ok (.getfield 17, 3) := by decide +kernel
theorem dX10_costOf_58 : decode cX10_costOf 58 = .ok (.iload_n 2, 1) := by decide +kernel
theorem dX10_costOf_59 : decode cX10_costOf 59 = .ok (.iaload, 1) := by decide +kernel
theorem dX10_costOf_60 : decode cX10_costOf 60 = .ok (.i2l, 1) := by decide +kernel
theorem dX10_costOf_61 : decode cX10_costOf 61 = .ok (.lmul, 1) := by decide +kernel
theorem dX10_costOf_62 : decode cX10_costOf 62 = .ok (.goto 49, 3) := by decide +kernel
theorem dX10_costOf_65 : decode cX10_costOf 65 = .ok (.aload_n 0, 1) := by decide +kernel
theorem dX10_costOf_66 : decode cX10_costOf 66 = .ok (.getfield 101, 3) := by decide +kernel
theorem dX10_costOf_69 : decode cX10_costOf 69 = .ok (.iload 5, 2) := by decide +kernel
theorem dX10_costOf_71 : decode cX10_costOf 71 = .ok (.iaload, 1) := by decide +kernel
theorem dX10_costOf_72 : decode cX10_costOf 72 = .ok (.iconst 1, 1) := by decide +kernel
theorem dX10_costOf_73 : decode cX10_costOf 73 = .ok (.if_icmp .ne 17, 3) := by decide +kernel
theorem dX10_costOf_76 : decode cX10_costOf 76 = .ok (.iload 6, 2) := by decide +kernel
theorem dX10_costOf_78 : decode cX10_costOf 78 = .ok (.i2l, 1) := by decide +kernel
theorem dX10_costOf_79 : decode cX10_costOf 79 = .ok (.aload_n 0, 1) := by decide +kernel
theorem dX10_costOf_80 : decode cX10_costOf 80 = .ok (.iload_n 1, 1) := by decide +kernel
theorem dX10_costOf_81 : decode cX10_costOf 81 = .ok (.iload_n 2, 1) := by decide +kernel
theorem dX10_costOf_82 : decode cX10_costOf 82 = .ok (.invokevirtual 206, 3) := by decide +kernel
theorem dX10_costOf_85 : decode cX10_costOf 85 = .ok (.i2l, 1) := by decide +kernel
theorem dX10_costOf_86 : decode cX10_costOf 86 = .ok (.lmul, 1) := by decide +kernel
theorem dX10_costOf_87 : decode cX10_costOf 87 = .ok (.goto 24, 3) := by decide +kernel
theorem dX10_costOf_90 : decode cX10_costOf 90 = .ok (.aload_n 0, 1) := by decide +kernel
theorem dX10_costOf_91 : decode cX10_costOf 91 = .ok (.getfield 101, 3) := by decide +kernel
theorem dX10_costOf_94 : decode cX10_costOf 94 = .ok (.iload 5, 2) := by decide +kernel
theorem dX10_costOf_96 : decode cX10_costOf 96 = .ok (.iaload, 1) := by decide +kernel
theorem dX10_costOf_97 : decode cX10_costOf 97 = .ok (.iconst 2, 1) := by decide +kernel
theorem dX10_costOf_98 : decode cX10_costOf 98 = .ok (.if_icmp .ne 9, 3) := by decide +kernel
theorem dX10_costOf_101 : decode cX10_costOf 101 = .ok (.iload 6, 2) := by decide +kernel
theorem dX10_costOf_103 : decode cX10_costOf 103 = .ok (.i2l, 1) := by decide +kernel
theorem dX10_costOf_104 : decode cX10_costOf 104 = .ok (.goto 7, 3) := by decide +kernel
theorem dX10_costOf_107 : decode cX10_costOf 107 = .ok (.iload 6, 2) := by decide +kernel
theorem dX10_costOf_109 : decode cX10_costOf 109 = .ok (.ineg, 1) := by decide +kernel
theorem dX10_costOf_110 : decode cX10_costOf 110 = .ok (.i2l, 1) := by decide +kernel
theorem dX10_costOf_111 : decode cX10_costOf 111 = .ok (.ladd, 1) := by decide +kernel
theorem dX10_costOf_112 : decode cX10_costOf 112 = .ok (.lstore_n 3, 1) := by decide +kernel
theorem dX10_costOf_113 : decode cX10_costOf 113 = .ok (.iinc 5 1, 3) := by decide +kernel
theorem dX10_costOf_116 : decode cX10_costOf 116 = .ok (.goto (-111), 3) := by decide +kernel
theorem dX10_costOf_119 : decode cX10_costOf 119 = .ok (.lload_n 3, 1) := by decide +kernel
theorem dX10_costOf_120 : decode cX10_costOf 120 = .ok (.lreturn, 1) := by decide +kernel
set_option maxRecDepth 20000 in
theorem ggX10_cost_X10_isRun : GoodIn wsX10_cost wsX10_isRun := goodIn_sub (gw_c (gw_X10_cost_X10_cost_r1 _ (gw_g 6 rfl)) (gw_a (gw_c (gw_X10_cost_X10_cost_r1 _ (gw_g 7 rfl)) (gw_c (gw_X10_cost_X10_cost_r1 _ (gw_g 8 rfl)) (gw_c (gw_X10_cost_X10_cost_r1 _ (gw_g 9 rfl)) (gw_c (gw_X10_cost_X10_cost_r1 _ (gw_g 5 rfl)) (gw_c (gw_X10_cost_X10_cost_r1 _ (gw_g 10 rfl)) gw_n))))) gw_X10_cost_X100)) (by decide +kernel)
set_option maxRecDepth 20000 in
theorem gX10_cost_X10_isRun : GoodIn wsX10_cost (wsV RX10 166 RX10 yX10_isRun wsX10_isRun) := goodIn_app (goodIn_sub (gw_c (gw_X10_cost_X10_cost_r1 _ (gw_g 2 rfl)) (gw_c (gw_X10_cost_X10_cost_r1 _ (gw_g 3 rfl)) (gw_c (gw_X10_cost_X10_cost_r1 _ (gw_g 4 rfl)) (gw_c (gw_X10_cost_X10_cost_r1 _ (gw_g 5 rfl)) gw_n)))) (by decide +kernel)) ggX10_cost_X10_isRun
set_option maxRecDepth 20000 in
theorem ggX10_cost_X10_in : GoodIn wsX10_cost wsX10_in := goodIn_sub (gw_c (gw_X10_cost_X10_cost_r1 _ (gw_g 10 rfl)) gw_n) (by decide +kernel)
set_option maxRecDepth 20000 in
theorem gX10_cost_X10_in : GoodIn wsX10_cost (va_wsS RX10 146 yX10_in wsX10_in) := goodIn_app (goodIn_sub (gw_c (gw_X10_cost_X10_cost_r1 _ (gw_g 8 rfl)) (gw_c (gw_X10_cost_X10_cost_r1 _ (gw_g 9 rfl)) (gw_c (gw_X10_cost_X10_cost_r1 _ (gw_g 5 rfl)) gw_n))) (by decide +kernel)) ggX10_cost_X10_in
set_option maxRecDepth 20000 in
theorem ggX10_cost_X10_costOf : GoodIn wsX10_cost wsX10_costOf := goodIn_sub (gw_c (gw_X10_cost_X10_cost_r1 _ (gw_g 14 rfl)) (gw_a (gw_a (gw_c (gw_X10_cost_X10_cost_r1 _ (gw_g 15 rfl)) (gw_c (gw_X10_cost_X10_cost_r1 _ (gw_g 16 rfl)) (gw_c (gw_X10_cost_X10_cost_r1 _ (gw_g 17 rfl)) (gw_c (gw_X10_cost_X10_cost_r1 _ (gw_g 18 rfl)) (gw_c (gw_X10_cost_X10_cost_r1 _ (gw_g 19 rfl)) (gw_c (gw_X10_cost_X10_cost_r1 _ (gw_g 20 rfl)) (gw_c (gw_X10_cost_X10_cost_r1 _ (gw_g 21 rfl)) (gw_c (gw_X10_cost_X10_cost_r1 _ (gw_g 22 rfl)) (gw_c (gw_X10_cost_X10_cost_r1 _ (gw_g 5 rfl)) (gw_c (gw_X10_cost_X10_cost_r1 _ (gw_g 23 rfl)) (gw_c (gw_X10_cost_X10_cost_r2 _ (gw_g 0 rfl)) (gw_c (gw_X10_cost_X10_cost_r2 _ (gw_g 1 rfl)) (gw_c (gw_X10_cost_X10_cost_r2 _ (gw_g 2 rfl)) (gw_c (gw_X10_cost_X10_cost_r2 _ (gw_g 3 rfl)) (gw_c (gw_X10_cost_X10_cost_r2 _ (gw_g 4 rfl)) (gw_c (gw_X10_cost_X10_cost_r2 _ (gw_g 5 rfl)) (gw_c (gw_X10_cost_X10_cost_r2 _ (gw_g 6 rfl)) (gw_c (gw_X10_cost_X10_cost_r2 _ (gw_g 7 rfl)) (gw_c (gw_X10_cost_X10_cost_r2 _ (gw_g 8 rfl)) (gw_c (gw_X10_cost_X10_cost_r2 _ (gw_g 9 rfl)) (gw_c (gw_X10_cost_X10_cost_r2 _ (gw_g 10 rfl)) (gw_c (gw_X10_cost_X10_cost_r2 _ (gw_g 11 rfl)) (gw_c (gw_X10_cost_X10_cost_r2 _ (gw_g 12 rfl)) (gw_c (gw_X10_cost_X10_cost_r2 _ (gw_g 13 rfl)) gw_n)))))))))))))))))))))))) (gw_c (gw_X10_cost_X10_cost_r2 _ (gw_g 14 rfl)) (gw_c (gw_X10_cost_X10_cost_r2 _ (gw_g 15 rfl)) (gw_c (gw_X10_cost_X10_cost_r2 _ (gw_g 16 rfl)) (gw_c (gw_X10_cost_X10_cost_r2 _ (gw_g 17 rfl)) (gw_c (gw_X10_cost_X10_cost_r2 _ (gw_g 18 rfl)) (gw_c (gw_X10_cost_X10_cost_r2 _ (gw_g 19 rfl)) (gw_c (gw_X10_cost_X10_cost_r2 _ (gw_g 20 rfl)) (gw_c (gw_X10_cost_X10_cost_r1 _ (gw_g 7 rfl)) (gw_c (gw_X10_cost_X10_cost_r2 _ (gw_g 21 rfl)) (gw_c (gw_X10_cost_X10_cost_r2 _ (gw_g 22 rfl)) (gw_c (gw_X10_cost_X10_cost_r2 _ (gw_g 23 rfl)) (gw_c (gw_X10_cost_X10_cost_r3 _ (gw_g 0 rfl)) (gw_c (gw_X10_cost_X10_cost_r3 _ (gw_g 1 rfl)) gw_n)))))))))))))) gw_X10_cost_X100)) (by decide +kernel)
set_option maxRecDepth 20000 in
theorem gX10_cost_X10_costOf : GoodIn wsX10_cost (wsV RX10 305 RX10 yX10_costOf wsX10_costOf) := goodIn_app (goodIn_sub (gw_c (gw_X10_cost_X10_cost_r1 _ (gw_g 11 rfl)) (gw_c (gw_X10_cost_X10_cost_r1 _ (gw_g 12 rfl)) (gw_c (gw_X10_cost_X10_cost_r1 _ (gw_g 13 rfl)) (gw_c (gw_X10_cost_X10_cost_r1 _ (gw_g 5 rfl)) gw_n)))) (by decide +kernel)) ggX10_cost_X10_costOf
theorem dX10_cost_0 : decode cX10_cost 0 = .ok (.aload_n 0, 1) := by decide +kernel
theorem dX10_cost_1 : decode cX10_cost 1 = .ok (.iconst 0, 1) := by decide +kernel
theorem dX10_cost_2 : decode cX10_cost 2 = .ok (.putfield 139, 3) := by decide +kernel
theorem dX10_cost_5 : decode cX10_cost 5 = .ok (.aload_n 0, 1) := by decide +kernel
theorem dX10_cost_6 : decode cX10_cost 6 = .ok (.iload_n 1, 1) := by decide +kernel
theorem dX10_cost_7 : decode cX10_cost 7 = .ok (.invokevirtual 166, 3) := by decide +kernel
theorem dX10_cost_10 : decode cX10_cost 10 = .ok (.ifCond .eq 19, 3) := by decide +kernel
theorem dX10_cost_13 : decode cX10_cost 13 = .ok (.iload_n 2, 1) := by decide +kernel
theorem dX10_cost_14 : decode cX10_cost 14 = .ok (.iconst (-1), 1) := by decide +kernel
theorem dX10_cost_15 : decode cX10_cost 15 = .ok (.aload_n 0, 1) := by decide +kernel
theorem dX10_cost_16 : decode cX10_cost 16 = .ok (.getfield 13, 3) := by decide +kernel
theorem dX10_cost_19 : decode cX10_cost 19 = .ok (.iconst 0, 1) := by decide +kernel
theorem dX10_cost_20 : decode cX10_cost 20 = .ok (.iaload, 1) := by decide +kernel
theorem dX10_cost_21 : decode cX10_cost 21 = .ok (.iconst 2, 1) := by decide +kernel
theorem dX10_cost_22 : decode cX10_cost 22 = .ok (.isub, 1) := by decide +kernel
theorem dX10_cost_23 : decode cX10_cost 23 = .ok (.invokestatic 146, 3) := by decide +kernel
theorem dX10_cost_26 : decode cX10_cost 26 = .ok (.ifCond .ne 5, 3) := by decide +kernel
theorem dX10_cost_29 : decode cX10_cost 29 = .ok (.lconst 0, 1) := by decide +kernel
theorem dX10_cost_30 : decode cX10_cost 30 = .ok (.lreturn, 1) := by decide +kernel
theorem dX10_cost_31 : decode cX10_cost 31 = .ok (.lconst 0, 1) := by decide +kernel
theorem dX10_cost_32 : decode cX10_cost 32 = .ok (.lstore_n 3, 1) := by decide +kernel
theorem dX10_cost_33 : decode cX10_cost 33 = .ok (.iconst 0, 1) := by decide +kernel
theorem dX10_cost_34 : decode cX10_cost 34 = .ok (.istore 5, 2) := by decide +kernel
theorem dX10_cost_36 : decode cX10_cost 36 = .ok (.iload 5, 2) := by decide +kernel
theorem dX10_cost_38 : decode cX10_cost 38 = .ok (.aload_n 0, 1) := by decide +kernel
theorem dX10_cost_39 : decode cX10_cost 39 = .ok (.getfield 13, 3) := by decide +kernel
theorem dX10_cost_42 : decode cX10_cost 42 = .ok (.iconst 0, 1) := by decide +kernel
theorem dX10_cost_43 : decode cX10_cost 43 = .ok (.iaload, 1) := by decide +kernel
theorem dX10_cost_44 : decode cX10_cost 44 = .ok (.iconst 1, 1) := by decide +kernel
theorem dX10_cost_45 : decode cX10_cost 45 = .ok (.isub, 1) := by decide +kernel
theorem dX10_cost_46 : decode cX10_cost 46 = .ok (.if_icmp .ge 34, 3) := by decide +kernel
theorem dX10_cost_49 : decode cX10_cost 49 = .ok (.lload_n 3, 1) := by decide +kernel
theorem dX10_cost_50 : decode cX10_cost 50 = .ok (.iload_n 2, 1) := by decide +kernel
theorem dX10_cost_51 : decode cX10_cost 51 = .ok (.iconst (-1), 1) := by decide +kernel
theorem dX10_cost_52 : decode cX10_cost 52 = .ok (.if_icmp .eq 9, 3) := by decide +kernel
theorem dX10_cost_55 : decode cX10_cost 55 = .ok (.iload_n 2, 1) := by decide +kernel
theorem dX10_cost_56 : decode cX10_cost 56 = .ok (.iload 5, 2) := by decide +kernel
theorem dX10_cost_58 : decode cX10_cost 58 = .ok (.if_icmp .ne 13, 3) := by decide +kernel
theorem dX10_cost_61 : decode cX10_cost 61 = .ok (.aload_n 0, 1) := by decide +kernel
theorem dX10_cost_62 : decode cX10_cost 62 = .ok (.iload_n 1, 1) := by decide +kernel
theorem dX10_cost_63 : decode cX10_cost 63 = .ok (.iload 5, 2) := by decide +kernel
theorem dX10_cost_65 : decode cX10_cost 65 = .ok (.invokevirtual 305, 3) := by decide +kernel
theorem dX10_cost_68 : decode cX10_cost 68 = .ok (.goto 4, 3) := by decide +kernel
theorem dX10_cost_71 : decode cX10_cost 71 = .ok (.lconst 0, 1) := by decide +kernel
theorem dX10_cost_72 : decode cX10_cost 72 = .ok (.ladd, 1) := by decide +kernel
theorem dX10_cost_73 : decode cX10_cost 73 = .ok (.lstore_n 3, 1) := by decide +kernel
theorem dX10_cost_74 : decode cX10_cost 74 = .ok (.iinc 5 1, 3) := by decide +kernel
theorem dX10_cost_77 : decode cX10_cost 77 = .ok (.goto (-41), 3) := by decide +kernel
theorem dX10_cost_80 : decode cX10_cost 80 = .ok (.lload_n 3, 1) := by decide +kernel
theorem dX10_cost_81 : decode cX10_cost 81 = .ok (.lreturn, 1) := by decide +kernel
set_option maxRecDepth 20000 in
theorem ggX10_cars_X10_in : GoodIn wsX10_cars wsX10_in := goodIn_sub (gw_c (gw_t (gw_l (gw_g 5 rfl))) gw_n) (by decide +kernel)
set_option maxRecDepth 20000 in
theorem gX10_cars_X10_in : GoodIn wsX10_cars (va_wsS RX10 146 yX10_in wsX10_in) := goodIn_app (goodIn_sub (gw_c (gw_t (gw_l (gw_g 2 rfl))) (gw_c (gw_t (gw_l (gw_g 3 rfl))) (gw_c (gw_t (gw_l (gw_g 4 rfl))) gw_n))) (by decide +kernel)) ggX10_cars_X10_in
set_option maxRecDepth 20000 in
theorem ggX10_cars_X10_upTo : GoodIn wsX10_cars wsX10_upTo := goodIn_sub (gw_c (gw_t (gw_l (gw_g 9 rfl))) (gw_a (gw_c (gw_t (gw_l (gw_g 10 rfl))) gw_n) gw_X10_cars_X100)) (by decide +kernel)
set_option maxRecDepth 20000 in
theorem gX10_cars_X10_upTo : GoodIn wsX10_cars (wsV RX10 150 RX10 yX10_upTo wsX10_upTo) := goodIn_app (goodIn_sub (gw_c (gw_t (gw_l (gw_g 6 rfl))) (gw_c (gw_t (gw_l (gw_g 7 rfl))) (gw_c (gw_t (gw_l (gw_g 8 rfl))) (gw_c (gw_t (gw_l (gw_g 4 rfl))) gw_n)))) (by decide +kernel)) ggX10_cars_X10_upTo
theorem dX10_cars_0 : decode cX10_cars 0 = .ok (.aload_n 0, 1) := by decide +kernel
theorem dX10_cars_1 : decode cX10_cars 1 = .ok (.iconst 0, 1) := by decide +kernel
theorem dX10_cars_2 : decode cX10_cars 2 = .ok (.putfield 139, 3) := by decide +kernel
theorem dX10_cars_5 : decode cX10_cars 5 = .ok (.iload_n 2, 1) := by decide +kernel
theorem dX10_cars_6 : decode cX10_cars 6 = .ok (.iconst 0, 1) := by decide +kernel
theorem dX10_cars_7 : decode cX10_cars 7 = .ok (.bipush 48, 2) := by decide +kernel
theorem dX10_cars_9 : decode cX10_cars 9 = .ok (.invokestatic 146, 3) := by decide +kernel
theorem dX10_cars_12 : decode cX10_cars 12 = .ok (.ifCond .eq 7, 3) := by decide +kernel
theorem dX10_cars_15 : decode cX10_cars 15 = .ok (.iload_n 1, 1) := by decide +kernel
theorem dX10_cars_16 : decode cX10_cars 16 = .ok (.ifCond .ge 5, 3) := by decide +kernel
theorem dX10_cars_19 : decode cX10_cars 19 = .ok (.iconst (-1), 1) := by decide +kernel
theorem dX10_cars_20 : decode cX10_cars 20 = .ok (.ireturn, 1) := by decide +kernel
theorem dX10_cars_21 : decode cX10_cars 21 = .ok (.iconst 2, 1) := by decide +kernel
theorem dX10_cars_22 : decode cX10_cars 22 = .ok (.aload_n 0, 1) := by decide +kernel
theorem dX10_cars_23 : decode cX10_cars 23 = .ok (.aload_n 0, 1) := by decide +kernel
theorem dX10_cars_24 : decode cX10_cars 24 = .ok (.getfield 13, 3) := by decide +kernel
theorem dX10_cars_27 : decode cX10_cars 27 = .ok (.iconst 0, 1) := by decide +kernel
theorem dX10_cars_28 : decode cX10_cars 28 = .ok (.iaload, 1) := by decide +kernel
theorem dX10_cars_29 : decode cX10_cars 29 = .ok (.iconst 1, 1) := by decide +kernel
theorem dX10_cars_30 : decode cX10_cars 30 = .ok (.isub, 1) := by decide +kernel
theorem dX10_cars_31 : decode cX10_cars 31 = .ok (.invokevirtual 150, 3) := by decide +kernel
theorem dX10_cars_34 : decode cX10_cars 34 = .ok (.imul, 1) := by decide +kernel
theorem dX10_cars_35 : decode cX10_cars 35 = .ok (.iconst 2, 1) := by decide +kernel
theorem dX10_cars_36 : decode cX10_cars 36 = .ok (.iload_n 2, 1) := by decide +kernel
theorem dX10_cars_37 : decode cX10_cars 37 = .ok (.imul, 1) := by decide +kernel
theorem dX10_cars_38 : decode cX10_cars 38 = .ok (.iadd, 1) := by decide +kernel
theorem dX10_cars_39 : decode cX10_cars 39 = .ok (.istore_n 3, 1) := by decide +kernel
theorem dX10_cars_40 : decode cX10_cars 40 = .ok (.iconst 0, 1) := by decide +kernel
theorem dX10_cars_41 : decode cX10_cars 41 = .ok (.istore 4, 2) := by decide +kernel
theorem dX10_cars_43 : decode cX10_cars 43 = .ok (.iconst 0, 1) := by decide +kernel
theorem dX10_cars_44 : decode cX10_cars 44 = .ok (.istore 5, 2) := by decide +kernel
theorem dX10_cars_46 : decode cX10_cars 46 = .ok (.iload 5, 2) := by decide +kernel
theorem dX10_cars_48 : decode cX10_cars 48 = .ok (.bipush 30, 2) := by decide +kernel
theorem dX10_cars_50 : decode cX10_cars 50 = .ok (.if_icmp .ge 87, 3) := by decide +kernel
theorem dX10_cars_53 : decode cX10_cars 53 = .ok (.iconst 0, 1) := by decide +kernel
theorem dX10_cars_54 : decode cX10_cars 54 = .ok (.istore 6, 2) := by decide +kernel
theorem dX10_cars_56 : decode cX10_cars 56 = .ok (.iconst 0, 1) := by decide +kernel
theorem dX10_cars_57 : decode cX10_cars 57 = .ok (.istore 7, 2) := by decide +kernel
theorem dX10_cars_59 : decode cX10_cars 59 = .ok (.iload 7, 2) := by decide +kernel
theorem dX10_cars_61 : decode cX10_cars 61 = .ok (.iload 5, 2) := by decide +kernel
theorem dX10_cars_63 : decode cX10_cars 63 = .ok (.if_icmp .gt 52, 3) := by decide +kernel
theorem dX10_cars_66 : decode cX10_cars 66 = .ok (.iload_n 1, 1) := by decide +kernel
theorem dX10_cars_67 : decode cX10_cars 67 = .ok (.iload 5, 2) := by decide +kernel
theorem dX10_cars_69 : decode cX10_cars 69 = .ok (.ishr, 1) := by decide +kernel
theorem dX10_cars_70 : decode cX10_cars 70 = .ok (.iconst 1, 1) := by decide +kernel
theorem dX10_cars_71 : decode cX10_cars 71 = .ok (.iand, 1) := by decide +kernel
theorem dX10_cars_72 : decode cX10_cars 72 = .ok (.ifCond .eq 43, 3) := by decide +kernel
theorem dX10_cars_75 : decode cX10_cars 75 = .ok (.iload 6, 2) := by decide +kernel
theorem dX10_cars_77 : decode cX10_cars 77 = .ok (.iload_n 1, 1) := by decide +kernel
theorem dX10_cars_78 : decode cX10_cars 78 = .ok (.iload 7, 2) := by decide +kernel
theorem dX10_cars_80 : decode cX10_cars 80 = .ok (.ishr, 1) := by decide +kernel
theorem dX10_cars_81 : decode cX10_cars 81 = .ok (.iconst 1, 1) := by decide +kernel
theorem dX10_cars_82 : decode cX10_cars 82 = .ok (.iand, 1) := by decide +kernel
theorem dX10_cars_83 : decode cX10_cars 83 = .ok (.ifCond .eq 22, 3) := by decide +kernel
theorem dX10_cars_86 : decode cX10_cars 86 = .ok (.bipush 24, 2) := by decide +kernel
theorem dX10_cars_88 : decode cX10_cars 88 = .ok (.iload 7, 2) := by decide +kernel
theorem dX10_cars_90 : decode cX10_cars 90 = .ok (.imul, 1) := by decide +kernel
theorem dX10_cars_91 : decode cX10_cars 91 = .ok (.iload_n 3, 1) := by decide +kernel
theorem dX10_cars_92 : decode cX10_cars 92 = .ok (.iadd, 1) := by decide +kernel
theorem dX10_cars_93 : decode cX10_cars 93 = .ok (.bipush 24, 2) := by decide +kernel
theorem dX10_cars_95 : decode cX10_cars 95 = .ok (.iload 5, 2) := by decide +kernel
theorem dX10_cars_97 : decode cX10_cars 97 = .ok (.imul, 1) := by decide +kernel
theorem dX10_cars_98 : decode cX10_cars 98 = .ok (.if_icmp .le 7, 3) := by decide +kernel
theorem dX10_cars_101 : decode cX10_cars 101 = .ok (.iconst 1, 1) := by decide +kernel
theorem dX10_cars_102 : decode cX10_cars 102 = .ok (.goto 4, 3) := by decide +kernel
theorem dX10_cars_105 : decode cX10_cars 105 = .ok (.iconst 0, 1) := by decide +kernel
theorem dX10_cars_106 : decode cX10_cars 106 = .ok (.iadd, 1) := by decide +kernel
theorem dX10_cars_107 : decode cX10_cars 107 = .ok (.istore 6, 2) := by decide +kernel
theorem dX10_cars_109 : decode cX10_cars 109 = .ok (.iinc 7 1, 3) := by decide +kernel
theorem dX10_cars_112 : decode cX10_cars 112 = .ok (.goto (-53), 3) := by decide +kernel
theorem dX10_cars_115 : decode cX10_cars 115 = .ok (.iload 6, 2) := by decide +kernel
theorem dX10_cars_117 : decode cX10_cars 117 = .ok (.iload 4, 2) := by decide +kernel
theorem dX10_cars_119 : decode cX10_cars 119 = .ok (.if_icmp .le 8, 3) := by decide +kernel
theorem dX10_cars_122 : decode cX10_cars 122 = .ok (.iload 6, 2) := by decide +kernel
theorem dX10_cars_124 : decode cX10_cars 124 = .ok (.goto 5, 3) := by decide +kernel
theorem dX10_cars_127 : decode cX10_cars 127 = .ok (.iload 4, 2) := by decide +kernel
theorem dX10_cars_129 : decode cX10_cars 129 = .ok (.istore 4, 2) := by decide +kernel
theorem dX10_cars_131 : decode cX10_cars 131 = .ok (.iinc 5 1, 3) := by decide +kernel
theorem dX10_cars_134 : decode cX10_cars 134 = .ok (.goto (-88), 3) := by decide +kernel
theorem dX10_cars_137 : decode cX10_cars 137 = .ok (.iload 4, 2) := by decide +kernel
theorem dX10_cars_139 : decode cX10_cars 139 = .ok (.ireturn, 1) := by decide +kernel
set_option maxRecDepth 20000 in
theorem ggX10_count_X10_runs : GoodIn wsX10_count wsX10_runs := goodIn_sub (gw_c (gw_t (gw_l (gw_g 11 rfl))) (gw_a (gw_c (gw_t (gw_l (gw_g 12 rfl))) gw_n) gw_X10_count_X100)) (by decide +kernel)
set_option maxRecDepth 20000 in
theorem gX10_count_X10_runs : GoodIn wsX10_count (wsV RX10 154 RX10 yX10_runs wsX10_runs) := goodIn_app (goodIn_sub (gw_c (gw_t (gw_l (gw_g 7 rfl))) (gw_c (gw_t (gw_l (gw_g 8 rfl))) (gw_c (gw_t (gw_l (gw_g 9 rfl))) (gw_c (gw_t (gw_l (gw_g 10 rfl))) gw_n)))) (by decide +kernel)) ggX10_count_X10_runs
set_option maxRecDepth 20000 in
theorem ggX10_count_X10_upTo : GoodIn wsX10_count wsX10_upTo := goodIn_sub (gw_c (gw_t (gw_l (gw_g 16 rfl))) (gw_a (gw_c (gw_t (gw_l (gw_g 17 rfl))) gw_n) gw_X10_count_X100)) (by decide +kernel)
set_option maxRecDepth 20000 in
theorem gX10_count_X10_upTo : GoodIn wsX10_count (wsV RX10 150 RX10 yX10_upTo wsX10_upTo) := goodIn_app (goodIn_sub (gw_c (gw_t (gw_l (gw_g 13 rfl))) (gw_c (gw_t (gw_l (gw_g 14 rfl))) (gw_c (gw_t (gw_l (gw_g 15 rfl))) (gw_c (gw_t (gw_l (gw_g 10 rfl))) gw_n)))) (by decide +kernel)) ggX10_count_X10_upTo
theorem dX10_count_0 : decode cX10_count 0 = .ok (.aload_n 0, 1) := by decide +kernel
theorem dX10_count_1 : decode cX10_count 1 = .ok (.iconst 0, 1) := by decide +kernel
theorem dX10_count_2 : decode cX10_count 2 = .ok (.putfield 139, 3) := by decide +kernel
theorem dX10_count_5 : decode cX10_count 5 = .ok (.iconst 0, 1) := by decide +kernel
theorem dX10_count_6 : decode cX10_count 6 = .ok (.istore_n 2, 1) := by decide +kernel
theorem dX10_count_7 : decode cX10_count 7 = .ok (.iload_n 1, 1) := by decide +kernel
theorem dX10_count_8 : decode cX10_count 8 = .ok (.tableswitch 132 0 7 #[48, 55, 60, 67, 74, 81, 88, 101], 48) := by decide +kernel
theorem dX10_count_56 : decode cX10_count 56 = .ok (.aload_n 0, 1) := by decide +kernel
theorem dX10_count_57 : decode cX10_count 57 = .ok (.getfield 13, 3) := by decide +kernel
theorem dX10_count_60 : decode cX10_count 60 = .ok (.iconst 0, 1) := by decide +kernel
theorem dX10_count_61 : decode cX10_count 61 = .ok (.iaload, 1) := by decide +kernel
theorem dX10_count_62 : decode cX10_count 62 = .ok (.ireturn, 1) := by decide +kernel
theorem dX10_count_63 : decode cX10_count 63 = .ok (.aload_n 0, 1) := by decide +kernel
theorem dX10_count_64 : decode cX10_count 64 = .ok (.invokevirtual 154, 3) := by decide +kernel
theorem dX10_count_67 : decode cX10_count 67 = .ok (.ireturn, 1) := by decide +kernel
theorem dX10_count_68 : decode cX10_count 68 = .ok (.aload_n 0, 1) := by decide +kernel
theorem dX10_count_69 : decode cX10_count 69 = .ok (.getfield 38, 3) := by decide +kernel
theorem dX10_count_72 : decode cX10_count 72 = .ok (.iconst 0, 1) := by decide +kernel
theorem dX10_count_73 : decode cX10_count 73 = .ok (.iaload, 1) := by decide +kernel
theorem dX10_count_74 : decode cX10_count 74 = .ok (.ireturn, 1) := by decide +kernel
theorem dX10_count_75 : decode cX10_count 75 = .ok (.aload_n 0, 1) := by decide +kernel
theorem dX10_count_76 : decode cX10_count 76 = .ok (.getfield 59, 3) := by decide +kernel
theorem dX10_count_79 : decode cX10_count 79 = .ok (.iconst 0, 1) := by decide +kernel
theorem dX10_count_80 : decode cX10_count 80 = .ok (.iaload, 1) := by decide +kernel
theorem dX10_count_81 : decode cX10_count 81 = .ok (.ireturn, 1) := by decide +kernel
theorem dX10_count_82 : decode cX10_count 82 = .ok (.aload_n 0, 1) := by decide +kernel
theorem dX10_count_83 : decode cX10_count 83 = .ok (.getfield 83, 3) := by decide +kernel
theorem dX10_count_86 : decode cX10_count 86 = .ok (.iconst 0, 1) := by decide +kernel
theorem dX10_count_87 : decode cX10_count 87 = .ok (.iaload, 1) := by decide +kernel
theorem dX10_count_88 : decode cX10_count 88 = .ok (.ireturn, 1) := by decide +kernel
theorem dX10_count_89 : decode cX10_count 89 = .ok (.aload_n 0, 1) := by decide +kernel
theorem dX10_count_90 : decode cX10_count 90 = .ok (.getfield 86, 3) := by decide +kernel
theorem dX10_count_93 : decode cX10_count 93 = .ok (.iconst 0, 1) := by decide +kernel
theorem dX10_count_94 : decode cX10_count 94 = .ok (.iaload, 1) := by decide +kernel
theorem dX10_count_95 : decode cX10_count 95 = .ok (.ireturn, 1) := by decide +kernel
theorem dX10_count_96 : decode cX10_count 96 = .ok (.aload_n 0, 1) := by decide +kernel
theorem dX10_count_97 : decode cX10_count 97 = .ok (.aload_n 0, 1) := by decide +kernel
theorem dX10_count_98 : decode cX10_count 98 = .ok (.getfield 13, 3) := by decide +kernel
theorem dX10_count_101 : decode cX10_count 101 = .ok (.iconst 0, 1) := by decide +kernel
theorem dX10_count_102 : decode cX10_count 102 = .ok (.iaload, 1) := by decide +kernel
theorem dX10_count_103 : decode cX10_count 103 = .ok (.iconst 1, 1) := by decide +kernel
theorem dX10_count_104 : decode cX10_count 104 = .ok (.isub, 1) := by decide +kernel
theorem dX10_count_105 : decode cX10_count 105 = .ok (.invokevirtual 150, 3) := by decide +kernel
theorem dX10_count_108 : decode cX10_count 108 = .ok (.ireturn, 1) := by decide +kernel
theorem dX10_count_109 : decode cX10_count 109 = .ok (.iconst 0, 1) := by decide +kernel
theorem dX10_count_110 : decode cX10_count 110 = .ok (.istore_n 3, 1) := by decide +kernel
theorem dX10_count_111 : decode cX10_count 111 = .ok (.iload_n 3, 1) := by decide +kernel
theorem dX10_count_112 : decode cX10_count 112 = .ok (.aload_n 0, 1) := by decide +kernel
theorem dX10_count_113 : decode cX10_count 113 = .ok (.getfield 13, 3) := by decide +kernel
theorem dX10_count_116 : decode cX10_count 116 = .ok (.iconst 0, 1) := by decide +kernel
theorem dX10_count_117 : decode cX10_count 117 = .ok (.iaload, 1) := by decide +kernel
theorem dX10_count_118 : decode cX10_count 118 = .ok (.iconst 1, 1) := by decide +kernel
theorem dX10_count_119 : decode cX10_count 119 = .ok (.isub, 1) := by decide +kernel
theorem dX10_count_120 : decode cX10_count 120 = .ok (.if_icmp .ge 18, 3) := by decide +kernel
theorem dX10_count_123 : decode cX10_count 123 = .ok (.iload_n 2, 1) := by decide +kernel
theorem dX10_count_124 : decode cX10_count 124 = .ok (.aload_n 0, 1) := by decide +kernel
theorem dX10_count_125 : decode cX10_count 125 = .ok (.getfield 17, 3) := by decide +kernel
theorem dX10_count_128 : decode cX10_count 128 = .ok (.iload_n 3, 1) := by decide +kernel
theorem dX10_count_129 : decode cX10_count 129 = .ok (.iaload, 1) := by decide +kernel
theorem dX10_count_130 : decode cX10_count 130 = .ok (.iadd, 1) := by decide +kernel
theorem dX10_count_131 : decode cX10_count 131 = .ok (.istore_n 2, 1) := by decide +kernel
theorem dX10_count_132 : decode cX10_count 132 = .ok (.iinc 3 1, 3) := by decide +kernel
theorem dX10_count_135 : decode cX10_count 135 = .ok (.goto (-24), 3) := by decide +kernel
theorem dX10_count_138 : decode cX10_count 138 = .ok (.iload_n 2, 1) := by decide +kernel
theorem dX10_count_139 : decode cX10_count 139 = .ok (.ireturn, 1) := by decide +kernel
theorem dX10_count_140 : decode cX10_count 140 = .ok (.iconst (-1), 1) := by decide +kernel
theorem dX10_count_141 : decode cX10_count 141 = .ok (.ireturn, 1) := by decide +kernel
set_option maxRecDepth 20000 in
theorem ggX10_image_X10_in : GoodIn wsX10_image wsX10_in := goodIn_sub (gw_c (gw_X10_image_X10_image_r1 _ (gw_g 5 rfl)) gw_n) (by decide +kernel)
set_option maxRecDepth 20000 in
theorem gX10_image_X10_in : GoodIn wsX10_image (va_wsS RX10 146 yX10_in wsX10_in) := goodIn_app (goodIn_sub (gw_c (gw_X10_image_X10_image_r1 _ (gw_g 2 rfl)) (gw_c (gw_X10_image_X10_image_r1 _ (gw_g 3 rfl)) (gw_c (gw_X10_image_X10_image_r1 _ (gw_g 4 rfl)) gw_n))) (by decide +kernel)) ggX10_image_X10_in
set_option maxRecDepth 20000 in
theorem ggX10_image_X10_copy : GoodIn wsX10_image wsX10_copy := goodIn_sub (gw_c (gw_X10_image_X10_image_r1 _ (gw_g 9 rfl)) (gw_a (gw_a (gw_c (gw_X10_image_X10_image_r1 _ (gw_g 10 rfl)) (gw_c (gw_X10_image_X10_image_r1 _ (gw_g 11 rfl)) (gw_c (gw_X10_image_X10_image_r1 _ (gw_g 12 rfl)) (gw_c (gw_X10_image_X10_image_r1 _ (gw_g 13 rfl)) (gw_c (gw_X10_image_X10_image_r1 _ (gw_g 14 rfl)) (gw_c (gw_X10_image_X10_image_r1 _ (gw_g 15 rfl)) (gw_c (gw_X10_image_X10_image_r1 _ (gw_g 16 rfl)) (gw_c (gw_X10_image_X10_image_r1 _ (gw_g 17 rfl)) (gw_c (gw_X10_image_X10_image_r1 _ (gw_g 18 rfl)) (gw_c (gw_X10_image_X10_image_r1 _ (gw_g 19 rfl)) (gw_c (gw_X10_image_X10_image_r1 _ (gw_g 20 rfl)) (gw_c (gw_X10_image_X10_image_r1 _ (gw_g 21 rfl)) (gw_c (gw_X10_image_X10_image_r1 _ (gw_g 22 rfl)) (gw_c (gw_X10_image_X10_image_r1 _ (gw_g 23 rfl)) (gw_c (gw_X10_image_X10_image_r2 _ (gw_g 0 rfl)) (gw_c (gw_X10_image_X10_image_r2 _ (gw_g 1 rfl)) (gw_c (gw_X10_image_X10_image_r2 _ (gw_g 2 rfl)) (gw_c (gw_X10_image_X10_image_r2 _ (gw_g 3 rfl)) (gw_c (gw_X10_image_X10_image_r2 _ (gw_g 4 rfl)) (gw_c (gw_X10_image_X10_image_r2 _ (gw_g 5 rfl)) (gw_c (gw_X10_image_X10_image_r2 _ (gw_g 6 rfl)) (gw_c (gw_X10_image_X10_image_r2 _ (gw_g 7 rfl)) (gw_c (gw_X10_image_X10_image_r2 _ (gw_g 8 rfl)) (gw_c (gw_X10_image_X10_image_r2 _ (gw_g 9 rfl)) gw_n)))))))))))))))))))))))) (gw_c (gw_X10_image_X10_image_r2 _ (gw_g 10 rfl)) (gw_c (gw_X10_image_X10_image_r2 _ (gw_g 11 rfl)) (gw_c (gw_X10_image_X10_image_r2 _ (gw_g 12 rfl)) (gw_c (gw_X10_image_X10_image_r2 _ (gw_g 13 rfl)) (gw_c (gw_X10_image_X10_image_r2 _ (gw_g 14 rfl)) (gw_c (gw_X10_image_X10_image_r2 _ (gw_g 15 rfl)) (gw_c (gw_X10_image_X10_image_r2 _ (gw_g 16 rfl)) (gw_c (gw_X10_image_X10_image_r2 _ (gw_g 17 rfl)) (gw_c (gw_X10_image_X10_image_r2 _ (gw_g 18 rfl)) (gw_c (gw_X10_image_X10_image_r1 _ (gw_g 4 rfl)) (gw_c (gw_X10_image_X10_image_r2 _ (gw_g 19 rfl)) gw_n)))))))))))) gw_X10_image_X100)) (by decide +kernel)
set_option maxRecDepth 20000 in
theorem gX10_image_X10_copy : GoodIn wsX10_image (wsV RX10 309 RX10 yX10_copy wsX10_copy) := goodIn_app (goodIn_sub (gw_c (gw_X10_image_X10_image_r1 _ (gw_g 6 rfl)) (gw_c (gw_X10_image_X10_image_r1 _ (gw_g 7 rfl)) (gw_c (gw_X10_image_X10_image_r1 _ (gw_g 8 rfl)) (gw_c (gw_X10_image_X10_image_r1 _ (gw_g 4 rfl)) gw_n)))) (by decide +kernel)) ggX10_image_X10_copy
theorem dX10_image_0 : decode cX10_image 0 = .ok (.aload_n 0, 1) := by decide +kernel
theorem dX10_image_1 : decode cX10_image 1 = .ok (.iconst 0, 1) := by decide +kernel
theorem dX10_image_2 : decode cX10_image 2 = .ok (.putfield 139, 3) := by decide +kernel
theorem dX10_image_5 : decode cX10_image 5 = .ok (.iload_n 1, 1) := by decide +kernel
theorem dX10_image_6 : decode cX10_image 6 = .ok (.iconst 0, 1) := by decide +kernel
theorem dX10_image_7 : decode cX10_image 7 = .ok (.iconst 2, 1) := by decide +kernel
theorem dX10_image_8 : decode cX10_image 8 = .ok (.invokestatic 146, 3) := by decide +kernel
theorem dX10_image_11 : decode cX10_image 11 = .ok (.ifCond .ne 5, 3) := by decide +kernel
theorem dX10_image_14 : decode cX10_image 14 = .ok (.iconst 0, 1) := by decide +kernel
theorem dX10_image_15 : decode cX10_image 15 = .ok (.ireturn, 1) := by decide +kernel
theorem dX10_image_16 : decode cX10_image 16 = .ok (.aload_n 0, 1) := by decide +kernel
theorem dX10_image_17 : decode cX10_image 17 = .ok (.iconst 0, 1) := by decide +kernel
theorem dX10_image_18 : decode cX10_image 18 = .ok (.iload_n 1, 1) := by decide +kernel
theorem dX10_image_19 : decode cX10_image 19 = .ok (.iconst 1, 1) := by decide +kernel
theorem dX10_image_20 : decode cX10_image 20 = .ok (.iadd, 1) := by decide +kernel
theorem dX10_image_21 : decode cX10_image 21 = .ok (.invokevirtual 309, 3) := by decide +kernel
theorem dX10_image_24 : decode cX10_image 24 = .ok (.aload_n 0, 1) := by decide +kernel
theorem dX10_image_25 : decode cX10_image 25 = .ok (.getfield 135, 3) := by decide +kernel
theorem dX10_image_28 : decode cX10_image 28 = .ok (.iload_n 1, 1) := by decide +kernel
theorem dX10_image_29 : decode cX10_image 29 = .ok (.iconst 1, 1) := by decide +kernel
theorem dX10_image_30 : decode cX10_image 30 = .ok (.bastore, 1) := by decide +kernel
theorem dX10_image_31 : decode cX10_image 31 = .ok (.iconst 1, 1) := by decide +kernel
theorem dX10_image_32 : decode cX10_image 32 = .ok (.ireturn, 1) := by decide +kernel
set_option maxRecDepth 20000 in
theorem ggX10_again_X10_in : GoodIn wsX10_again wsX10_in := goodIn_sub (gw_c (gw_X10_again_X10_again_r1 _ (gw_g 5 rfl)) gw_n) (by decide +kernel)
set_option maxRecDepth 20000 in
theorem gX10_again_X10_in : GoodIn wsX10_again (va_wsS RX10 146 yX10_in wsX10_in) := goodIn_app (goodIn_sub (gw_c (gw_X10_again_X10_again_r1 _ (gw_g 2 rfl)) (gw_c (gw_X10_again_X10_again_r1 _ (gw_g 3 rfl)) (gw_c (gw_X10_again_X10_again_r1 _ (gw_g 4 rfl)) gw_n))) (by decide +kernel)) ggX10_again_X10_in
set_option maxRecDepth 20000 in
theorem ggX10_again_X10_copy : GoodIn wsX10_again wsX10_copy := goodIn_sub (gw_c (gw_X10_again_X10_again_r1 _ (gw_g 9 rfl)) (gw_a (gw_a (gw_c (gw_X10_again_X10_again_r1 _ (gw_g 10 rfl)) (gw_c (gw_X10_again_X10_again_r1 _ (gw_g 11 rfl)) (gw_c (gw_X10_again_X10_again_r1 _ (gw_g 12 rfl)) (gw_c (gw_X10_again_X10_again_r1 _ (gw_g 13 rfl)) (gw_c (gw_X10_again_X10_again_r1 _ (gw_g 14 rfl)) (gw_c (gw_X10_again_X10_again_r1 _ (gw_g 15 rfl)) (gw_c (gw_X10_again_X10_again_r1 _ (gw_g 16 rfl)) (gw_c (gw_X10_again_X10_again_r1 _ (gw_g 17 rfl)) (gw_c (gw_X10_again_X10_again_r1 _ (gw_g 18 rfl)) (gw_c (gw_X10_again_X10_again_r1 _ (gw_g 19 rfl)) (gw_c (gw_X10_again_X10_again_r1 _ (gw_g 20 rfl)) (gw_c (gw_X10_again_X10_again_r1 _ (gw_g 21 rfl)) (gw_c (gw_X10_again_X10_again_r1 _ (gw_g 22 rfl)) (gw_c (gw_X10_again_X10_again_r1 _ (gw_g 23 rfl)) (gw_c (gw_X10_again_X10_again_r2 _ (gw_g 0 rfl)) (gw_c (gw_X10_again_X10_again_r2 _ (gw_g 1 rfl)) (gw_c (gw_X10_again_X10_again_r2 _ (gw_g 2 rfl)) (gw_c (gw_X10_again_X10_again_r2 _ (gw_g 3 rfl)) (gw_c (gw_X10_again_X10_again_r2 _ (gw_g 4 rfl)) (gw_c (gw_X10_again_X10_again_r2 _ (gw_g 5 rfl)) (gw_c (gw_X10_again_X10_again_r2 _ (gw_g 6 rfl)) (gw_c (gw_X10_again_X10_again_r2 _ (gw_g 7 rfl)) (gw_c (gw_X10_again_X10_again_r2 _ (gw_g 8 rfl)) (gw_c (gw_X10_again_X10_again_r2 _ (gw_g 9 rfl)) gw_n)))))))))))))))))))))))) (gw_c (gw_X10_again_X10_again_r2 _ (gw_g 10 rfl)) (gw_c (gw_X10_again_X10_again_r2 _ (gw_g 11 rfl)) (gw_c (gw_X10_again_X10_again_r2 _ (gw_g 12 rfl)) (gw_c (gw_X10_again_X10_again_r2 _ (gw_g 13 rfl)) (gw_c (gw_X10_again_X10_again_r2 _ (gw_g 14 rfl)) (gw_c (gw_X10_again_X10_again_r2 _ (gw_g 15 rfl)) (gw_c (gw_X10_again_X10_again_r2 _ (gw_g 16 rfl)) (gw_c (gw_X10_again_X10_again_r2 _ (gw_g 17 rfl)) (gw_c (gw_X10_again_X10_again_r2 _ (gw_g 18 rfl)) (gw_c (gw_X10_again_X10_again_r1 _ (gw_g 4 rfl)) (gw_c (gw_X10_again_X10_again_r2 _ (gw_g 19 rfl)) gw_n)))))))))))) gw_X10_again_X100)) (by decide +kernel)
set_option maxRecDepth 20000 in
theorem gX10_again_X10_copy : GoodIn wsX10_again (wsV RX10 309 RX10 yX10_copy wsX10_copy) := goodIn_app (goodIn_sub (gw_c (gw_X10_again_X10_again_r1 _ (gw_g 6 rfl)) (gw_c (gw_X10_again_X10_again_r1 _ (gw_g 7 rfl)) (gw_c (gw_X10_again_X10_again_r1 _ (gw_g 8 rfl)) (gw_c (gw_X10_again_X10_again_r1 _ (gw_g 4 rfl)) gw_n)))) (by decide +kernel)) ggX10_again_X10_copy
theorem dX10_again_0 : decode cX10_again 0 = .ok (.aload_n 0, 1) := by decide +kernel
theorem dX10_again_1 : decode cX10_again 1 = .ok (.iconst 0, 1) := by decide +kernel
theorem dX10_again_2 : decode cX10_again 2 = .ok (.putfield 139, 3) := by decide +kernel
theorem dX10_again_5 : decode cX10_again 5 = .ok (.iload_n 1, 1) := by decide +kernel
theorem dX10_again_6 : decode cX10_again 6 = .ok (.iconst 0, 1) := by decide +kernel
theorem dX10_again_7 : decode cX10_again 7 = .ok (.iconst 2, 1) := by decide +kernel
theorem dX10_again_8 : decode cX10_again 8 = .ok (.invokestatic 146, 3) := by decide +kernel
theorem dX10_again_11 : decode cX10_again 11 = .ok (.ifCond .eq 12, 3) := by decide +kernel
theorem dX10_again_14 : decode cX10_again 14 = .ok (.aload_n 0, 1) := by decide +kernel
theorem dX10_again_15 : decode cX10_again 15 = .ok (.getfield 135, 3) := by decide +kernel
theorem dX10_again_18 : decode cX10_again 18 = .ok (.iload_n 1, 1) := by decide +kernel
theorem dX10_again_19 : decode cX10_again 19 = .ok (.baload, 1) := by decide +kernel
theorem dX10_again_20 : decode cX10_again 20 = .ok (.ifCond .ne 5, 3) := by decide +kernel
theorem dX10_again_23 : decode cX10_again 23 = .ok (.iconst 0, 1) := by decide +kernel
theorem dX10_again_24 : decode cX10_again 24 = .ok (.ireturn, 1) := by decide +kernel
theorem dX10_again_25 : decode cX10_again 25 = .ok (.aload_n 0, 1) := by decide +kernel
theorem dX10_again_26 : decode cX10_again 26 = .ok (.iload_n 1, 1) := by decide +kernel
theorem dX10_again_27 : decode cX10_again 27 = .ok (.iconst 1, 1) := by decide +kernel
theorem dX10_again_28 : decode cX10_again 28 = .ok (.iadd, 1) := by decide +kernel
theorem dX10_again_29 : decode cX10_again 29 = .ok (.iconst 0, 1) := by decide +kernel
theorem dX10_again_30 : decode cX10_again 30 = .ok (.invokevirtual 309, 3) := by decide +kernel
theorem dX10_again_33 : decode cX10_again 33 = .ok (.iconst 1, 1) := by decide +kernel
theorem dX10_again_34 : decode cX10_again 34 = .ok (.ireturn, 1) := by decide +kernel
