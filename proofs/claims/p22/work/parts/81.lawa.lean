set_option maxRecDepth 20000 in
theorem ggL_law_X9_init : GoodIn wsL_law wsX9_init := goodIn_sub (gw_c gw_w0 (gw_a (gw_a (gw_a (gw_a (gw_a (gw_a (gw_a (gw_a (gw_a (gw_a (gw_a (gw_c gw_w24 (gw_c gw_w23 (gw_c gw_w22 (gw_c gw_w21 (gw_c gw_w20 (gw_c gw_w19 (gw_c gw_w18 (gw_c gw_w17 (gw_c gw_w16 (gw_c gw_w15 (gw_c gw_w14 (gw_c gw_w13 (gw_c gw_w12 (gw_c gw_w11 (gw_c gw_w10 (gw_c gw_w9 (gw_c gw_w8 (gw_c gw_w7 (gw_c gw_w6 (gw_c gw_w5 (gw_c gw_w4 (gw_c gw_w3 (gw_c gw_w2 (gw_c gw_w1 gw_n)))))))))))))))))))))))) (gw_a (gw_c gw_w48 (gw_c gw_w47 (gw_c gw_w46 (gw_c gw_w45 (gw_c gw_w44 (gw_c gw_w43 (gw_c gw_w42 (gw_c gw_w41 (gw_c gw_w40 (gw_c gw_w39 (gw_c gw_w38 (gw_c gw_w37 (gw_c gw_w36 (gw_c gw_w35 (gw_c gw_w34 (gw_c gw_w33 (gw_c gw_w32 (gw_c gw_w31 (gw_c gw_w30 (gw_c gw_w29 (gw_c gw_w28 (gw_c gw_w27 (gw_c gw_w26 (gw_c gw_w25 gw_n)))))))))))))))))))))))) (gw_a (gw_c gw_w72 (gw_c gw_w71 (gw_c gw_w70 (gw_c gw_w69 (gw_c gw_w68 (gw_c gw_w67 (gw_c gw_w66 (gw_c gw_w65 (gw_c gw_w64 (gw_c gw_w63 (gw_c gw_w62 (gw_c gw_w61 (gw_c gw_w60 (gw_c gw_w59 (gw_c gw_w58 (gw_c gw_w57 (gw_c gw_w56 (gw_c gw_w55 (gw_c gw_w54 (gw_c gw_w53 (gw_c gw_w52 (gw_c gw_w51 (gw_c gw_w50 (gw_c gw_w49 gw_n)))))))))))))))))))))))) (gw_a (gw_c gw_w96 (gw_c gw_w95 (gw_c gw_w94 (gw_c gw_w93 (gw_c gw_w92 (gw_c gw_w91 (gw_c gw_w90 (gw_c gw_w89 (gw_c gw_w88 (gw_c gw_w87 (gw_c gw_w86 (gw_c gw_w85 (gw_c gw_w84 (gw_c gw_w83 (gw_c gw_w82 (gw_c gw_w81 (gw_c gw_w80 (gw_c gw_w79 (gw_c gw_w78 (gw_c gw_w77 (gw_c gw_w76 (gw_c gw_w75 (gw_c gw_w74 (gw_c gw_w73 gw_n)))))))))))))))))))))))) (gw_c gw_w115 (gw_c gw_w114 (gw_c gw_w113 (gw_c gw_w112 (gw_c gw_w111 (gw_c gw_w110 (gw_c gw_w109 (gw_c gw_w108 (gw_c gw_w107 (gw_c gw_w106 (gw_c gw_w105 (gw_c gw_w104 (gw_c gw_w103 (gw_c gw_w102 (gw_c gw_w101 (gw_c gw_w100 (gw_c gw_w99 (gw_c gw_w98 (gw_c gw_w97 gw_n))))))))))))))))))))))) gw_L_law_X00) gw_L_law_X90) gw_L_law_X60) gw_L_law_X30) gw_L_law_X40) gw_L_law_X50) gw_L_law_X70) gw_L_law_X10) gw_L_law_X20) gw_L_law_X80)) (by decide +kernel)
set_option maxRecDepth 20000 in
theorem gL_law_X9_init : GoodIn wsL_law (wsX9_init) := ggL_law_X9_init
set_option maxRecDepth 20000 in
theorem ggL_law_X10_init : GoodIn wsL_law wsX10_init := goodIn_sub (gw_c gw_w116 (gw_a (gw_a (gw_c gw_w137 (gw_c gw_w23 (gw_c gw_w22 (gw_c gw_w136 (gw_c gw_w135 (gw_c gw_w33 (gw_c gw_w134 (gw_c gw_w133 (gw_c gw_w132 (gw_c gw_w131 (gw_c gw_w130 (gw_c gw_w129 (gw_c gw_w128 (gw_c gw_w127 (gw_c gw_w126 (gw_c gw_w125 (gw_c gw_w124 (gw_c gw_w123 (gw_c gw_w122 (gw_c gw_w121 (gw_c gw_w120 (gw_c gw_w119 (gw_c gw_w118 (gw_c gw_w117 gw_n)))))))))))))))))))))))) (gw_c gw_w161 (gw_c gw_w160 (gw_c gw_w159 (gw_c gw_w158 (gw_c gw_w157 (gw_c gw_w156 (gw_c gw_w155 (gw_c gw_w154 (gw_c gw_w153 (gw_c gw_w152 (gw_c gw_w151 (gw_c gw_w150 (gw_c gw_w149 (gw_c gw_w148 (gw_c gw_w147 (gw_c gw_w146 (gw_c gw_w145 (gw_c gw_w144 (gw_c gw_w143 (gw_c gw_w142 (gw_c gw_w141 (gw_c gw_w140 (gw_c gw_w139 (gw_c gw_w138 gw_n))))))))))))))))))))))))) gw_L_law_X100)) (by decide +kernel)
set_option maxRecDepth 20000 in
theorem gL_law_X10_init : GoodIn wsL_law (wsX10_init) := ggL_law_X10_init
set_option maxRecDepth 20000 in
theorem ggL_law_X9_line : GoodIn wsL_law wsX9_line := goodIn_sub (gw_c gw_w162 (gw_a (gw_a (gw_a (gw_a (gw_c gw_w18 (gw_c gw_w168 (gw_c gw_w167 (gw_c gw_w166 (gw_c gw_w165 (gw_c gw_w164 (gw_c gw_w69 (gw_c gw_w68 (gw_c gw_w3 (gw_c gw_w67 (gw_c gw_w66 (gw_c gw_w72 (gw_c gw_w71 (gw_c gw_w65 (gw_c gw_w64 (gw_c gw_w63 (gw_c gw_w62 (gw_c gw_w163 gw_n)))))))))))))))))) gw_L_law_X90) gw_L_law_X00) gw_L_law_X50) gw_L_law_X40)) (by decide +kernel)
set_option maxRecDepth 20000 in
theorem gL_law_X9_line : GoodIn wsL_law (wsV RL 13 RX9 yX9_line wsX9_line) := goodIn_app (goodIn_sub (gw_c gw_w172 (gw_c gw_w171 (gw_c gw_w170 (gw_c gw_w169 gw_n)))) (by decide +kernel)) ggL_law_X9_line
set_option maxRecDepth 20000 in
theorem ggL_law_X10_line : GoodIn wsL_law wsX10_line := goodIn_sub (gw_c gw_w173 (gw_a (gw_c gw_w182 (gw_c gw_w134 (gw_c gw_w133 (gw_c gw_w132 (gw_c gw_w131 (gw_c gw_w181 (gw_c gw_w180 (gw_c gw_w179 (gw_c gw_w178 (gw_c gw_w177 (gw_c gw_w129 (gw_c gw_w176 (gw_c gw_w175 (gw_c gw_w174 gw_n)))))))))))))) gw_L_law_X100)) (by decide +kernel)
set_option maxRecDepth 20000 in
theorem gL_law_X10_line : GoodIn wsL_law (wsV RL 17 RX10 yX10_line wsX10_line) := goodIn_app (goodIn_sub (gw_c gw_w185 (gw_c gw_w184 (gw_c gw_w183 (gw_c gw_w178 gw_n)))) (by decide +kernel)) ggL_law_X10_line
set_option maxRecDepth 20000 in
theorem ggL_law_X9_stretch : GoodIn wsL_law wsX9_stretch := goodIn_sub (gw_c gw_w186 (gw_a (gw_a (gw_a (gw_a (gw_c gw_w18 (gw_c gw_w168 (gw_c gw_w167 (gw_c gw_w166 (gw_c gw_w192 (gw_c gw_w191 (gw_c gw_w190 (gw_c gw_w189 (gw_c gw_w188 (gw_c gw_w3 (gw_c gw_w187 (gw_c gw_w66 gw_n)))))))))))) gw_L_law_X90) gw_L_law_X00) gw_L_law_X50) gw_L_law_X40)) (by decide +kernel)
set_option maxRecDepth 20000 in
theorem gL_law_X9_stretch : GoodIn wsL_law (wsV RL 18 RX9 yX9_stretch wsX9_stretch) := goodIn_app (goodIn_sub (gw_c gw_w195 (gw_c gw_w194 (gw_c gw_w193 (gw_c gw_w169 gw_n)))) (by decide +kernel)) ggL_law_X9_stretch
set_option maxRecDepth 20000 in
theorem ggL_law_X10_stretch : GoodIn wsL_law wsX10_stretch := goodIn_sub (gw_c gw_w196 (gw_a (gw_c gw_w182 (gw_c gw_w134 (gw_c gw_w133 (gw_c gw_w132 (gw_c gw_w181 (gw_c gw_w180 (gw_c gw_w179 (gw_c gw_w178 (gw_c gw_w177 (gw_c gw_w129 (gw_c gw_w176 (gw_c gw_w175 (gw_c gw_w174 gw_n))))))))))))) gw_L_law_X100)) (by decide +kernel)
set_option maxRecDepth 20000 in
theorem gL_law_X10_stretch : GoodIn wsL_law (wsV RL 22 RX10 yX10_stretch wsX10_stretch) := goodIn_app (goodIn_sub (gw_c gw_w199 (gw_c gw_w198 (gw_c gw_w197 (gw_c gw_w178 gw_n)))) (by decide +kernel)) ggL_law_X10_stretch
set_option maxRecDepth 20000 in
theorem ggL_law_X9_office : GoodIn wsL_law wsX9_office := goodIn_sub (gw_c gw_w200 (gw_a (gw_a (gw_a (gw_a (gw_c gw_w18 (gw_c gw_w168 (gw_c gw_w167 (gw_c gw_w166 (gw_c gw_w165 (gw_c gw_w207 (gw_c gw_w206 (gw_c gw_w169 (gw_c gw_w205 (gw_c gw_w204 (gw_c gw_w203 (gw_c gw_w202 (gw_c gw_w3 (gw_c gw_w201 (gw_c gw_w66 gw_n))))))))))))))) gw_L_law_X90) gw_L_law_X00) gw_L_law_X50) gw_L_law_X40)) (by decide +kernel)
set_option maxRecDepth 20000 in
theorem gL_law_X9_office : GoodIn wsL_law (wsV RL 23 RX9 yX9_office wsX9_office) := goodIn_app (goodIn_sub (gw_c gw_w210 (gw_c gw_w209 (gw_c gw_w208 (gw_c gw_w169 gw_n)))) (by decide +kernel)) ggL_law_X9_office
set_option maxRecDepth 20000 in
theorem ggL_law_X10_office : GoodIn wsL_law wsX10_office := goodIn_sub (gw_c gw_w211 (gw_a (gw_c gw_w182 (gw_c gw_w134 (gw_c gw_w131 (gw_c gw_w181 (gw_c gw_w180 (gw_c gw_w179 (gw_c gw_w178 (gw_c gw_w177 (gw_c gw_w129 (gw_c gw_w215 (gw_c gw_w214 (gw_c gw_w213 (gw_c gw_w212 (gw_c gw_w176 (gw_c gw_w175 (gw_c gw_w174 gw_n)))))))))))))))) gw_L_law_X100)) (by decide +kernel)
set_option maxRecDepth 20000 in
theorem gL_law_X10_office : GoodIn wsL_law (wsV RL 27 RX10 yX10_office wsX10_office) := goodIn_app (goodIn_sub (gw_c gw_w218 (gw_c gw_w217 (gw_c gw_w216 (gw_c gw_w178 gw_n)))) (by decide +kernel)) ggL_law_X10_office
set_option maxRecDepth 20000 in
theorem ggL_law_X9_share : GoodIn wsL_law wsX9_share := goodIn_sub (gw_c gw_w219 (gw_a (gw_a (gw_c gw_w18 (gw_c gw_w220 (gw_c gw_w207 (gw_c gw_w206 (gw_c gw_w169 (gw_c gw_w205 gw_n)))))) gw_L_law_X90) gw_L_law_X00)) (by decide +kernel)
set_option maxRecDepth 20000 in
theorem gL_law_X9_share : GoodIn wsL_law (wsV RL 28 RX9 yX9_share wsX9_share) := goodIn_app (goodIn_sub (gw_c gw_w223 (gw_c gw_w222 (gw_c gw_w221 (gw_c gw_w169 gw_n)))) (by decide +kernel)) ggL_law_X9_share
set_option maxRecDepth 20000 in
theorem ggL_law_X10_share : GoodIn wsL_law wsX10_share := goodIn_sub (gw_c gw_w224 (gw_a (gw_c gw_w182 (gw_c gw_w130 (gw_c gw_w176 (gw_c gw_w175 (gw_c gw_w178 (gw_c gw_w174 (gw_c gw_w215 (gw_c gw_w214 (gw_c gw_w213 (gw_c gw_w212 gw_n)))))))))) gw_L_law_X100)) (by decide +kernel)
set_option maxRecDepth 20000 in
theorem gL_law_X10_share : GoodIn wsL_law (wsV RL 31 RX10 yX10_share wsX10_share) := goodIn_app (goodIn_sub (gw_c gw_w227 (gw_c gw_w226 (gw_c gw_w225 (gw_c gw_w178 gw_n)))) (by decide +kernel)) ggL_law_X10_share
set_option maxRecDepth 20000 in
theorem ggL_law_X9_run : GoodIn wsL_law wsX9_run := goodIn_sub (gw_c gw_w228 (gw_a (gw_a (gw_a (gw_a (gw_a (gw_c gw_w18 (gw_c gw_w168 (gw_c gw_w220 (gw_c gw_w243 (gw_c gw_w242 (gw_c gw_w241 (gw_c gw_w47 (gw_c gw_w240 (gw_c gw_w58 (gw_c gw_w239 (gw_c gw_w238 (gw_c gw_w237 (gw_c gw_w19 (gw_c gw_w236 (gw_c gw_w235 (gw_c gw_w2 (gw_c gw_w234 (gw_c gw_w233 (gw_c gw_w232 (gw_c gw_w3 (gw_c gw_w231 (gw_c gw_w71 (gw_c gw_w230 (gw_c gw_w229 gw_n)))))))))))))))))))))))) (gw_c gw_w250 (gw_c gw_w249 (gw_c gw_w248 (gw_c gw_w57 (gw_c gw_w247 (gw_c gw_w246 (gw_c gw_w245 (gw_c gw_w244 gw_n))))))))) gw_L_law_X90) gw_L_law_X00) gw_L_law_X50) gw_L_law_X40)) (by decide +kernel)
set_option maxRecDepth 20000 in
theorem gL_law_X9_run : GoodIn wsL_law (wsV RL 32 RX9 yX9_run wsX9_run) := goodIn_app (goodIn_sub (gw_c gw_w253 (gw_c gw_w252 (gw_c gw_w251 (gw_c gw_w169 gw_n)))) (by decide +kernel)) ggL_law_X9_run
set_option maxRecDepth 20000 in
theorem ggL_law_X10_run : GoodIn wsL_law wsX10_run := goodIn_sub (gw_c gw_w254 (gw_a (gw_c gw_w182 (gw_c gw_w129 (gw_c gw_w156 (gw_c gw_w128 (gw_c gw_w130 (gw_c gw_w176 (gw_c gw_w175 (gw_c gw_w178 (gw_c gw_w174 gw_n))))))))) gw_L_law_X100)) (by decide +kernel)
set_option maxRecDepth 20000 in
theorem gL_law_X10_run : GoodIn wsL_law (wsV RL 35 RX10 yX10_run wsX10_run) := goodIn_app (goodIn_sub (gw_c gw_w257 (gw_c gw_w256 (gw_c gw_w255 (gw_c gw_w178 gw_n)))) (by decide +kernel)) ggL_law_X10_run
set_option maxRecDepth 20000 in
theorem ggL_law_X9_sell : GoodIn wsL_law wsX9_sell := goodIn_sub (gw_c gw_w258 (gw_a (gw_a (gw_a (gw_a (gw_a (gw_a (gw_c gw_w18 (gw_c gw_w207 (gw_c gw_w206 (gw_c gw_w169 (gw_c gw_w205 (gw_c gw_w267 (gw_c gw_w266 (gw_c gw_w265 (gw_c gw_w19 (gw_c gw_w264 (gw_c gw_w46 (gw_c gw_w2 (gw_c gw_w263 (gw_c gw_w242 (gw_c gw_w241 (gw_c gw_w47 (gw_c gw_w240 (gw_c gw_w58 (gw_c gw_w262 (gw_c gw_w261 (gw_c gw_w260 (gw_c gw_w3 (gw_c gw_w259 (gw_c gw_w66 gw_n)))))))))))))))))))))))) (gw_a (gw_c gw_w280 (gw_c gw_w279 (gw_c gw_w278 (gw_c gw_w277 (gw_c gw_w42 (gw_c gw_w276 (gw_c gw_w275 (gw_c gw_w274 (gw_c gw_w43 (gw_c gw_w273 (gw_c gw_w272 (gw_c gw_w271 (gw_c gw_w238 (gw_c gw_w237 (gw_c gw_w236 (gw_c gw_w235 (gw_c gw_w234 (gw_c gw_w233 (gw_c gw_w232 (gw_c gw_w231 (gw_c gw_w71 (gw_c gw_w270 (gw_c gw_w269 (gw_c gw_w268 gw_n)))))))))))))))))))))))) (gw_a (gw_c gw_w302 (gw_c gw_w301 (gw_c gw_w300 (gw_c gw_w299 (gw_c gw_w298 (gw_c gw_w297 (gw_c gw_w296 (gw_c gw_w56 (gw_c gw_w295 (gw_c gw_w294 (gw_c gw_w293 (gw_c gw_w292 (gw_c gw_w291 (gw_c gw_w290 (gw_c gw_w289 (gw_c gw_w288 (gw_c gw_w287 (gw_c gw_w286 (gw_c gw_w57 (gw_c gw_w285 (gw_c gw_w284 (gw_c gw_w283 (gw_c gw_w282 (gw_c gw_w281 gw_n)))))))))))))))))))))))) (gw_c gw_w315 (gw_c gw_w314 (gw_c gw_w313 (gw_c gw_w312 (gw_c gw_w311 (gw_c gw_w310 (gw_c gw_w309 (gw_c gw_w308 (gw_c gw_w307 (gw_c gw_w306 (gw_c gw_w305 (gw_c gw_w304 (gw_c gw_w52 (gw_c gw_w51 (gw_c gw_w50 (gw_c gw_w49 (gw_c gw_w96 (gw_c gw_w95 (gw_c gw_w303 gw_n)))))))))))))))))))))) gw_L_law_X90) gw_L_law_X00) gw_L_law_X50) gw_L_law_X40) gw_L_law_X70)) (by decide +kernel)
set_option maxRecDepth 20000 in
theorem gL_law_X9_sell : GoodIn wsL_law (wsV RL 36 RX9 yX9_sell wsX9_sell) := goodIn_app (goodIn_sub (gw_c gw_w318 (gw_c gw_w317 (gw_c gw_w316 (gw_c gw_w169 gw_n)))) (by decide +kernel)) ggL_law_X9_sell
set_option maxRecDepth 20000 in
theorem ggL_law_X10_sell : GoodIn wsL_law wsX10_sell := goodIn_sub (gw_c gw_w319 (gw_a (gw_a (gw_c gw_w182 (gw_c gw_w331 (gw_c gw_w330 (gw_c gw_w329 (gw_c gw_w178 (gw_c gw_w328 (gw_c gw_w126 (gw_c gw_w215 (gw_c gw_w214 (gw_c gw_w213 (gw_c gw_w212 (gw_c gw_w176 (gw_c gw_w175 (gw_c gw_w174 (gw_c gw_w327 (gw_c gw_w326 (gw_c gw_w325 (gw_c gw_w324 (gw_c gw_w129 (gw_c gw_w323 (gw_c gw_w322 (gw_c gw_w321 (gw_c gw_w320 (gw_c gw_w134 gw_n)))))))))))))))))))))))) (gw_a (gw_c gw_w345 (gw_c gw_w344 (gw_c gw_w343 (gw_c gw_w342 (gw_c gw_w156 (gw_c gw_w128 (gw_c gw_w125 (gw_c gw_w124 (gw_c gw_w123 (gw_c gw_w122 (gw_c gw_w121 (gw_c gw_w120 (gw_c gw_w127 (gw_c gw_w341 (gw_c gw_w340 (gw_c gw_w339 (gw_c gw_w338 (gw_c gw_w337 (gw_c gw_w336 (gw_c gw_w335 (gw_c gw_w334 (gw_c gw_w132 (gw_c gw_w333 (gw_c gw_w332 gw_n)))))))))))))))))))))))) (gw_c gw_w355 (gw_c gw_w354 (gw_c gw_w353 (gw_c gw_w352 (gw_c gw_w351 (gw_c gw_w350 (gw_c gw_w349 (gw_c gw_w348 (gw_c gw_w347 (gw_c gw_w346 gw_n)))))))))))) gw_L_law_X100)) (by decide +kernel)
set_option maxRecDepth 20000 in
theorem gL_law_X10_sell : GoodIn wsL_law (wsV RL 40 RX10 yX10_sell wsX10_sell) := goodIn_app (goodIn_sub (gw_c gw_w358 (gw_c gw_w357 (gw_c gw_w356 (gw_c gw_w178 gw_n)))) (by decide +kernel)) ggL_law_X10_sell
set_option maxRecDepth 20000 in
theorem ggL_law_X9_back : GoodIn wsL_law wsX9_back := goodIn_sub (gw_c gw_w359 (gw_a (gw_a (gw_a (gw_a (gw_a (gw_a (gw_c gw_w18 (gw_c gw_w372 (gw_c gw_w371 (gw_c gw_w370 (gw_c gw_w369 (gw_c gw_w43 (gw_c gw_w368 (gw_c gw_w272 (gw_c gw_w367 (gw_c gw_w366 (gw_c gw_w365 (gw_c gw_w19 (gw_c gw_w364 (gw_c gw_w42 (gw_c gw_w363 (gw_c gw_w362 (gw_c gw_w361 (gw_c gw_w360 (gw_c gw_w46 (gw_c gw_w271 (gw_c gw_w238 (gw_c gw_w237 (gw_c gw_w236 (gw_c gw_w235 gw_n)))))))))))))))))))))))) (gw_a (gw_c gw_w2 (gw_c gw_w234 (gw_c gw_w233 (gw_c gw_w232 (gw_c gw_w3 (gw_c gw_w231 (gw_c gw_w71 (gw_c gw_w299 (gw_c gw_w298 (gw_c gw_w297 (gw_c gw_w47 (gw_c gw_w296 (gw_c gw_w56 (gw_c gw_w376 (gw_c gw_w375 (gw_c gw_w374 (gw_c gw_w373 (gw_c gw_w50 (gw_c gw_w49 (gw_c gw_w295 (gw_c gw_w169 (gw_c gw_w294 (gw_c gw_w311 (gw_c gw_w310 gw_n)))))))))))))))))))))))) (gw_c gw_w309 (gw_c gw_w308 gw_n)))) gw_L_law_X90) gw_L_law_X00) gw_L_law_X70) gw_L_law_X40) gw_L_law_X50)) (by decide +kernel)
set_option maxRecDepth 20000 in
theorem gL_law_X9_back : GoodIn wsL_law (wsV RL 41 RX9 yX9_back wsX9_back) := goodIn_app (goodIn_sub (gw_c gw_w379 (gw_c gw_w378 (gw_c gw_w377 (gw_c gw_w169 gw_n)))) (by decide +kernel)) ggL_law_X9_back
set_option maxRecDepth 20000 in
theorem ggL_law_X10_back : GoodIn wsL_law wsX10_back := goodIn_sub (gw_c gw_w380 (gw_a (gw_a (gw_c gw_w182 (gw_c gw_w126 (gw_c gw_w120 (gw_c gw_w156 (gw_c gw_w125 (gw_c gw_w123 (gw_c gw_w122 (gw_c gw_w127 (gw_c gw_w124 (gw_c gw_w176 (gw_c gw_w175 (gw_c gw_w178 (gw_c gw_w174 (gw_c gw_w341 (gw_c gw_w340 (gw_c gw_w339 (gw_c gw_w338 (gw_c gw_w337 (gw_c gw_w336 (gw_c gw_w335 (gw_c gw_w334 (gw_c gw_w132 (gw_c gw_w353 (gw_c gw_w352 gw_n)))))))))))))))))))))))) (gw_c gw_w351 (gw_c gw_w350 gw_n))) gw_L_law_X100)) (by decide +kernel)
set_option maxRecDepth 20000 in
theorem gL_law_X10_back : GoodIn wsL_law (wsV RL 44 RX10 yX10_back wsX10_back) := goodIn_app (goodIn_sub (gw_c gw_w383 (gw_c gw_w382 (gw_c gw_w381 (gw_c gw_w178 gw_n)))) (by decide +kernel)) ggL_law_X10_back
set_option maxRecDepth 20000 in
theorem ggL_law_X9_letter : GoodIn wsL_law wsX9_letter := goodIn_sub (gw_c gw_w384 (gw_a (gw_a (gw_a (gw_a (gw_a (gw_a (gw_a (gw_c gw_w18 (gw_c gw_w372 (gw_c gw_w386 (gw_c gw_w385 (gw_c gw_w207 (gw_c gw_w206 (gw_c gw_w169 (gw_c gw_w205 (gw_c gw_w267 (gw_c gw_w266 (gw_c gw_w265 (gw_c gw_w19 (gw_c gw_w264 (gw_c gw_w46 (gw_c gw_w2 (gw_c gw_w263 (gw_c gw_w242 (gw_c gw_w241 (gw_c gw_w47 (gw_c gw_w240 (gw_c gw_w58 (gw_c gw_w262 (gw_c gw_w261 (gw_c gw_w260 gw_n)))))))))))))))))))))))) (gw_a (gw_c gw_w3 (gw_c gw_w259 (gw_c gw_w66 (gw_c gw_w396 (gw_c gw_w275 (gw_c gw_w274 (gw_c gw_w43 (gw_c gw_w273 (gw_c gw_w272 (gw_c gw_w395 (gw_c gw_w394 (gw_c gw_w393 (gw_c gw_w392 (gw_c gw_w32 (gw_c gw_w391 (gw_c gw_w390 (gw_c gw_w389 (gw_c gw_w388 (gw_c gw_w234 (gw_c gw_w233 (gw_c gw_w232 (gw_c gw_w231 (gw_c gw_w71 (gw_c gw_w387 gw_n)))))))))))))))))))))))) (gw_c gw_w400 (gw_c gw_w399 (gw_c gw_w39 (gw_c gw_w398 (gw_c gw_w397 (gw_c gw_w91 (gw_c gw_w90 (gw_c gw_w89 (gw_c gw_w88 (gw_c gw_w87 (gw_c gw_w86 (gw_c gw_w85 gw_n)))))))))))))) gw_L_law_X90) gw_L_law_X00) gw_L_law_X50) gw_L_law_X40) gw_L_law_X70) gw_L_law_X10)) (by decide +kernel)
set_option maxRecDepth 20000 in
theorem gL_law_X9_letter : GoodIn wsL_law (wsV RL 45 RX9 yX9_letter wsX9_letter) := goodIn_app (goodIn_sub (gw_c gw_w403 (gw_c gw_w402 (gw_c gw_w401 (gw_c gw_w169 gw_n)))) (by decide +kernel)) ggL_law_X9_letter
set_option maxRecDepth 20000 in
theorem ggL_law_X10_letter : GoodIn wsL_law wsX10_letter := goodIn_sub (gw_c gw_w404 (gw_a (gw_a (gw_c gw_w182 (gw_c gw_w119 (gw_c gw_w118 (gw_c gw_w156 (gw_c gw_w117 (gw_c gw_w161 (gw_c gw_w160 (gw_c gw_w159 (gw_c gw_w158 (gw_c gw_w157 (gw_c gw_w215 (gw_c gw_w214 (gw_c gw_w213 (gw_c gw_w178 (gw_c gw_w212 (gw_c gw_w176 (gw_c gw_w175 (gw_c gw_w174 (gw_c gw_w331 (gw_c gw_w330 (gw_c gw_w329 (gw_c gw_w328 (gw_c gw_w126 (gw_c gw_w327 gw_n)))))))))))))))))))))))) (gw_c gw_w326 (gw_c gw_w325 (gw_c gw_w324 (gw_c gw_w129 (gw_c gw_w323 (gw_c gw_w322 (gw_c gw_w321 (gw_c gw_w320 (gw_c gw_w134 (gw_c gw_w408 (gw_c gw_w407 (gw_c gw_w406 (gw_c gw_w405 (gw_c gw_w131 (gw_c gw_w337 (gw_c gw_w336 (gw_c gw_w335 (gw_c gw_w334 (gw_c gw_w132 gw_n)))))))))))))))))))) gw_L_law_X100)) (by decide +kernel)
set_option maxRecDepth 20000 in
theorem gL_law_X10_letter : GoodIn wsL_law (wsV RL 49 RX10 yX10_letter wsX10_letter) := goodIn_app (goodIn_sub (gw_c gw_w411 (gw_c gw_w410 (gw_c gw_w409 (gw_c gw_w178 gw_n)))) (by decide +kernel)) ggL_law_X10_letter
set_option maxRecDepth 20000 in
theorem ggL_law_X9_post : GoodIn wsL_law wsX9_post := goodIn_sub (gw_c gw_w412 (gw_a (gw_a (gw_a (gw_c gw_w18 (gw_c gw_w386 (gw_c gw_w423 (gw_c gw_w422 (gw_c gw_w385 (gw_c gw_w421 (gw_c gw_w420 (gw_c gw_w419 (gw_c gw_w418 (gw_c gw_w39 (gw_c gw_w417 (gw_c gw_w397 (gw_c gw_w416 (gw_c gw_w415 (gw_c gw_w414 (gw_c gw_w413 (gw_c gw_w87 (gw_c gw_w86 gw_n)))))))))))))))))) gw_L_law_X90) gw_L_law_X00) gw_L_law_X10)) (by decide +kernel)
set_option maxRecDepth 20000 in
theorem gL_law_X9_post : GoodIn wsL_law (wsV RL 50 RX9 yX9_post wsX9_post) := goodIn_app (goodIn_sub (gw_c gw_w426 (gw_c gw_w425 (gw_c gw_w424 (gw_c gw_w169 gw_n)))) (by decide +kernel)) ggL_law_X9_post
set_option maxRecDepth 20000 in
theorem ggL_law_X10_post : GoodIn wsL_law wsX10_post := goodIn_sub (gw_c gw_w427 (gw_a (gw_c gw_w182 (gw_c gw_w119 (gw_c gw_w118 (gw_c gw_w117 (gw_c gw_w156 (gw_c gw_w157 (gw_c gw_w176 (gw_c gw_w175 (gw_c gw_w178 (gw_c gw_w174 gw_n)))))))))) gw_L_law_X100)) (by decide +kernel)
set_option maxRecDepth 20000 in
theorem gL_law_X10_post : GoodIn wsL_law (wsV RL 54 RX10 yX10_post wsX10_post) := goodIn_app (goodIn_sub (gw_c gw_w430 (gw_c gw_w429 (gw_c gw_w428 (gw_c gw_w178 gw_n)))) (by decide +kernel)) ggL_law_X10_post
set_option maxRecDepth 20000 in
theorem ggL_law_X9_hours : GoodIn wsL_law wsX9_hours := goodIn_sub (gw_c gw_w431 (gw_a (gw_a (gw_a (gw_a (gw_a (gw_a (gw_a (gw_c gw_w18 (gw_c gw_w385 (gw_c gw_w443 (gw_c gw_w442 (gw_c gw_w441 (gw_c gw_w19 (gw_c gw_w440 (gw_c gw_w235 (gw_c gw_w38 (gw_c gw_w439 (gw_c gw_w438 (gw_c gw_w437 (gw_c gw_w436 (gw_c gw_w435 (gw_c gw_w434 (gw_c gw_w433 (gw_c gw_w432 (gw_c gw_w279 (gw_c gw_w278 (gw_c gw_w277 (gw_c gw_w42 (gw_c gw_w46 (gw_c gw_w276 (gw_c gw_w275 gw_n)))))))))))))))))))))))) (gw_a (gw_c gw_w274 (gw_c gw_w43 (gw_c gw_w273 (gw_c gw_w272 (gw_c gw_w271 (gw_c gw_w238 (gw_c gw_w237 (gw_c gw_w236 (gw_c gw_w2 (gw_c gw_w234 (gw_c gw_w233 (gw_c gw_w232 (gw_c gw_w3 (gw_c gw_w231 (gw_c gw_w71 (gw_c gw_w270 (gw_c gw_w269 (gw_c gw_w268 (gw_c gw_w302 (gw_c gw_w301 (gw_c gw_w300 (gw_c gw_w299 (gw_c gw_w298 (gw_c gw_w297 gw_n)))))))))))))))))))))))) (gw_a (gw_c gw_w47 (gw_c gw_w296 (gw_c gw_w56 (gw_c gw_w295 (gw_c gw_w169 (gw_c gw_w294 (gw_c gw_w293 (gw_c gw_w292 (gw_c gw_w291 (gw_c gw_w290 (gw_c gw_w289 (gw_c gw_w288 (gw_c gw_w287 (gw_c gw_w286 (gw_c gw_w57 (gw_c gw_w285 (gw_c gw_w284 (gw_c gw_w283 (gw_c gw_w282 (gw_c gw_w281 (gw_c gw_w315 (gw_c gw_w314 (gw_c gw_w313 (gw_c gw_w312 gw_n)))))))))))))))))))))))) (gw_c gw_w311 (gw_c gw_w310 (gw_c gw_w309 (gw_c gw_w308 (gw_c gw_w307 (gw_c gw_w306 (gw_c gw_w305 (gw_c gw_w304 (gw_c gw_w52 (gw_c gw_w51 (gw_c gw_w50 (gw_c gw_w49 (gw_c gw_w96 (gw_c gw_w95 (gw_c gw_w303 gw_n)))))))))))))))))) gw_L_law_X90) gw_L_law_X00) gw_L_law_X10) gw_L_law_X70) gw_L_law_X40) gw_L_law_X50)) (by decide +kernel)
set_option maxRecDepth 20000 in
theorem gL_law_X9_hours : GoodIn wsL_law (wsV RL 55 RX9 yX9_hours wsX9_hours) := goodIn_app (goodIn_sub (gw_c gw_w446 (gw_c gw_w445 (gw_c gw_w444 (gw_c gw_w169 gw_n)))) (by decide +kernel)) ggL_law_X9_hours
set_option maxRecDepth 20000 in
theorem ggL_law_X10_hours : GoodIn wsL_law wsX10_hours := goodIn_sub (gw_c gw_w447 (gw_a (gw_a (gw_c gw_w182 (gw_c gw_w156 (gw_c gw_w119 (gw_c gw_w118 (gw_c gw_w157 (gw_c gw_w161 (gw_c gw_w160 (gw_c gw_w159 (gw_c gw_w158 (gw_c gw_w176 (gw_c gw_w175 (gw_c gw_w178 (gw_c gw_w174 (gw_c gw_w345 (gw_c gw_w344 (gw_c gw_w343 (gw_c gw_w342 (gw_c gw_w126 (gw_c gw_w129 (gw_c gw_w128 (gw_c gw_w125 (gw_c gw_w124 (gw_c gw_w123 (gw_c gw_w122 gw_n)))))))))))))))))))))))) (gw_a (gw_c gw_w121 (gw_c gw_w120 (gw_c gw_w127 (gw_c gw_w341 (gw_c gw_w340 (gw_c gw_w339 (gw_c gw_w338 (gw_c gw_w337 (gw_c gw_w336 (gw_c gw_w335 (gw_c gw_w334 (gw_c gw_w132 (gw_c gw_w333 (gw_c gw_w332 (gw_c gw_w355 (gw_c gw_w354 (gw_c gw_w353 (gw_c gw_w352 (gw_c gw_w351 (gw_c gw_w350 (gw_c gw_w349 (gw_c gw_w348 (gw_c gw_w347 (gw_c gw_w346 gw_n)))))))))))))))))))))))) (gw_c gw_w134 gw_n))) gw_L_law_X100)) (by decide +kernel)
set_option maxRecDepth 20000 in
theorem gL_law_X10_hours : GoodIn wsL_law (wsV RL 59 RX10 yX10_hours wsX10_hours) := goodIn_app (goodIn_sub (gw_c gw_w450 (gw_c gw_w449 (gw_c gw_w448 (gw_c gw_w178 gw_n)))) (by decide +kernel)) ggL_law_X10_hours
set_option maxRecDepth 20000 in
theorem ggL_law_X9_moved : GoodIn wsL_law wsX9_moved := goodIn_sub (gw_c gw_w451 (gw_a (gw_a (gw_a (gw_a (gw_a (gw_a (gw_c gw_w18 (gw_c gw_w168 (gw_c gw_w243 (gw_c gw_w242 (gw_c gw_w241 (gw_c gw_w47 (gw_c gw_w240 (gw_c gw_w58 (gw_c gw_w239 (gw_c gw_w238 (gw_c gw_w237 (gw_c gw_w19 (gw_c gw_w236 (gw_c gw_w235 (gw_c gw_w2 (gw_c gw_w234 (gw_c gw_w233 (gw_c gw_w232 (gw_c gw_w3 (gw_c gw_w231 (gw_c gw_w71 (gw_c gw_w454 (gw_c gw_w453 (gw_c gw_w452 gw_n)))))))))))))))))))))))) (gw_a (gw_c gw_w465 (gw_c gw_w30 (gw_c gw_w300 (gw_c gw_w42 (gw_c gw_w464 (gw_c gw_w361 (gw_c gw_w46 (gw_c gw_w301 (gw_c gw_w463 (gw_c gw_w64 (gw_c gw_w63 (gw_c gw_w62 (gw_c gw_w462 (gw_c gw_w461 (gw_c gw_w460 (gw_c gw_w43 (gw_c gw_w459 (gw_c gw_w95 (gw_c gw_w52 (gw_c gw_w458 (gw_c gw_w457 (gw_c gw_w456 (gw_c gw_w455 (gw_c gw_w360 gw_n)))))))))))))))))))))))) (gw_c gw_w289 (gw_c gw_w288 (gw_c gw_w287 (gw_c gw_w286 (gw_c gw_w57 (gw_c gw_w376 (gw_c gw_w375 (gw_c gw_w374 (gw_c gw_w373 (gw_c gw_w50 (gw_c gw_w49 (gw_c gw_w295 (gw_c gw_w169 (gw_c gw_w294 (gw_c gw_w293 (gw_c gw_w292 (gw_c gw_w291 (gw_c gw_w290 (gw_c gw_w311 (gw_c gw_w310 (gw_c gw_w309 (gw_c gw_w308 (gw_c gw_w56 gw_n))))))))))))))))))))))))) gw_L_law_X90) gw_L_law_X00) gw_L_law_X50) gw_L_law_X40) gw_L_law_X70)) (by decide +kernel)
set_option maxRecDepth 20000 in
theorem gL_law_X9_moved : GoodIn wsL_law (wsV RL 60 RX9 yX9_moved wsX9_moved) := goodIn_app (goodIn_sub (gw_c gw_w468 (gw_c gw_w467 (gw_c gw_w466 (gw_c gw_w169 gw_n)))) (by decide +kernel)) ggL_law_X9_moved
set_option maxRecDepth 20000 in
theorem ggL_law_X10_moved : GoodIn wsL_law wsX10_moved := goodIn_sub (gw_c gw_w469 (gw_a (gw_a (gw_c gw_w182 (gw_c gw_w126 (gw_c gw_w147 (gw_c gw_w124 (gw_c gw_w127 (gw_c gw_w125 (gw_c gw_w120 (gw_c gw_w123 (gw_c gw_w122 (gw_c gw_w327 (gw_c gw_w326 (gw_c gw_w325 (gw_c gw_w178 (gw_c gw_w324 (gw_c gw_w129 (gw_c gw_w176 (gw_c gw_w175 (gw_c gw_w174 (gw_c gw_w474 (gw_c gw_w473 (gw_c gw_w472 (gw_c gw_w471 (gw_c gw_w156 (gw_c gw_w470 gw_n)))))))))))))))))))))))) (gw_c gw_w485 (gw_c gw_w484 (gw_c gw_w483 (gw_c gw_w148 (gw_c gw_w482 (gw_c gw_w481 (gw_c gw_w480 (gw_c gw_w479 (gw_c gw_w128 (gw_c gw_w478 (gw_c gw_w477 (gw_c gw_w476 (gw_c gw_w475 (gw_c gw_w353 (gw_c gw_w352 (gw_c gw_w351 (gw_c gw_w350 gw_n)))))))))))))))))) gw_L_law_X100)) (by decide +kernel)
set_option maxRecDepth 20000 in
theorem gL_law_X10_moved : GoodIn wsL_law (wsV RL 63 RX10 yX10_moved wsX10_moved) := goodIn_app (goodIn_sub (gw_c gw_w488 (gw_c gw_w487 (gw_c gw_w486 (gw_c gw_w178 gw_n)))) (by decide +kernel)) ggL_law_X10_moved
set_option maxRecDepth 20000 in
theorem ggL_law_X9_wouldFit : GoodIn wsL_law wsX9_wouldFit := goodIn_sub (gw_c gw_w489 (gw_a (gw_a (gw_a (gw_a (gw_a (gw_c gw_w18 (gw_c gw_w207 (gw_c gw_w206 (gw_c gw_w169 (gw_c gw_w205 (gw_c gw_w267 (gw_c gw_w266 (gw_c gw_w265 (gw_c gw_w19 (gw_c gw_w264 (gw_c gw_w46 (gw_c gw_w2 (gw_c gw_w263 (gw_c gw_w242 (gw_c gw_w241 (gw_c gw_w47 (gw_c gw_w240 (gw_c gw_w58 (gw_c gw_w262 (gw_c gw_w261 (gw_c gw_w260 (gw_c gw_w3 (gw_c gw_w259 (gw_c gw_w66 gw_n)))))))))))))))))))))))) (gw_a (gw_c gw_w239 (gw_c gw_w238 (gw_c gw_w237 (gw_c gw_w236 (gw_c gw_w235 (gw_c gw_w234 (gw_c gw_w233 (gw_c gw_w232 (gw_c gw_w231 (gw_c gw_w71 (gw_c gw_w497 (gw_c gw_w496 (gw_c gw_w495 (gw_c gw_w494 (gw_c gw_w493 (gw_c gw_w492 (gw_c gw_w491 (gw_c gw_w490 (gw_c gw_w301 (gw_c gw_w293 (gw_c gw_w292 (gw_c gw_w291 (gw_c gw_w290 (gw_c gw_w289 gw_n)))))))))))))))))))))))) (gw_c gw_w288 (gw_c gw_w287 (gw_c gw_w286 (gw_c gw_w57 (gw_c gw_w498 (gw_c gw_w315 (gw_c gw_w314 (gw_c gw_w313 (gw_c gw_w312 (gw_c gw_w298 (gw_c gw_w297 (gw_c gw_w296 (gw_c gw_w56 gw_n))))))))))))))) gw_L_law_X90) gw_L_law_X00) gw_L_law_X50) gw_L_law_X40)) (by decide +kernel)
set_option maxRecDepth 20000 in
theorem gL_law_X9_wouldFit : GoodIn wsL_law (wsV RL 64 RX9 yX9_wouldFit wsX9_wouldFit) := goodIn_app (goodIn_sub (gw_c gw_w501 (gw_c gw_w500 (gw_c gw_w499 (gw_c gw_w169 gw_n)))) (by decide +kernel)) ggL_law_X9_wouldFit
set_option maxRecDepth 20000 in
theorem ggL_law_X10_wouldFit : GoodIn wsL_law wsX10_wouldFit := goodIn_sub (gw_c gw_w502 (gw_a (gw_a (gw_c gw_w182 (gw_c gw_w215 (gw_c gw_w214 (gw_c gw_w213 (gw_c gw_w178 (gw_c gw_w212 (gw_c gw_w176 (gw_c gw_w175 (gw_c gw_w174 (gw_c gw_w327 (gw_c gw_w326 (gw_c gw_w325 (gw_c gw_w324 (gw_c gw_w129 (gw_c gw_w474 (gw_c gw_w473 (gw_c gw_w472 (gw_c gw_w471 (gw_c gw_w156 (gw_c gw_w323 (gw_c gw_w322 (gw_c gw_w321 (gw_c gw_w320 (gw_c gw_w134 gw_n)))))))))))))))))))))))) (gw_c gw_w470 (gw_c gw_w485 (gw_c gw_w484 (gw_c gw_w483 (gw_c gw_w148 (gw_c gw_w123 (gw_c gw_w122 (gw_c gw_w147 (gw_c gw_w482 (gw_c gw_w481 (gw_c gw_w480 (gw_c gw_w479 (gw_c gw_w126 (gw_c gw_w120 (gw_c gw_w125 (gw_c gw_w128 (gw_c gw_w124 (gw_c gw_w478 (gw_c gw_w477 (gw_c gw_w476 (gw_c gw_w475 gw_n)))))))))))))))))))))) gw_L_law_X100)) (by decide +kernel)
set_option maxRecDepth 20000 in
theorem gL_law_X10_wouldFit : GoodIn wsL_law (wsV RL 68 RX10 yX10_wouldFit wsX10_wouldFit) := goodIn_app (goodIn_sub (gw_c gw_w505 (gw_c gw_w504 (gw_c gw_w503 (gw_c gw_w178 gw_n)))) (by decide +kernel)) ggL_law_X10_wouldFit
set_option maxRecDepth 20000 in
theorem ggL_law_X9_ticket : GoodIn wsL_law wsX9_ticket := goodIn_sub (gw_c gw_w506 (gw_a (gw_a (gw_a (gw_c gw_w18 (gw_c gw_w372 (gw_c gw_w512 (gw_c gw_w511 (gw_c gw_w510 (gw_c gw_w509 (gw_c gw_w508 (gw_c gw_w507 (gw_c gw_w371 (gw_c gw_w370 (gw_c gw_w369 (gw_c gw_w43 (gw_c gw_w368 (gw_c gw_w272 gw_n)))))))))))))) gw_L_law_X90) gw_L_law_X00) gw_L_law_X70)) (by decide +kernel)
set_option maxRecDepth 20000 in
theorem gL_law_X9_ticket : GoodIn wsL_law (wsV RL 69 RX9 yX9_ticket wsX9_ticket) := goodIn_app (goodIn_sub (gw_c gw_w515 (gw_c gw_w514 (gw_c gw_w513 (gw_c gw_w169 gw_n)))) (by decide +kernel)) ggL_law_X9_ticket
set_option maxRecDepth 20000 in
theorem ggL_law_X10_ticket : GoodIn wsL_law wsX10_ticket := goodIn_sub (gw_c gw_w516 (gw_a (gw_c gw_w182 (gw_c gw_w126 (gw_c gw_w125 (gw_c gw_w124 (gw_c gw_w123 (gw_c gw_w122 (gw_c gw_w121 (gw_c gw_w120 (gw_c gw_w176 (gw_c gw_w175 (gw_c gw_w178 (gw_c gw_w174 gw_n)))))))))))) gw_L_law_X100)) (by decide +kernel)
set_option maxRecDepth 20000 in
theorem gL_law_X10_ticket : GoodIn wsL_law (wsV RL 72 RX10 yX10_ticket wsX10_ticket) := goodIn_app (goodIn_sub (gw_c gw_w519 (gw_c gw_w518 (gw_c gw_w517 (gw_c gw_w178 gw_n)))) (by decide +kernel)) ggL_law_X10_ticket
set_option maxRecDepth 20000 in
theorem ggL_law_X9_lies : GoodIn wsL_law wsX9_lies := goodIn_sub (gw_c gw_w520 (gw_a (gw_a (gw_a (gw_a (gw_a (gw_a (gw_c gw_w18 (gw_c gw_w168 (gw_c gw_w166 (gw_c gw_w372 (gw_c gw_w528 (gw_c gw_w527 (gw_c gw_w526 (gw_c gw_w47 (gw_c gw_w525 (gw_c gw_w58 (gw_c gw_w524 (gw_c gw_w242 (gw_c gw_w241 (gw_c gw_w240 (gw_c gw_w190 (gw_c gw_w189 (gw_c gw_w188 (gw_c gw_w3 (gw_c gw_w187 (gw_c gw_w66 (gw_c gw_w523 (gw_c gw_w522 (gw_c gw_w521 (gw_c gw_w43 gw_n)))))))))))))))))))))))) (gw_c gw_w530 (gw_c gw_w272 (gw_c gw_w51 (gw_c gw_w50 (gw_c gw_w49 (gw_c gw_w529 (gw_c gw_w461 (gw_c gw_w460 (gw_c gw_w459 (gw_c gw_w95 (gw_c gw_w52 gw_n)))))))))))) gw_L_law_X90) gw_L_law_X00) gw_L_law_X50) gw_L_law_X40) gw_L_law_X70)) (by decide +kernel)
set_option maxRecDepth 20000 in
theorem gL_law_X9_lies : GoodIn wsL_law (wsV RL 73 RX9 yX9_lies wsX9_lies) := goodIn_app (goodIn_sub (gw_c gw_w533 (gw_c gw_w532 (gw_c gw_w531 (gw_c gw_w169 gw_n)))) (by decide +kernel)) ggL_law_X9_lies
set_option maxRecDepth 20000 in
theorem ggL_law_X10_lies : GoodIn wsL_law wsX10_lies := goodIn_sub (gw_c gw_w534 (gw_a (gw_c gw_w182 (gw_c gw_w129 (gw_c gw_w134 (gw_c gw_w127 (gw_c gw_w327 (gw_c gw_w326 (gw_c gw_w325 (gw_c gw_w178 (gw_c gw_w324 (gw_c gw_w176 (gw_c gw_w175 (gw_c gw_w174 (gw_c gw_w353 (gw_c gw_w352 (gw_c gw_w351 (gw_c gw_w350 gw_n)))))))))))))))) gw_L_law_X100)) (by decide +kernel)
set_option maxRecDepth 20000 in
theorem gL_law_X10_lies : GoodIn wsL_law (wsV RL 77 RX10 yX10_lies wsX10_lies) := goodIn_app (goodIn_sub (gw_c gw_w537 (gw_c gw_w536 (gw_c gw_w535 (gw_c gw_w178 gw_n)))) (by decide +kernel)) ggL_law_X10_lies
set_option maxRecDepth 20000 in
theorem ggL_law_X9_told : GoodIn wsL_law wsX9_told := goodIn_sub (gw_c gw_w538 (gw_a (gw_a (gw_a (gw_a (gw_a (gw_a (gw_c gw_w18 (gw_c gw_w168 (gw_c gw_w545 (gw_c gw_w372 (gw_c gw_w243 (gw_c gw_w242 (gw_c gw_w241 (gw_c gw_w47 (gw_c gw_w240 (gw_c gw_w58 (gw_c gw_w544 (gw_c gw_w543 (gw_c gw_w542 (gw_c gw_w43 (gw_c gw_w541 (gw_c gw_w272 (gw_c gw_w529 (gw_c gw_w461 (gw_c gw_w460 (gw_c gw_w459 (gw_c gw_w95 (gw_c gw_w52 (gw_c gw_w540 (gw_c gw_w539 gw_n)))))))))))))))))))))))) (gw_a (gw_c gw_w555 (gw_c gw_w19 (gw_c gw_w554 (gw_c gw_w2 (gw_c gw_w300 (gw_c gw_w46 (gw_c gw_w553 (gw_c gw_w552 (gw_c gw_w389 (gw_c gw_w551 (gw_c gw_w550 (gw_c gw_w549 (gw_c gw_w548 (gw_c gw_w547 (gw_c gw_w281 (gw_c gw_w315 (gw_c gw_w314 (gw_c gw_w313 (gw_c gw_w312 (gw_c gw_w298 (gw_c gw_w297 (gw_c gw_w296 (gw_c gw_w56 (gw_c gw_w546 gw_n)))))))))))))))))))))))) (gw_a (gw_c gw_w562 (gw_c gw_w561 (gw_c gw_w560 (gw_c gw_w239 (gw_c gw_w238 (gw_c gw_w237 (gw_c gw_w236 (gw_c gw_w235 (gw_c gw_w234 (gw_c gw_w233 (gw_c gw_w232 (gw_c gw_w3 (gw_c gw_w231 (gw_c gw_w71 (gw_c gw_w559 (gw_c gw_w558 (gw_c gw_w557 (gw_c gw_w169 (gw_c gw_w556 (gw_c gw_w528 (gw_c gw_w527 (gw_c gw_w526 (gw_c gw_w525 (gw_c gw_w524 gw_n)))))))))))))))))))))))) (gw_c gw_w563 (gw_c gw_w288 (gw_c gw_w287 (gw_c gw_w286 (gw_c gw_w57 gw_n)))))))) gw_L_law_X90) gw_L_law_X00) gw_L_law_X50) gw_L_law_X70) gw_L_law_X40)) (by decide +kernel)
set_option maxRecDepth 20000 in
theorem gL_law_X9_told : GoodIn wsL_law (wsV RL 78 RX9 yX9_told wsX9_told) := goodIn_app (goodIn_sub (gw_c gw_w566 (gw_c gw_w565 (gw_c gw_w564 (gw_c gw_w169 gw_n)))) (by decide +kernel)) ggL_law_X9_told
set_option maxRecDepth 20000 in
theorem ggL_law_X10_told : GoodIn wsL_law wsX10_told := goodIn_sub (gw_c gw_w567 (gw_a (gw_a (gw_c gw_w182 (gw_c gw_w129 (gw_c gw_w126 (gw_c gw_w125 (gw_c gw_w120 (gw_c gw_w134 (gw_c gw_w128 (gw_c gw_w327 (gw_c gw_w326 (gw_c gw_w325 (gw_c gw_w178 (gw_c gw_w324 (gw_c gw_w176 (gw_c gw_w175 (gw_c gw_w174 (gw_c gw_w571 (gw_c gw_w570 (gw_c gw_w569 (gw_c gw_w568 (gw_c gw_w127 (gw_c gw_w353 (gw_c gw_w352 (gw_c gw_w351 (gw_c gw_w350 gw_n)))))))))))))))))))))))) (gw_c gw_w474 (gw_c gw_w473 (gw_c gw_w472 (gw_c gw_w471 (gw_c gw_w156 gw_n)))))) gw_L_law_X100)) (by decide +kernel)
set_option maxRecDepth 20000 in
theorem gL_law_X10_told : GoodIn wsL_law (wsV RL 81 RX10 yX10_told wsX10_told) := goodIn_app (goodIn_sub (gw_c gw_w574 (gw_c gw_w573 (gw_c gw_w572 (gw_c gw_w178 gw_n)))) (by decide +kernel)) ggL_law_X10_told
set_option maxRecDepth 20000 in
theorem ggL_law_X9_feed : GoodIn wsL_law wsX9_feed := goodIn_sub (gw_c gw_w575 (gw_a (gw_a (gw_c gw_w13 (gw_c gw_w581 (gw_c gw_w580 (gw_c gw_w579 (gw_c gw_w578 (gw_c gw_w14 (gw_c gw_w577 (gw_c gw_w576 (gw_c gw_w114 gw_n))))))))) gw_L_law_X90) gw_L_law_X60)) (by decide +kernel)
set_option maxRecDepth 20000 in
theorem gL_law_X9_feed : GoodIn wsL_law (wsV RL 82 RX9 yX9_feed wsX9_feed) := goodIn_app (goodIn_sub (gw_c gw_w584 (gw_c gw_w583 (gw_c gw_w582 (gw_c gw_w169 gw_n)))) (by decide +kernel)) ggL_law_X9_feed
set_option maxRecDepth 20000 in
theorem ggL_law_X10_feed : GoodIn wsL_law wsX10_feed := goodIn_sub (gw_c gw_w585 (gw_a (gw_c gw_w182 (gw_c gw_w590 (gw_c gw_w589 (gw_c gw_w588 (gw_c gw_w587 (gw_c gw_w178 (gw_c gw_w586 (gw_c gw_w135 gw_n)))))))) gw_L_law_X100)) (by decide +kernel)
set_option maxRecDepth 20000 in
theorem gL_law_X10_feed : GoodIn wsL_law (wsV RL 85 RX10 yX10_feed wsX10_feed) := goodIn_app (goodIn_sub (gw_c gw_w593 (gw_c gw_w592 (gw_c gw_w591 (gw_c gw_w178 gw_n)))) (by decide +kernel)) ggL_law_X10_feed
set_option maxRecDepth 20000 in
theorem ggL_law_X9_end : GoodIn wsL_law wsX9_end := goodIn_sub (gw_c gw_w594 (gw_a (gw_a (gw_c gw_w13 (gw_c gw_w581 gw_n)) gw_L_law_X90) gw_L_law_X60)) (by decide +kernel)
set_option maxRecDepth 20000 in
theorem gL_law_X9_end : GoodIn wsL_law (wsV RL 86 RX9 yX9_end wsX9_end) := goodIn_app (goodIn_sub (gw_c gw_w597 (gw_c gw_w596 (gw_c gw_w595 (gw_c gw_w169 gw_n)))) (by decide +kernel)) ggL_law_X9_end
set_option maxRecDepth 20000 in
theorem ggL_law_X10_end : GoodIn wsL_law wsX10_end := goodIn_sub (gw_c gw_w598 (gw_a (gw_c gw_w182 (gw_c gw_w590 (gw_c gw_w176 (gw_c gw_w175 (gw_c gw_w178 (gw_c gw_w174 gw_n)))))) gw_L_law_X100)) (by decide +kernel)
set_option maxRecDepth 20000 in
theorem gL_law_X10_end : GoodIn wsL_law (wsV RL 89 RX10 yX10_end wsX10_end) := goodIn_app (goodIn_sub (gw_c gw_w601 (gw_c gw_w600 (gw_c gw_w599 (gw_c gw_w178 gw_n)))) (by decide +kernel)) ggL_law_X10_end
set_option maxRecDepth 20000 in
theorem ggL_law_X9_contract : GoodIn wsL_law wsX9_contract := goodIn_sub (gw_c gw_w602 (gw_a (gw_a (gw_a (gw_a (gw_a (gw_a (gw_a (gw_c gw_w9 (gw_c gw_w13 (gw_c gw_w581 (gw_c gw_w616 (gw_c gw_w18 (gw_c gw_w615 (gw_c gw_w614 (gw_c gw_w613 (gw_c gw_w612 (gw_c gw_w611 (gw_c gw_w610 (gw_c gw_w10 (gw_c gw_w609 (gw_c gw_w110 (gw_c gw_w109 (gw_c gw_w608 (gw_c gw_w607 (gw_c gw_w107 (gw_c gw_w103 (gw_c gw_w606 (gw_c gw_w605 (gw_c gw_w604 (gw_c gw_w35 (gw_c gw_w603 gw_n)))))))))))))))))))))))) (gw_a (gw_c gw_w632 (gw_c gw_w79 (gw_c gw_w631 (gw_c gw_w64 (gw_c gw_w63 (gw_c gw_w62 (gw_c gw_w630 (gw_c gw_w629 (gw_c gw_w628 (gw_c gw_w104 (gw_c gw_w627 (gw_c gw_w626 (gw_c gw_w625 (gw_c gw_w624 (gw_c gw_w552 (gw_c gw_w389 (gw_c gw_w551 (gw_c gw_w623 (gw_c gw_w622 (gw_c gw_w621 (gw_c gw_w620 (gw_c gw_w619 (gw_c gw_w618 (gw_c gw_w617 gw_n)))))))))))))))))))))))) (gw_a (gw_c gw_w656 (gw_c gw_w655 (gw_c gw_w654 (gw_c gw_w653 (gw_c gw_w652 (gw_c gw_w651 (gw_c gw_w650 (gw_c gw_w649 (gw_c gw_w648 (gw_c gw_w647 (gw_c gw_w646 (gw_c gw_w645 (gw_c gw_w644 (gw_c gw_w643 (gw_c gw_w642 (gw_c gw_w641 (gw_c gw_w640 (gw_c gw_w639 (gw_c gw_w638 (gw_c gw_w637 (gw_c gw_w636 (gw_c gw_w635 (gw_c gw_w634 (gw_c gw_w633 gw_n)))))))))))))))))))))))) (gw_a (gw_c gw_w680 (gw_c gw_w679 (gw_c gw_w678 (gw_c gw_w677 (gw_c gw_w676 (gw_c gw_w675 (gw_c gw_w674 (gw_c gw_w673 (gw_c gw_w672 (gw_c gw_w671 (gw_c gw_w670 (gw_c gw_w669 (gw_c gw_w668 (gw_c gw_w667 (gw_c gw_w666 (gw_c gw_w665 (gw_c gw_w664 (gw_c gw_w663 (gw_c gw_w662 (gw_c gw_w661 (gw_c gw_w660 (gw_c gw_w659 (gw_c gw_w658 (gw_c gw_w657 gw_n)))))))))))))))))))))))) (gw_a (gw_c gw_w701 (gw_c gw_w700 (gw_c gw_w699 (gw_c gw_w698 (gw_c gw_w697 (gw_c gw_w696 (gw_c gw_w695 (gw_c gw_w694 (gw_c gw_w693 (gw_c gw_w692 (gw_c gw_w691 (gw_c gw_w690 (gw_c gw_w689 (gw_c gw_w688 (gw_c gw_w687 (gw_c gw_w686 (gw_c gw_w685 (gw_c gw_w684 (gw_c gw_w99 (gw_c gw_w98 (gw_c gw_w97 (gw_c gw_w683 (gw_c gw_w682 (gw_c gw_w681 gw_n)))))))))))))))))))))))) (gw_a (gw_c gw_w725 (gw_c gw_w724 (gw_c gw_w723 (gw_c gw_w722 (gw_c gw_w721 (gw_c gw_w720 (gw_c gw_w719 (gw_c gw_w718 (gw_c gw_w717 (gw_c gw_w716 (gw_c gw_w715 (gw_c gw_w714 (gw_c gw_w713 (gw_c gw_w712 (gw_c gw_w711 (gw_c gw_w710 (gw_c gw_w709 (gw_c gw_w708 (gw_c gw_w707 (gw_c gw_w706 (gw_c gw_w705 (gw_c gw_w704 (gw_c gw_w703 (gw_c gw_w702 gw_n)))))))))))))))))))))))) (gw_a (gw_c gw_w745 (gw_c gw_w744 (gw_c gw_w743 (gw_c gw_w742 (gw_c gw_w741 (gw_c gw_w740 (gw_c gw_w739 (gw_c gw_w738 (gw_c gw_w737 (gw_c gw_w736 (gw_c gw_w735 (gw_c gw_w734 (gw_c gw_w733 (gw_c gw_w732 (gw_c gw_w731 (gw_c gw_w730 (gw_c gw_w729 (gw_c gw_w728 (gw_c gw_w727 (gw_c gw_w78 (gw_c gw_w77 (gw_c gw_w76 (gw_c gw_w75 (gw_c gw_w726 gw_n)))))))))))))))))))))))) (gw_c gw_w757 (gw_c gw_w756 (gw_c gw_w755 (gw_c gw_w754 (gw_c gw_w753 (gw_c gw_w752 (gw_c gw_w751 (gw_c gw_w81 (gw_c gw_w80 (gw_c gw_w750 (gw_c gw_w749 (gw_c gw_w748 (gw_c gw_w747 (gw_c gw_w746 (gw_c gw_w246 (gw_c gw_w245 (gw_c gw_w244 gw_n)))))))))))))))))))))))) gw_L_law_X90) gw_L_law_X60) gw_L_law_X30) gw_L_law_X00) gw_L_law_X20) gw_L_law_X80)) (by decide +kernel)
set_option maxRecDepth 20000 in
theorem gL_law_X9_contract : GoodIn wsL_law (wsV RL 90 RX9 yX9_contract wsX9_contract) := goodIn_app (goodIn_sub (gw_c gw_w760 (gw_c gw_w759 (gw_c gw_w758 (gw_c gw_w169 gw_n)))) (by decide +kernel)) ggL_law_X9_contract
set_option maxRecDepth 20000 in
theorem ggL_law_X10_contract : GoodIn wsL_law wsX10_contract := goodIn_sub (gw_c gw_w761 (gw_a (gw_a (gw_c gw_w182 (gw_c gw_w590 (gw_c gw_w769 (gw_c gw_w768 (gw_c gw_w767 (gw_c gw_w146 (gw_c gw_w766 (gw_c gw_w765 (gw_c gw_w764 (gw_c gw_w155 (gw_c gw_w154 (gw_c gw_w145 (gw_c gw_w150 (gw_c gw_w141 (gw_c gw_w149 (gw_c gw_w140 (gw_c gw_w153 (gw_c gw_w144 (gw_c gw_w152 (gw_c gw_w143 (gw_c gw_w151 (gw_c gw_w142 (gw_c gw_w763 (gw_c gw_w762 gw_n)))))))))))))))))))))))) (gw_a (gw_c gw_w788 (gw_c gw_w178 (gw_c gw_w787 (gw_c gw_w786 (gw_c gw_w785 (gw_c gw_w784 (gw_c gw_w783 (gw_c gw_w782 (gw_c gw_w781 (gw_c gw_w780 (gw_c gw_w135 (gw_c gw_w176 (gw_c gw_w175 (gw_c gw_w174 (gw_c gw_w779 (gw_c gw_w778 (gw_c gw_w777 (gw_c gw_w776 (gw_c gw_w775 (gw_c gw_w774 (gw_c gw_w773 (gw_c gw_w772 (gw_c gw_w771 (gw_c gw_w770 gw_n)))))))))))))))))))))))) (gw_a (gw_c gw_w812 (gw_c gw_w811 (gw_c gw_w810 (gw_c gw_w809 (gw_c gw_w808 (gw_c gw_w807 (gw_c gw_w806 (gw_c gw_w805 (gw_c gw_w804 (gw_c gw_w803 (gw_c gw_w802 (gw_c gw_w801 (gw_c gw_w800 (gw_c gw_w799 (gw_c gw_w798 (gw_c gw_w797 (gw_c gw_w796 (gw_c gw_w795 (gw_c gw_w794 (gw_c gw_w793 (gw_c gw_w792 (gw_c gw_w791 (gw_c gw_w790 (gw_c gw_w789 gw_n)))))))))))))))))))))))) (gw_c gw_w818 (gw_c gw_w817 (gw_c gw_w816 (gw_c gw_w815 (gw_c gw_w814 (gw_c gw_w813 gw_n))))))))) gw_L_law_X100)) (by decide +kernel)
set_option maxRecDepth 20000 in
theorem gL_law_X10_contract : GoodIn wsL_law (wsV RL 94 RX10 yX10_contract wsX10_contract) := goodIn_app (goodIn_sub (gw_c gw_w821 (gw_c gw_w820 (gw_c gw_w819 (gw_c gw_w178 gw_n)))) (by decide +kernel)) ggL_law_X10_contract
set_option maxRecDepth 20000 in
theorem ggL_law_X9_fault : GoodIn wsL_law wsX9_fault := goodIn_sub (gw_c gw_w822 (gw_a (gw_a (gw_c gw_w9 (gw_c gw_w616 (gw_c gw_w823 gw_n))) gw_L_law_X90) gw_L_law_X30)) (by decide +kernel)
set_option maxRecDepth 20000 in
theorem gL_law_X9_fault : GoodIn wsL_law (wsV RL 95 RX9 yX9_fault wsX9_fault) := goodIn_app (goodIn_sub (gw_c gw_w826 (gw_c gw_w825 (gw_c gw_w824 (gw_c gw_w169 gw_n)))) (by decide +kernel)) ggL_law_X9_fault
set_option maxRecDepth 20000 in
theorem ggL_law_X10_fault : GoodIn wsL_law wsX10_fault := goodIn_sub (gw_c gw_w827 (gw_a (gw_c gw_w182 (gw_c gw_w767 (gw_c gw_w146 gw_n))) gw_L_law_X100)) (by decide +kernel)
set_option maxRecDepth 20000 in
theorem gL_law_X10_fault : GoodIn wsL_law (wsV RL 98 RX10 yX10_fault wsX10_fault) := goodIn_app (goodIn_sub (gw_c gw_w830 (gw_c gw_w829 (gw_c gw_w828 (gw_c gw_w178 gw_n)))) (by decide +kernel)) ggL_law_X10_fault
set_option maxRecDepth 20000 in
theorem ggL_law_X9_cost : GoodIn wsL_law wsX9_cost := goodIn_sub (gw_c gw_w831 (gw_a (gw_a (gw_a (gw_a (gw_a (gw_a (gw_c gw_w18 (gw_c gw_w168 (gw_c gw_w166 (gw_c gw_w243 (gw_c gw_w242 (gw_c gw_w241 (gw_c gw_w47 (gw_c gw_w240 (gw_c gw_w58 (gw_c gw_w840 (gw_c gw_w839 (gw_c gw_w838 (gw_c gw_w19 (gw_c gw_w837 (gw_c gw_w2 (gw_c gw_w300 (gw_c gw_w836 (gw_c gw_w835 (gw_c gw_w834 (gw_c gw_w833 (gw_c gw_w29 (gw_c gw_w832 (gw_c gw_w46 (gw_c gw_w34 gw_n)))))))))))))))))))))))) (gw_a (gw_c gw_w234 (gw_c gw_w233 (gw_c gw_w232 (gw_c gw_w3 (gw_c gw_w231 (gw_c gw_w71 (gw_c gw_w550 (gw_c gw_w549 (gw_c gw_w548 (gw_c gw_w547 (gw_c gw_w281 (gw_c gw_w315 (gw_c gw_w314 (gw_c gw_w313 (gw_c gw_w312 (gw_c gw_w298 (gw_c gw_w297 (gw_c gw_w296 (gw_c gw_w56 (gw_c gw_w844 (gw_c gw_w843 (gw_c gw_w842 (gw_c gw_w35 (gw_c gw_w841 gw_n)))))))))))))))))))))))) (gw_a (gw_c gw_w632 (gw_c gw_w80 (gw_c gw_w81 (gw_c gw_w860 (gw_c gw_w859 (gw_c gw_w858 (gw_c gw_w857 (gw_c gw_w79 (gw_c gw_w856 (gw_c gw_w855 (gw_c gw_w854 (gw_c gw_w853 (gw_c gw_w78 (gw_c gw_w77 (gw_c gw_w76 (gw_c gw_w75 (gw_c gw_w852 (gw_c gw_w851 (gw_c gw_w850 (gw_c gw_w849 (gw_c gw_w848 (gw_c gw_w847 (gw_c gw_w846 (gw_c gw_w845 gw_n)))))))))))))))))))))))) (gw_c gw_w190 (gw_c gw_w189 (gw_c gw_w188 (gw_c gw_w187 (gw_c gw_w66 (gw_c gw_w861 gw_n))))))))) gw_L_law_X90) gw_L_law_X00) gw_L_law_X50) gw_L_law_X40) gw_L_law_X20)) (by decide +kernel)
set_option maxRecDepth 20000 in
theorem gL_law_X9_cost : GoodIn wsL_law (wsV RL 99 RX9 yX9_cost wsX9_cost) := goodIn_app (goodIn_sub (gw_c gw_w864 (gw_c gw_w863 (gw_c gw_w862 (gw_c gw_w169 gw_n)))) (by decide +kernel)) ggL_law_X9_cost
set_option maxRecDepth 20000 in
theorem ggL_law_X10_cost : GoodIn wsL_law wsX10_cost := goodIn_sub (gw_c gw_w865 (gw_a (gw_a (gw_c gw_w182 (gw_c gw_w134 (gw_c gw_w327 (gw_c gw_w326 (gw_c gw_w325 (gw_c gw_w178 (gw_c gw_w324 (gw_c gw_w129 (gw_c gw_w176 (gw_c gw_w175 (gw_c gw_w174 (gw_c gw_w874 (gw_c gw_w873 (gw_c gw_w872 (gw_c gw_w871 (gw_c gw_w155 (gw_c gw_w149 (gw_c gw_w150 (gw_c gw_w870 (gw_c gw_w133 (gw_c gw_w869 (gw_c gw_w868 (gw_c gw_w867 (gw_c gw_w866 gw_n)))))))))))))))))))))))) (gw_a (gw_c gw_w154 (gw_c gw_w153 (gw_c gw_w152 (gw_c gw_w151 (gw_c gw_w878 (gw_c gw_w877 (gw_c gw_w876 (gw_c gw_w875 (gw_c gw_w341 (gw_c gw_w340 (gw_c gw_w339 (gw_c gw_w338 (gw_c gw_w337 (gw_c gw_w336 (gw_c gw_w335 (gw_c gw_w334 (gw_c gw_w132 (gw_c gw_w571 (gw_c gw_w570 (gw_c gw_w569 (gw_c gw_w568 (gw_c gw_w127 (gw_c gw_w353 (gw_c gw_w352 gw_n)))))))))))))))))))))))) (gw_c gw_w351 (gw_c gw_w350 gw_n)))) gw_L_law_X100)) (by decide +kernel)
set_option maxRecDepth 20000 in
theorem gL_law_X10_cost : GoodIn wsL_law (wsV RL 103 RX10 yX10_cost wsX10_cost) := goodIn_app (goodIn_sub (gw_c gw_w881 (gw_c gw_w880 (gw_c gw_w879 (gw_c gw_w178 gw_n)))) (by decide +kernel)) ggL_law_X10_cost
set_option maxRecDepth 20000 in
theorem ggL_law_X9_cars : GoodIn wsL_law wsX9_cars := goodIn_sub (gw_c gw_w882 (gw_a (gw_a (gw_a (gw_c gw_w18 (gw_c gw_w166 (gw_c gw_w894 (gw_c gw_w552 (gw_c gw_w389 (gw_c gw_w551 (gw_c gw_w893 (gw_c gw_w892 (gw_c gw_w891 (gw_c gw_w3 (gw_c gw_w890 (gw_c gw_w66 (gw_c gw_w889 (gw_c gw_w233 (gw_c gw_w232 (gw_c gw_w231 (gw_c gw_w71 (gw_c gw_w888 (gw_c gw_w887 (gw_c gw_w169 (gw_c gw_w886 (gw_c gw_w885 (gw_c gw_w884 (gw_c gw_w883 gw_n)))))))))))))))))))))))) gw_L_law_X90) gw_L_law_X00) gw_L_law_X40)) (by decide +kernel)
set_option maxRecDepth 20000 in
theorem gL_law_X9_cars : GoodIn wsL_law (wsV RL 104 RX9 yX9_cars wsX9_cars) := goodIn_app (goodIn_sub (gw_c gw_w897 (gw_c gw_w896 (gw_c gw_w895 (gw_c gw_w169 gw_n)))) (by decide +kernel)) ggL_law_X9_cars
set_option maxRecDepth 20000 in
theorem ggL_law_X10_cars : GoodIn wsL_law wsX10_cars := goodIn_sub (gw_c gw_w898 (gw_a (gw_c gw_w182 (gw_c gw_w134 (gw_c gw_w176 (gw_c gw_w175 (gw_c gw_w178 (gw_c gw_w174 (gw_c gw_w337 (gw_c gw_w336 (gw_c gw_w335 (gw_c gw_w334 (gw_c gw_w132 gw_n))))))))))) gw_L_law_X100)) (by decide +kernel)
set_option maxRecDepth 20000 in
theorem gL_law_X10_cars : GoodIn wsL_law (wsV RL 107 RX10 yX10_cars wsX10_cars) := goodIn_app (goodIn_sub (gw_c gw_w901 (gw_c gw_w900 (gw_c gw_w899 (gw_c gw_w178 gw_n)))) (by decide +kernel)) ggL_law_X10_cars
set_option maxRecDepth 20000 in
theorem ggL_law_X9_count : GoodIn wsL_law wsX9_count := goodIn_sub (gw_c gw_w902 (gw_a (gw_a (gw_a (gw_a (gw_a (gw_a (gw_a (gw_a (gw_c gw_w18 (gw_c gw_w166 (gw_c gw_w906 (gw_c gw_w168 (gw_c gw_w167 (gw_c gw_w372 (gw_c gw_w905 (gw_c gw_w386 (gw_c gw_w904 (gw_c gw_w385 (gw_c gw_w615 (gw_c gw_w613 (gw_c gw_w893 (gw_c gw_w892 (gw_c gw_w891 (gw_c gw_w3 (gw_c gw_w890 (gw_c gw_w66 (gw_c gw_w889 (gw_c gw_w233 (gw_c gw_w232 (gw_c gw_w231 (gw_c gw_w71 (gw_c gw_w903 gw_n)))))))))))))))))))))))) (gw_c gw_w909 (gw_c gw_w908 (gw_c gw_w907 (gw_c gw_w72 gw_n))))) gw_L_law_X90) gw_L_law_X00) gw_L_law_X40) gw_L_law_X50) gw_L_law_X70) gw_L_law_X10) gw_L_law_X20)) (by decide +kernel)
set_option maxRecDepth 20000 in
theorem gL_law_X9_count : GoodIn wsL_law (wsV RL 108 RX9 yX9_count wsX9_count) := goodIn_app (goodIn_sub (gw_c gw_w912 (gw_c gw_w911 (gw_c gw_w910 (gw_c gw_w169 gw_n)))) (by decide +kernel)) ggL_law_X9_count
set_option maxRecDepth 20000 in
theorem ggL_law_X10_count : GoodIn wsL_law wsX10_count := goodIn_sub (gw_c gw_w913 (gw_a (gw_c gw_w182 (gw_c gw_w134 (gw_c gw_w126 (gw_c gw_w119 (gw_c gw_w156 (gw_c gw_w155 (gw_c gw_w133 (gw_c gw_w181 (gw_c gw_w180 (gw_c gw_w179 (gw_c gw_w178 (gw_c gw_w177 (gw_c gw_w129 (gw_c gw_w337 (gw_c gw_w336 (gw_c gw_w335 (gw_c gw_w334 (gw_c gw_w132 gw_n)))))))))))))))))) gw_L_law_X100)) (by decide +kernel)
set_option maxRecDepth 20000 in
theorem gL_law_X10_count : GoodIn wsL_law (wsV RL 111 RX10 yX10_count wsX10_count) := goodIn_app (goodIn_sub (gw_c gw_w916 (gw_c gw_w915 (gw_c gw_w914 (gw_c gw_w178 gw_n)))) (by decide +kernel)) ggL_law_X10_count
set_option maxRecDepth 20000 in
theorem ggL_law_X9_image : GoodIn wsL_law wsX9_image := goodIn_sub (gw_c gw_w917 (gw_a (gw_a (gw_a (gw_a (gw_a (gw_a (gw_a (gw_a (gw_c gw_w17 (gw_c gw_w21 (gw_c gw_w20 (gw_c gw_w19 (gw_c gw_w18 (gw_c gw_w8 (gw_c gw_w7 (gw_c gw_w6 (gw_c gw_w23 (gw_c gw_w22 (gw_c gw_w5 (gw_c gw_w4 (gw_c gw_w3 (gw_c gw_w2 (gw_c gw_w1 (gw_c gw_w48 (gw_c gw_w47 (gw_c gw_w46 (gw_c gw_w45 (gw_c gw_w44 (gw_c gw_w43 (gw_c gw_w42 (gw_c gw_w41 (gw_c gw_w40 gw_n)))))))))))))))))))))))) (gw_a (gw_c gw_w39 (gw_c gw_w38 (gw_c gw_w37 (gw_c gw_w36 (gw_c gw_w35 (gw_c gw_w34 (gw_c gw_w33 (gw_c gw_w32 (gw_c gw_w31 (gw_c gw_w30 (gw_c gw_w29 (gw_c gw_w28 (gw_c gw_w27 (gw_c gw_w26 (gw_c gw_w25 (gw_c gw_w72 (gw_c gw_w71 (gw_c gw_w70 (gw_c gw_w69 (gw_c gw_w68 (gw_c gw_w67 (gw_c gw_w66 (gw_c gw_w65 (gw_c gw_w64 gw_n)))))))))))))))))))))))) (gw_a (gw_c gw_w63 (gw_c gw_w62 (gw_c gw_w61 (gw_c gw_w60 (gw_c gw_w59 (gw_c gw_w58 (gw_c gw_w57 (gw_c gw_w56 (gw_c gw_w55 (gw_c gw_w54 (gw_c gw_w53 (gw_c gw_w52 (gw_c gw_w51 (gw_c gw_w50 (gw_c gw_w49 (gw_c gw_w96 (gw_c gw_w95 (gw_c gw_w94 (gw_c gw_w93 (gw_c gw_w92 (gw_c gw_w91 (gw_c gw_w90 (gw_c gw_w89 (gw_c gw_w88 gw_n)))))))))))))))))))))))) (gw_a (gw_c gw_w87 (gw_c gw_w86 (gw_c gw_w85 (gw_c gw_w84 (gw_c gw_w83 (gw_c gw_w82 (gw_c gw_w81 (gw_c gw_w80 (gw_c gw_w79 (gw_c gw_w78 (gw_c gw_w77 (gw_c gw_w76 (gw_c gw_w75 (gw_c gw_w924 (gw_c gw_w923 (gw_c gw_w922 (gw_c gw_w921 (gw_c gw_w235 (gw_c gw_w920 (gw_c gw_w246 (gw_c gw_w245 (gw_c gw_w244 (gw_c gw_w919 (gw_c gw_w918 gw_n)))))))))))))))))))))))) (gw_a (gw_c gw_w942 (gw_c gw_w941 (gw_c gw_w940 (gw_c gw_w939 (gw_c gw_w938 (gw_c gw_w937 (gw_c gw_w936 (gw_c gw_w248 (gw_c gw_w247 (gw_c gw_w935 (gw_c gw_w934 (gw_c gw_w933 (gw_c gw_w932 (gw_c gw_w272 (gw_c gw_w931 (gw_c gw_w930 (gw_c gw_w929 (gw_c gw_w928 (gw_c gw_w927 (gw_c gw_w397 (gw_c gw_w926 (gw_c gw_w925 (gw_c gw_w749 (gw_c gw_w748 gw_n)))))))))))))))))))))))) (gw_c gw_w747 (gw_c gw_w632 (gw_c gw_w746 gw_n)))))))) gw_L_law_X90) gw_L_law_X00) gw_L_law_X40) gw_L_law_X50) gw_L_law_X70) gw_L_law_X10) gw_L_law_X20)) (by decide +kernel)
set_option maxRecDepth 20000 in
theorem gL_law_X9_image : GoodIn wsL_law (wsV RL 112 RX9 yX9_image wsX9_image) := goodIn_app (goodIn_sub (gw_c gw_w945 (gw_c gw_w944 (gw_c gw_w943 (gw_c gw_w169 gw_n)))) (by decide +kernel)) ggL_law_X9_image
set_option maxRecDepth 20000 in
theorem ggL_law_X10_image : GoodIn wsL_law wsX10_image := goodIn_sub (gw_c gw_w946 (gw_a (gw_a (gw_c gw_w182 (gw_c gw_w138 (gw_c gw_w176 (gw_c gw_w175 (gw_c gw_w178 (gw_c gw_w174 (gw_c gw_w950 (gw_c gw_w949 (gw_c gw_w948 (gw_c gw_w947 (gw_c gw_w134 (gw_c gw_w133 (gw_c gw_w132 (gw_c gw_w131 (gw_c gw_w130 (gw_c gw_w129 (gw_c gw_w128 (gw_c gw_w127 (gw_c gw_w126 (gw_c gw_w125 (gw_c gw_w124 (gw_c gw_w123 (gw_c gw_w122 (gw_c gw_w121 gw_n)))))))))))))))))))))))) (gw_c gw_w120 (gw_c gw_w119 (gw_c gw_w118 (gw_c gw_w117 (gw_c gw_w161 (gw_c gw_w160 (gw_c gw_w159 (gw_c gw_w158 (gw_c gw_w157 (gw_c gw_w156 (gw_c gw_w155 (gw_c gw_w154 (gw_c gw_w153 (gw_c gw_w152 (gw_c gw_w151 (gw_c gw_w150 (gw_c gw_w149 (gw_c gw_w953 (gw_c gw_w952 (gw_c gw_w951 gw_n))))))))))))))))))))) gw_L_law_X100)) (by decide +kernel)
set_option maxRecDepth 20000 in
theorem gL_law_X10_image : GoodIn wsL_law (wsV RL 115 RX10 yX10_image wsX10_image) := goodIn_app (goodIn_sub (gw_c gw_w956 (gw_c gw_w955 (gw_c gw_w954 (gw_c gw_w178 gw_n)))) (by decide +kernel)) ggL_law_X10_image
set_option maxRecDepth 20000 in
theorem ggL_law_X9_again : GoodIn wsL_law wsX9_again := goodIn_sub (gw_c gw_w957 (gw_a (gw_a (gw_a (gw_a (gw_a (gw_a (gw_a (gw_a (gw_c gw_w17 (gw_c gw_w18 (gw_c gw_w924 (gw_c gw_w923 (gw_c gw_w922 (gw_c gw_w19 (gw_c gw_w921 (gw_c gw_w235 (gw_c gw_w2 (gw_c gw_w46 (gw_c gw_w42 (gw_c gw_w38 (gw_c gw_w34 (gw_c gw_w32 (gw_c gw_w920 (gw_c gw_w246 (gw_c gw_w245 (gw_c gw_w244 (gw_c gw_w31 (gw_c gw_w919 (gw_c gw_w918 (gw_c gw_w942 (gw_c gw_w3 (gw_c gw_w941 gw_n)))))))))))))))))))))))) (gw_a (gw_c gw_w66 (gw_c gw_w72 (gw_c gw_w940 (gw_c gw_w71 (gw_c gw_w939 (gw_c gw_w938 (gw_c gw_w937 (gw_c gw_w47 (gw_c gw_w936 (gw_c gw_w248 (gw_c gw_w58 (gw_c gw_w247 (gw_c gw_w57 (gw_c gw_w56 (gw_c gw_w935 (gw_c gw_w934 (gw_c gw_w933 (gw_c gw_w43 (gw_c gw_w932 (gw_c gw_w272 (gw_c gw_w52 (gw_c gw_w931 (gw_c gw_w51 (gw_c gw_w50 gw_n)))))))))))))))))))))))) (gw_a (gw_c gw_w49 (gw_c gw_w96 (gw_c gw_w95 (gw_c gw_w930 (gw_c gw_w929 (gw_c gw_w928 (gw_c gw_w39 (gw_c gw_w927 (gw_c gw_w397 (gw_c gw_w91 (gw_c gw_w926 (gw_c gw_w90 (gw_c gw_w89 (gw_c gw_w88 (gw_c gw_w87 (gw_c gw_w86 (gw_c gw_w85 (gw_c gw_w925 (gw_c gw_w749 (gw_c gw_w748 (gw_c gw_w35 (gw_c gw_w747 (gw_c gw_w632 (gw_c gw_w81 gw_n)))))))))))))))))))))))) (gw_c gw_w746 (gw_c gw_w80 (gw_c gw_w79 (gw_c gw_w78 (gw_c gw_w77 (gw_c gw_w76 (gw_c gw_w75 gw_n)))))))))) gw_L_law_X90) gw_L_law_X00) gw_L_law_X40) gw_L_law_X50) gw_L_law_X70) gw_L_law_X10) gw_L_law_X20)) (by decide +kernel)
set_option maxRecDepth 20000 in
theorem gL_law_X9_again : GoodIn wsL_law (wsV RL 116 RX9 yX9_again wsX9_again) := goodIn_app (goodIn_sub (gw_c gw_w960 (gw_c gw_w959 (gw_c gw_w958 (gw_c gw_w169 gw_n)))) (by decide +kernel)) ggL_law_X9_again
set_option maxRecDepth 20000 in
theorem ggL_law_X10_again : GoodIn wsL_law wsX10_again := goodIn_sub (gw_c gw_w961 (gw_a (gw_a (gw_c gw_w182 (gw_c gw_w138 (gw_c gw_w176 (gw_c gw_w175 (gw_c gw_w178 (gw_c gw_w174 (gw_c gw_w950 (gw_c gw_w949 (gw_c gw_w948 (gw_c gw_w947 (gw_c gw_w134 (gw_c gw_w133 (gw_c gw_w132 (gw_c gw_w131 (gw_c gw_w130 (gw_c gw_w129 (gw_c gw_w128 (gw_c gw_w127 (gw_c gw_w126 (gw_c gw_w125 (gw_c gw_w124 (gw_c gw_w123 (gw_c gw_w122 (gw_c gw_w121 gw_n)))))))))))))))))))))))) (gw_c gw_w120 (gw_c gw_w119 (gw_c gw_w118 (gw_c gw_w117 (gw_c gw_w161 (gw_c gw_w160 (gw_c gw_w159 (gw_c gw_w158 (gw_c gw_w157 (gw_c gw_w156 (gw_c gw_w155 (gw_c gw_w154 (gw_c gw_w153 (gw_c gw_w152 (gw_c gw_w151 (gw_c gw_w150 (gw_c gw_w149 (gw_c gw_w953 (gw_c gw_w952 (gw_c gw_w951 gw_n))))))))))))))))))))) gw_L_law_X100)) (by decide +kernel)
set_option maxRecDepth 20000 in
theorem gL_law_X10_again : GoodIn wsL_law (wsV RL 119 RX10 yX10_again wsX10_again) := goodIn_app (goodIn_sub (gw_c gw_w964 (gw_c gw_w963 (gw_c gw_w962 (gw_c gw_w178 gw_n)))) (by decide +kernel)) ggL_law_X10_again
theorem dL_law_0 : decode cL_law 0 = .ok (.new 7, 3) := by decide +kernel
theorem dL_law_3 : decode cL_law 3 = .ok (.dup, 1) := by decide +kernel
theorem dL_law_4 : decode cL_law 4 = .ok (.invokespecial 9, 3) := by decide +kernel
theorem dL_law_7 : decode cL_law 7 = .ok (.astore_n 1, 1) := by decide +kernel
theorem dL_law_8 : decode cL_law 8 = .ok (.new 10, 3) := by decide +kernel
theorem dL_law_11 : decode cL_law 11 = .ok (.dup, 1) := by decide +kernel
theorem dL_law_12 : decode cL_law 12 = .ok (.invokespecial 12, 3) := by decide +kernel
theorem dL_law_15 : decode cL_law 15 = .ok (.astore_n 2, 1) := by decide +kernel
theorem dL_law_16 : decode cL_law 16 = .ok (.iconst 0, 1) := by decide +kernel
theorem dL_law_17 : decode cL_law 17 = .ok (.istore_n 3, 1) := by decide +kernel
theorem dL_law_18 : decode cL_law 18 = .ok (.iload_n 3, 1) := by decide +kernel
theorem dL_law_19 : decode cL_law 19 = .ok (.aload_n 0, 1) := by decide +kernel
theorem dL_law_20 : decode cL_law 20 = .ok (.arraylength, 1) := by decide +kernel
theorem dL_law_21 : decode cL_law 21 = .ok (.bipush 6, 2) := by decide +kernel
theorem dL_law_23 : decode cL_law 23 = .ok (.isub, 1) := by decide +kernel
theorem dL_law_24 : decode cL_law 24 = .ok (.if_icmp .gt 928, 3) := by decide +kernel
theorem dL_law_27 : decode cL_law 27 = .ok (.aload_n 0, 1) := by decide +kernel
theorem dL_law_28 : decode cL_law 28 = .ok (.iload_n 3, 1) := by decide +kernel
theorem dL_law_29 : decode cL_law 29 = .ok (.iaload, 1) := by decide +kernel
theorem dL_law_30 : decode cL_law 30 = .ok (.bipush 31, 2) := by decide +kernel
theorem dL_law_32 : decode cL_law 32 = .ok (.iand, 1) := by decide +kernel
theorem dL_law_33 : decode cL_law 33 = .ok (.tableswitch 913 0 23 #[111, 134, 177, 210, 243, 276, 329, 352, 415, 448, 471, 494, 547, 580, 623, 656, 719, 742, 755, 778, 811, 844, 867, 890], 111) := by decide +kernel
theorem dL_law_144 : decode cL_law 144 = .ok (.aload_n 1, 1) := by decide +kernel
theorem dL_law_145 : decode cL_law 145 = .ok (.aload_n 0, 1) := by decide +kernel
theorem dL_law_146 : decode cL_law 146 = .ok (.iload_n 3, 1) := by decide +kernel
theorem dL_law_147 : decode cL_law 147 = .ok (.iconst 1, 1) := by decide +kernel
theorem dL_law_148 : decode cL_law 148 = .ok (.iadd, 1) := by decide +kernel
theorem dL_law_149 : decode cL_law 149 = .ok (.iaload, 1) := by decide +kernel
theorem dL_law_150 : decode cL_law 150 = .ok (.invokevirtual 13, 3) := by decide +kernel
theorem dL_law_153 : decode cL_law 153 = .ok (.pop, 1) := by decide +kernel
theorem dL_law_154 : decode cL_law 154 = .ok (.aload_n 2, 1) := by decide +kernel
theorem dL_law_155 : decode cL_law 155 = .ok (.aload_n 0, 1) := by decide +kernel
theorem dL_law_156 : decode cL_law 156 = .ok (.iload_n 3, 1) := by decide +kernel
theorem dL_law_157 : decode cL_law 157 = .ok (.iconst 1, 1) := by decide +kernel
theorem dL_law_158 : decode cL_law 158 = .ok (.iadd, 1) := by decide +kernel
theorem dL_law_159 : decode cL_law 159 = .ok (.iaload, 1) := by decide +kernel
theorem dL_law_160 : decode cL_law 160 = .ok (.invokevirtual 17, 3) := by decide +kernel
theorem dL_law_163 : decode cL_law 163 = .ok (.pop, 1) := by decide +kernel
theorem dL_law_164 : decode cL_law 164 = .ok (.goto 782, 3) := by decide +kernel
theorem dL_law_167 : decode cL_law 167 = .ok (.aload_n 1, 1) := by decide +kernel
theorem dL_law_168 : decode cL_law 168 = .ok (.aload_n 0, 1) := by decide +kernel
theorem dL_law_169 : decode cL_law 169 = .ok (.iload_n 3, 1) := by decide +kernel
theorem dL_law_170 : decode cL_law 170 = .ok (.iconst 1, 1) := by decide +kernel
theorem dL_law_171 : decode cL_law 171 = .ok (.iadd, 1) := by decide +kernel
theorem dL_law_172 : decode cL_law 172 = .ok (.iaload, 1) := by decide +kernel
theorem dL_law_173 : decode cL_law 173 = .ok (.aload_n 0, 1) := by decide +kernel
theorem dL_law_174 : decode cL_law 174 = .ok (.iload_n 3, 1) := by decide +kernel
theorem dL_law_175 : decode cL_law 175 = .ok (.iconst 2, 1) := by decide +kernel
theorem dL_law_176 : decode cL_law 176 = .ok (.iadd, 1) := by decide +kernel
theorem dL_law_177 : decode cL_law 177 = .ok (.iaload, 1) := by decide +kernel
theorem dL_law_178 : decode cL_law 178 = .ok (.aload_n 0, 1) := by decide +kernel
theorem dL_law_179 : decode cL_law 179 = .ok (.iload_n 3, 1) := by decide +kernel
theorem dL_law_180 : decode cL_law 180 = .ok (.iconst 3, 1) := by decide +kernel
theorem dL_law_181 : decode cL_law 181 = .ok (.iadd, 1) := by decide +kernel
theorem dL_law_182 : decode cL_law 182 = .ok (.iaload, 1) := by decide +kernel
theorem dL_law_183 : decode cL_law 183 = .ok (.invokevirtual 18, 3) := by decide +kernel
theorem dL_law_186 : decode cL_law 186 = .ok (.pop, 1) := by decide +kernel
theorem dL_law_187 : decode cL_law 187 = .ok (.aload_n 2, 1) := by decide +kernel
theorem dL_law_188 : decode cL_law 188 = .ok (.aload_n 0, 1) := by decide +kernel
theorem dL_law_189 : decode cL_law 189 = .ok (.iload_n 3, 1) := by decide +kernel
theorem dL_law_190 : decode cL_law 190 = .ok (.iconst 1, 1) := by decide +kernel
theorem dL_law_191 : decode cL_law 191 = .ok (.iadd, 1) := by decide +kernel
theorem dL_law_192 : decode cL_law 192 = .ok (.iaload, 1) := by decide +kernel
theorem dL_law_193 : decode cL_law 193 = .ok (.aload_n 0, 1) := by decide +kernel
theorem dL_law_194 : decode cL_law 194 = .ok (.iload_n 3, 1) := by decide +kernel
theorem dL_law_195 : decode cL_law 195 = .ok (.iconst 2, 1) := by decide +kernel
theorem dL_law_196 : decode cL_law 196 = .ok (.iadd, 1) := by decide +kernel
theorem dL_law_197 : decode cL_law 197 = .ok (.iaload, 1) := by decide +kernel
theorem dL_law_198 : decode cL_law 198 = .ok (.aload_n 0, 1) := by decide +kernel
theorem dL_law_199 : decode cL_law 199 = .ok (.iload_n 3, 1) := by decide +kernel
theorem dL_law_200 : decode cL_law 200 = .ok (.iconst 3, 1) := by decide +kernel
theorem dL_law_201 : decode cL_law 201 = .ok (.iadd, 1) := by decide +kernel
theorem dL_law_202 : decode cL_law 202 = .ok (.iaload, 1) := by decide +kernel
theorem dL_law_203 : decode cL_law 203 = .ok (.invokevirtual 22, 3) := by decide +kernel
theorem dL_law_206 : decode cL_law 206 = .ok (.pop, 1) := by decide +kernel
theorem dL_law_207 : decode cL_law 207 = .ok (.goto 739, 3) := by decide +kernel
theorem dL_law_210 : decode cL_law 210 = .ok (.aload_n 1, 1) := by decide +kernel
theorem dL_law_211 : decode cL_law 211 = .ok (.aload_n 0, 1) := by decide +kernel
theorem dL_law_212 : decode cL_law 212 = .ok (.iload_n 3, 1) := by decide +kernel
theorem dL_law_213 : decode cL_law 213 = .ok (.iconst 1, 1) := by decide +kernel
theorem dL_law_214 : decode cL_law 214 = .ok (.iadd, 1) := by decide +kernel
theorem dL_law_215 : decode cL_law 215 = .ok (.iaload, 1) := by decide +kernel
theorem dL_law_216 : decode cL_law 216 = .ok (.aload_n 0, 1) := by decide +kernel
theorem dL_law_217 : decode cL_law 217 = .ok (.iload_n 3, 1) := by decide +kernel
theorem dL_law_218 : decode cL_law 218 = .ok (.iconst 2, 1) := by decide +kernel
theorem dL_law_219 : decode cL_law 219 = .ok (.iadd, 1) := by decide +kernel
theorem dL_law_220 : decode cL_law 220 = .ok (.iaload, 1) := by decide +kernel
theorem dL_law_221 : decode cL_law 221 = .ok (.invokevirtual 23, 3) := by decide +kernel
theorem dL_law_224 : decode cL_law 224 = .ok (.pop, 1) := by decide +kernel
theorem dL_law_225 : decode cL_law 225 = .ok (.aload_n 2, 1) := by decide +kernel
theorem dL_law_226 : decode cL_law 226 = .ok (.aload_n 0, 1) := by decide +kernel
theorem dL_law_227 : decode cL_law 227 = .ok (.iload_n 3, 1) := by decide +kernel
theorem dL_law_228 : decode cL_law 228 = .ok (.iconst 1, 1) := by decide +kernel
theorem dL_law_229 : decode cL_law 229 = .ok (.iadd, 1) := by decide +kernel
theorem dL_law_230 : decode cL_law 230 = .ok (.iaload, 1) := by decide +kernel
theorem dL_law_231 : decode cL_law 231 = .ok (.aload_n 0, 1) := by decide +kernel
theorem dL_law_232 : decode cL_law 232 = .ok (.iload_n 3, 1) := by decide +kernel
theorem dL_law_233 : decode cL_law 233 = .ok (.iconst 2, 1) := by decide +kernel
theorem dL_law_234 : decode cL_law 234 = .ok (.iadd, 1) := by decide +kernel
theorem dL_law_235 : decode cL_law 235 = .ok (.iaload, 1) := by decide +kernel
theorem dL_law_236 : decode cL_law 236 = .ok (.invokevirtual 27, 3) := by decide +kernel
theorem dL_law_239 : decode cL_law 239 = .ok (.pop, 1) := by decide +kernel
theorem dL_law_240 : decode cL_law 240 = .ok (.goto 706, 3) := by decide +kernel
theorem dL_law_243 : decode cL_law 243 = .ok (.aload_n 1, 1) := by decide +kernel
theorem dL_law_244 : decode cL_law 244 = .ok (.aload_n 0, 1) := by decide +kernel
theorem dL_law_245 : decode cL_law 245 = .ok (.iload_n 3, 1) := by decide +kernel
theorem dL_law_246 : decode cL_law 246 = .ok (.iconst 1, 1) := by decide +kernel
theorem dL_law_247 : decode cL_law 247 = .ok (.iadd, 1) := by decide +kernel
theorem dL_law_248 : decode cL_law 248 = .ok (.iaload, 1) := by decide +kernel
theorem dL_law_249 : decode cL_law 249 = .ok (.aload_n 0, 1) := by decide +kernel
theorem dL_law_250 : decode cL_law 250 = .ok (.iload_n 3, 1) := by decide +kernel
theorem dL_law_251 : decode cL_law 251 = .ok (.iconst 2, 1) := by decide +kernel
theorem dL_law_252 : decode cL_law 252 = .ok (.iadd, 1) := by decide +kernel
theorem dL_law_253 : decode cL_law 253 = .ok (.iaload, 1) := by decide +kernel
theorem dL_law_254 : decode cL_law 254 = .ok (.invokevirtual 28, 3) := by decide +kernel
theorem dL_law_257 : decode cL_law 257 = .ok (.pop, 1) := by decide +kernel
theorem dL_law_258 : decode cL_law 258 = .ok (.aload_n 2, 1) := by decide +kernel
theorem dL_law_259 : decode cL_law 259 = .ok (.aload_n 0, 1) := by decide +kernel
theorem dL_law_260 : decode cL_law 260 = .ok (.iload_n 3, 1) := by decide +kernel
theorem dL_law_261 : decode cL_law 261 = .ok (.iconst 1, 1) := by decide +kernel
theorem dL_law_262 : decode cL_law 262 = .ok (.iadd, 1) := by decide +kernel
theorem dL_law_263 : decode cL_law 263 = .ok (.iaload, 1) := by decide +kernel
theorem dL_law_264 : decode cL_law 264 = .ok (.aload_n 0, 1) := by decide +kernel
theorem dL_law_265 : decode cL_law 265 = .ok (.iload_n 3, 1) := by decide +kernel
theorem dL_law_266 : decode cL_law 266 = .ok (.iconst 2, 1) := by decide +kernel
theorem dL_law_267 : decode cL_law 267 = .ok (.iadd, 1) := by decide +kernel
theorem dL_law_268 : decode cL_law 268 = .ok (.iaload, 1) := by decide +kernel
theorem dL_law_269 : decode cL_law 269 = .ok (.invokevirtual 31, 3) := by decide +kernel
theorem dL_law_272 : decode cL_law 272 = .ok (.pop, 1) := by decide +kernel
theorem dL_law_273 : decode cL_law 273 = .ok (.goto 673, 3) := by decide +kernel
theorem dL_law_276 : decode cL_law 276 = .ok (.aload_n 1, 1) := by decide +kernel
theorem dL_law_277 : decode cL_law 277 = .ok (.aload_n 0, 1) := by decide +kernel
theorem dL_law_278 : decode cL_law 278 = .ok (.iload_n 3, 1) := by decide +kernel
theorem dL_law_279 : decode cL_law 279 = .ok (.iconst 1, 1) := by decide +kernel
theorem dL_law_280 : decode cL_law 280 = .ok (.iadd, 1) := by decide +kernel
theorem dL_law_281 : decode cL_law 281 = .ok (.iaload, 1) := by decide +kernel
theorem dL_law_282 : decode cL_law 282 = .ok (.aload_n 0, 1) := by decide +kernel
theorem dL_law_283 : decode cL_law 283 = .ok (.iload_n 3, 1) := by decide +kernel
theorem dL_law_284 : decode cL_law 284 = .ok (.iconst 2, 1) := by decide +kernel
theorem dL_law_285 : decode cL_law 285 = .ok (.iadd, 1) := by decide +kernel
theorem dL_law_286 : decode cL_law 286 = .ok (.iaload, 1) := by decide +kernel
theorem dL_law_287 : decode cL_law 287 = .ok (.invokevirtual 32, 3) := by decide +kernel
theorem dL_law_290 : decode cL_law 290 = .ok (.pop, 1) := by decide +kernel
theorem dL_law_291 : decode cL_law 291 = .ok (.aload_n 2, 1) := by decide +kernel
theorem dL_law_292 : decode cL_law 292 = .ok (.aload_n 0, 1) := by decide +kernel
theorem dL_law_293 : decode cL_law 293 = .ok (.iload_n 3, 1) := by decide +kernel
theorem dL_law_294 : decode cL_law 294 = .ok (.iconst 1, 1) := by decide +kernel
theorem dL_law_295 : decode cL_law 295 = .ok (.iadd, 1) := by decide +kernel
theorem dL_law_296 : decode cL_law 296 = .ok (.iaload, 1) := by decide +kernel
theorem dL_law_297 : decode cL_law 297 = .ok (.aload_n 0, 1) := by decide +kernel
theorem dL_law_298 : decode cL_law 298 = .ok (.iload_n 3, 1) := by decide +kernel
theorem dL_law_299 : decode cL_law 299 = .ok (.iconst 2, 1) := by decide +kernel
theorem dL_law_300 : decode cL_law 300 = .ok (.iadd, 1) := by decide +kernel
theorem dL_law_301 : decode cL_law 301 = .ok (.iaload, 1) := by decide +kernel
theorem dL_law_302 : decode cL_law 302 = .ok (.invokevirtual 35, 3) := by decide +kernel
theorem dL_law_305 : decode cL_law 305 = .ok (.pop, 1) := by decide +kernel
theorem dL_law_306 : decode cL_law 306 = .ok (.goto 640, 3) := by decide +kernel
theorem dL_law_309 : decode cL_law 309 = .ok (.aload_n 1, 1) := by decide +kernel
theorem dL_law_310 : decode cL_law 310 = .ok (.aload_n 0, 1) := by decide +kernel
theorem dL_law_311 : decode cL_law 311 = .ok (.iload_n 3, 1) := by decide +kernel
theorem dL_law_312 : decode cL_law 312 = .ok (.iconst 1, 1) := by decide +kernel
theorem dL_law_313 : decode cL_law 313 = .ok (.iadd, 1) := by decide +kernel
theorem dL_law_314 : decode cL_law 314 = .ok (.iaload, 1) := by decide +kernel
theorem dL_law_315 : decode cL_law 315 = .ok (.aload_n 0, 1) := by decide +kernel
theorem dL_law_316 : decode cL_law 316 = .ok (.iload_n 3, 1) := by decide +kernel
theorem dL_law_317 : decode cL_law 317 = .ok (.iconst 2, 1) := by decide +kernel
theorem dL_law_318 : decode cL_law 318 = .ok (.iadd, 1) := by decide +kernel
theorem dL_law_319 : decode cL_law 319 = .ok (.iaload, 1) := by decide +kernel
theorem dL_law_320 : decode cL_law 320 = .ok (.aload_n 0, 1) := by decide +kernel
theorem dL_law_321 : decode cL_law 321 = .ok (.iload_n 3, 1) := by decide +kernel
theorem dL_law_322 : decode cL_law 322 = .ok (.iconst 3, 1) := by decide +kernel
theorem dL_law_323 : decode cL_law 323 = .ok (.iadd, 1) := by decide +kernel
theorem dL_law_324 : decode cL_law 324 = .ok (.iaload, 1) := by decide +kernel
theorem dL_law_325 : decode cL_law 325 = .ok (.aload_n 0, 1) := by decide +kernel
theorem dL_law_326 : decode cL_law 326 = .ok (.iload_n 3, 1) := by decide +kernel
theorem dL_law_327 : decode cL_law 327 = .ok (.iconst 4, 1) := by decide +kernel
theorem dL_law_328 : decode cL_law 328 = .ok (.iadd, 1) := by decide +kernel
theorem dL_law_329 : decode cL_law 329 = .ok (.iaload, 1) := by decide +kernel
theorem dL_law_330 : decode cL_law 330 = .ok (.invokevirtual 36, 3) := by decide +kernel
theorem dL_law_333 : decode cL_law 333 = .ok (.pop, 1) := by decide +kernel
theorem dL_law_334 : decode cL_law 334 = .ok (.aload_n 2, 1) := by decide +kernel
theorem dL_law_335 : decode cL_law 335 = .ok (.aload_n 0, 1) := by decide +kernel
theorem dL_law_336 : decode cL_law 336 = .ok (.iload_n 3, 1) := by decide +kernel
theorem dL_law_337 : decode cL_law 337 = .ok (.iconst 1, 1) := by decide +kernel
theorem dL_law_338 : decode cL_law 338 = .ok (.iadd, 1) := by decide +kernel
theorem dL_law_339 : decode cL_law 339 = .ok (.iaload, 1) := by decide +kernel
theorem dL_law_340 : decode cL_law 340 = .ok (.aload_n 0, 1) := by decide +kernel
theorem dL_law_341 : decode cL_law 341 = .ok (.iload_n 3, 1) := by decide +kernel
theorem dL_law_342 : decode cL_law 342 = .ok (.iconst 2, 1) := by decide +kernel
theorem dL_law_343 : decode cL_law 343 = .ok (.iadd, 1) := by decide +kernel
theorem dL_law_344 : decode cL_law 344 = .ok (.iaload, 1) := by decide +kernel
theorem dL_law_345 : decode cL_law 345 = .ok (.aload_n 0, 1) := by decide +kernel
theorem dL_law_346 : decode cL_law 346 = .ok (.iload_n 3, 1) := by decide +kernel
theorem dL_law_347 : decode cL_law 347 = .ok (.iconst 3, 1) := by decide +kernel
theorem dL_law_348 : decode cL_law 348 = .ok (.iadd, 1) := by decide +kernel
theorem dL_law_349 : decode cL_law 349 = .ok (.iaload, 1) := by decide +kernel
theorem dL_law_350 : decode cL_law 350 = .ok (.aload_n 0, 1) := by decide +kernel
theorem dL_law_351 : decode cL_law 351 = .ok (.iload_n 3, 1) := by decide +kernel
theorem dL_law_352 : decode cL_law 352 = .ok (.iconst 4, 1) := by decide +kernel
theorem dL_law_353 : decode cL_law 353 = .ok (.iadd, 1) := by decide +kernel
theorem dL_law_354 : decode cL_law 354 = .ok (.iaload, 1) := by decide +kernel
theorem dL_law_355 : decode cL_law 355 = .ok (.invokevirtual 40, 3) := by decide +kernel
theorem dL_law_358 : decode cL_law 358 = .ok (.pop, 1) := by decide +kernel
theorem dL_law_359 : decode cL_law 359 = .ok (.goto 587, 3) := by decide +kernel
theorem dL_law_362 : decode cL_law 362 = .ok (.aload_n 1, 1) := by decide +kernel
theorem dL_law_363 : decode cL_law 363 = .ok (.aload_n 0, 1) := by decide +kernel
theorem dL_law_364 : decode cL_law 364 = .ok (.iload_n 3, 1) := by decide +kernel
theorem dL_law_365 : decode cL_law 365 = .ok (.iconst 1, 1) := by decide +kernel
theorem dL_law_366 : decode cL_law 366 = .ok (.iadd, 1) := by decide +kernel
theorem dL_law_367 : decode cL_law 367 = .ok (.iaload, 1) := by decide +kernel
theorem dL_law_368 : decode cL_law 368 = .ok (.invokevirtual 41, 3) := by decide +kernel
theorem dL_law_371 : decode cL_law 371 = .ok (.pop, 1) := by decide +kernel
theorem dL_law_372 : decode cL_law 372 = .ok (.aload_n 2, 1) := by decide +kernel
theorem dL_law_373 : decode cL_law 373 = .ok (.aload_n 0, 1) := by decide +kernel
theorem dL_law_374 : decode cL_law 374 = .ok (.iload_n 3, 1) := by decide +kernel
theorem dL_law_375 : decode cL_law 375 = .ok (.iconst 1, 1) := by decide +kernel
theorem dL_law_376 : decode cL_law 376 = .ok (.iadd, 1) := by decide +kernel
theorem dL_law_377 : decode cL_law 377 = .ok (.iaload, 1) := by decide +kernel
theorem dL_law_378 : decode cL_law 378 = .ok (.invokevirtual 44, 3) := by decide +kernel
theorem dL_law_381 : decode cL_law 381 = .ok (.pop, 1) := by decide +kernel
theorem dL_law_382 : decode cL_law 382 = .ok (.goto 564, 3) := by decide +kernel
theorem dL_law_385 : decode cL_law 385 = .ok (.aload_n 1, 1) := by decide +kernel
theorem dL_law_386 : decode cL_law 386 = .ok (.aload_n 0, 1) := by decide +kernel
theorem dL_law_387 : decode cL_law 387 = .ok (.iload_n 3, 1) := by decide +kernel
theorem dL_law_388 : decode cL_law 388 = .ok (.iconst 1, 1) := by decide +kernel
theorem dL_law_389 : decode cL_law 389 = .ok (.iadd, 1) := by decide +kernel
theorem dL_law_390 : decode cL_law 390 = .ok (.iaload, 1) := by decide +kernel
theorem dL_law_391 : decode cL_law 391 = .ok (.aload_n 0, 1) := by decide +kernel
theorem dL_law_392 : decode cL_law 392 = .ok (.iload_n 3, 1) := by decide +kernel
theorem dL_law_393 : decode cL_law 393 = .ok (.iconst 2, 1) := by decide +kernel
theorem dL_law_394 : decode cL_law 394 = .ok (.iadd, 1) := by decide +kernel
theorem dL_law_395 : decode cL_law 395 = .ok (.iaload, 1) := by decide +kernel
theorem dL_law_396 : decode cL_law 396 = .ok (.aload_n 0, 1) := by decide +kernel
theorem dL_law_397 : decode cL_law 397 = .ok (.iload_n 3, 1) := by decide +kernel
theorem dL_law_398 : decode cL_law 398 = .ok (.iconst 3, 1) := by decide +kernel
theorem dL_law_399 : decode cL_law 399 = .ok (.iadd, 1) := by decide +kernel
theorem dL_law_400 : decode cL_law 400 = .ok (.iaload, 1) := by decide +kernel
theorem dL_law_401 : decode cL_law 401 = .ok (.aload_n 0, 1) := by decide +kernel
theorem dL_law_402 : decode cL_law 402 = .ok (.iload_n 3, 1) := by decide +kernel
theorem dL_law_403 : decode cL_law 403 = .ok (.iconst 4, 1) := by decide +kernel
theorem dL_law_404 : decode cL_law 404 = .ok (.iadd, 1) := by decide +kernel
theorem dL_law_405 : decode cL_law 405 = .ok (.iaload, 1) := by decide +kernel
theorem dL_law_406 : decode cL_law 406 = .ok (.aload_n 0, 1) := by decide +kernel
theorem dL_law_407 : decode cL_law 407 = .ok (.iload_n 3, 1) := by decide +kernel
theorem dL_law_408 : decode cL_law 408 = .ok (.iconst 5, 1) := by decide +kernel
theorem dL_law_409 : decode cL_law 409 = .ok (.iadd, 1) := by decide +kernel
theorem dL_law_410 : decode cL_law 410 = .ok (.iaload, 1) := by decide +kernel
theorem dL_law_411 : decode cL_law 411 = .ok (.invokevirtual 45, 3) := by decide +kernel
theorem dL_law_414 : decode cL_law 414 = .ok (.pop, 1) := by decide +kernel
theorem dL_law_415 : decode cL_law 415 = .ok (.aload_n 2, 1) := by decide +kernel
theorem dL_law_416 : decode cL_law 416 = .ok (.aload_n 0, 1) := by decide +kernel
theorem dL_law_417 : decode cL_law 417 = .ok (.iload_n 3, 1) := by decide +kernel
theorem dL_law_418 : decode cL_law 418 = .ok (.iconst 1, 1) := by decide +kernel
theorem dL_law_419 : decode cL_law 419 = .ok (.iadd, 1) := by decide +kernel
theorem dL_law_420 : decode cL_law 420 = .ok (.iaload, 1) := by decide +kernel
theorem dL_law_421 : decode cL_law 421 = .ok (.aload_n 0, 1) := by decide +kernel
theorem dL_law_422 : decode cL_law 422 = .ok (.iload_n 3, 1) := by decide +kernel
theorem dL_law_423 : decode cL_law 423 = .ok (.iconst 2, 1) := by decide +kernel
theorem dL_law_424 : decode cL_law 424 = .ok (.iadd, 1) := by decide +kernel
theorem dL_law_425 : decode cL_law 425 = .ok (.iaload, 1) := by decide +kernel
theorem dL_law_426 : decode cL_law 426 = .ok (.aload_n 0, 1) := by decide +kernel
theorem dL_law_427 : decode cL_law 427 = .ok (.iload_n 3, 1) := by decide +kernel
theorem dL_law_428 : decode cL_law 428 = .ok (.iconst 3, 1) := by decide +kernel
theorem dL_law_429 : decode cL_law 429 = .ok (.iadd, 1) := by decide +kernel
theorem dL_law_430 : decode cL_law 430 = .ok (.iaload, 1) := by decide +kernel
theorem dL_law_431 : decode cL_law 431 = .ok (.aload_n 0, 1) := by decide +kernel
theorem dL_law_432 : decode cL_law 432 = .ok (.iload_n 3, 1) := by decide +kernel
theorem dL_law_433 : decode cL_law 433 = .ok (.iconst 4, 1) := by decide +kernel
theorem dL_law_434 : decode cL_law 434 = .ok (.iadd, 1) := by decide +kernel
theorem dL_law_435 : decode cL_law 435 = .ok (.iaload, 1) := by decide +kernel
theorem dL_law_436 : decode cL_law 436 = .ok (.aload_n 0, 1) := by decide +kernel
theorem dL_law_437 : decode cL_law 437 = .ok (.iload_n 3, 1) := by decide +kernel
theorem dL_law_438 : decode cL_law 438 = .ok (.iconst 5, 1) := by decide +kernel
theorem dL_law_439 : decode cL_law 439 = .ok (.iadd, 1) := by decide +kernel
theorem dL_law_440 : decode cL_law 440 = .ok (.iaload, 1) := by decide +kernel
theorem dL_law_441 : decode cL_law 441 = .ok (.invokevirtual 49, 3) := by decide +kernel
theorem dL_law_444 : decode cL_law 444 = .ok (.pop, 1) := by decide +kernel
theorem dL_law_445 : decode cL_law 445 = .ok (.goto 501, 3) := by decide +kernel
theorem dL_law_448 : decode cL_law 448 = .ok (.aload_n 1, 1) := by decide +kernel
theorem dL_law_449 : decode cL_law 449 = .ok (.aload_n 0, 1) := by decide +kernel
theorem dL_law_450 : decode cL_law 450 = .ok (.iload_n 3, 1) := by decide +kernel
theorem dL_law_451 : decode cL_law 451 = .ok (.iconst 1, 1) := by decide +kernel
theorem dL_law_452 : decode cL_law 452 = .ok (.iadd, 1) := by decide +kernel
theorem dL_law_453 : decode cL_law 453 = .ok (.iaload, 1) := by decide +kernel
theorem dL_law_454 : decode cL_law 454 = .ok (.aload_n 0, 1) := by decide +kernel
theorem dL_law_455 : decode cL_law 455 = .ok (.iload_n 3, 1) := by decide +kernel
theorem dL_law_456 : decode cL_law 456 = .ok (.iconst 2, 1) := by decide +kernel
theorem dL_law_457 : decode cL_law 457 = .ok (.iadd, 1) := by decide +kernel
theorem dL_law_458 : decode cL_law 458 = .ok (.iaload, 1) := by decide +kernel
theorem dL_law_459 : decode cL_law 459 = .ok (.invokevirtual 50, 3) := by decide +kernel
theorem dL_law_462 : decode cL_law 462 = .ok (.pop, 1) := by decide +kernel
theorem dL_law_463 : decode cL_law 463 = .ok (.aload_n 2, 1) := by decide +kernel
theorem dL_law_464 : decode cL_law 464 = .ok (.aload_n 0, 1) := by decide +kernel
theorem dL_law_465 : decode cL_law 465 = .ok (.iload_n 3, 1) := by decide +kernel
theorem dL_law_466 : decode cL_law 466 = .ok (.iconst 1, 1) := by decide +kernel
theorem dL_law_467 : decode cL_law 467 = .ok (.iadd, 1) := by decide +kernel
theorem dL_law_468 : decode cL_law 468 = .ok (.iaload, 1) := by decide +kernel
theorem dL_law_469 : decode cL_law 469 = .ok (.aload_n 0, 1) := by decide +kernel
theorem dL_law_470 : decode cL_law 470 = .ok (.iload_n 3, 1) := by decide +kernel
theorem dL_law_471 : decode cL_law 471 = .ok (.iconst 2, 1) := by decide +kernel
