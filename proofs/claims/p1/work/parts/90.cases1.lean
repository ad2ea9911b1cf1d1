theorem dL_law_1060 : decode cL_law 1060 = .ok (.iinc 3 7, 3) := by decide +kernel
theorem dL_law_1063 : decode cL_law 1063 = .ok (.goto (-1045), 3) := by decide +kernel
theorem dL_law_18 : decode cL_law 18 = .ok (.iload_n 3, 1) := by decide +kernel
theorem dL_law_19 : decode cL_law 19 = .ok (.aload_n 0, 1) := by decide +kernel
theorem dL_law_20 : decode cL_law 20 = .ok (.arraylength, 1) := by decide +kernel
theorem dL_law_21 : decode cL_law 21 = .ok (.bipush 7, 2) := by decide +kernel
theorem dL_law_23 : decode cL_law 23 = .ok (.isub, 1) := by decide +kernel
theorem dL_law_24 : decode cL_law 24 = .ok (.if_icmp .gt 1042, 3) := by decide +kernel
theorem dL_law_1066 : decode cL_law 1066 = .ok (.iconst 1, 1) := by decide +kernel
theorem dL_law_1067 : decode cL_law 1067 = .ok (.ireturn, 1) := by decide +kernel
theorem dL_law_152 : decode cL_law 152 = .ok (.aload_n 1, 1) := by decide +kernel
theorem dL_law_153 : decode cL_law 153 = .ok (.aload_n 0, 1) := by decide +kernel
theorem dL_law_154 : decode cL_law 154 = .ok (.iload_n 3, 1) := by decide +kernel
theorem dL_law_155 : decode cL_law 155 = .ok (.iconst 1, 1) := by decide +kernel
theorem dL_law_156 : decode cL_law 156 = .ok (.iadd, 1) := by decide +kernel
theorem dL_law_157 : decode cL_law 157 = .ok (.iaload, 1) := by decide +kernel
theorem dL_law_158 : decode cL_law 158 = .ok (.aload_n 0, 1) := by decide +kernel
theorem dL_law_159 : decode cL_law 159 = .ok (.iload_n 3, 1) := by decide +kernel
theorem dL_law_160 : decode cL_law 160 = .ok (.iconst 2, 1) := by decide +kernel
theorem dL_law_161 : decode cL_law 161 = .ok (.iadd, 1) := by decide +kernel
theorem dL_law_162 : decode cL_law 162 = .ok (.iaload, 1) := by decide +kernel
set_option maxRecDepth 20000 in
theorem ggL_law_X7_party : GoodIn wsL_law wsX7_party := goodIn_r _ [96, 15, 97, 98, 99, 100, 101, 102, 2, 103, 675, 676, 677, 678, 679, 691, 692, 693, 694, 695, 696, 697, 712, 713] (by decide +kernel) (by decide +kernel)
set_option maxRecDepth 20000 in
theorem gL_law_X7_party : GoodIn wsL_law (wsV RL 13 RX7 yX7_party wsX7_party) := goodIn_app (goodIn_of _ (by decide +kernel)) ggL_law_X7_party
theorem dL_law_163 : decode cL_law 163 = .ok (.invokevirtual 13, 3) := by decide +kernel
theorem dL_law_166 : decode cL_law 166 = .ok (.aload_n 2, 1) := by decide +kernel
theorem dL_law_167 : decode cL_law 167 = .ok (.aload_n 0, 1) := by decide +kernel
theorem dL_law_168 : decode cL_law 168 = .ok (.iload_n 3, 1) := by decide +kernel
theorem dL_law_169 : decode cL_law 169 = .ok (.iconst 1, 1) := by decide +kernel
theorem dL_law_170 : decode cL_law 170 = .ok (.iadd, 1) := by decide +kernel
theorem dL_law_171 : decode cL_law 171 = .ok (.iaload, 1) := by decide +kernel
theorem dL_law_172 : decode cL_law 172 = .ok (.aload_n 0, 1) := by decide +kernel
theorem dL_law_173 : decode cL_law 173 = .ok (.iload_n 3, 1) := by decide +kernel
theorem dL_law_174 : decode cL_law 174 = .ok (.iconst 2, 1) := by decide +kernel
theorem dL_law_175 : decode cL_law 175 = .ok (.iadd, 1) := by decide +kernel
theorem dL_law_176 : decode cL_law 176 = .ok (.iaload, 1) := by decide +kernel
set_option maxRecDepth 20000 in
theorem ggL_law_X8_party : GoodIn wsL_law wsX8_party := goodIn_r _ [107, 85, 108, 109, 5, 110, 680, 681, 682, 683, 684, 685, 686, 687, 688, 689, 690] (by decide +kernel) (by decide +kernel)
set_option maxRecDepth 20000 in
theorem gL_law_X8_party : GoodIn wsL_law (wsV RL 17 RX8 yX8_party wsX8_party) := goodIn_app (goodIn_of _ (by decide +kernel)) ggL_law_X8_party
theorem dL_law_177 : decode cL_law 177 = .ok (.invokevirtual 17, 3) := by decide +kernel
theorem dL_law_180 : decode cL_law 180 = .ok (.if_icmp .eq 880, 3) := by decide +kernel
theorem dL_law_185 : decode cL_law 185 = .ok (.aload_n 1, 1) := by decide +kernel
theorem dL_law_186 : decode cL_law 186 = .ok (.aload_n 0, 1) := by decide +kernel
theorem dL_law_187 : decode cL_law 187 = .ok (.iload_n 3, 1) := by decide +kernel
theorem dL_law_188 : decode cL_law 188 = .ok (.iconst 1, 1) := by decide +kernel
theorem dL_law_189 : decode cL_law 189 = .ok (.iadd, 1) := by decide +kernel
theorem dL_law_190 : decode cL_law 190 = .ok (.iaload, 1) := by decide +kernel
theorem dL_law_191 : decode cL_law 191 = .ok (.aload_n 0, 1) := by decide +kernel
theorem dL_law_192 : decode cL_law 192 = .ok (.iload_n 3, 1) := by decide +kernel
theorem dL_law_193 : decode cL_law 193 = .ok (.iconst 2, 1) := by decide +kernel
theorem dL_law_194 : decode cL_law 194 = .ok (.iadd, 1) := by decide +kernel
theorem dL_law_195 : decode cL_law 195 = .ok (.iaload, 1) := by decide +kernel
set_option maxRecDepth 20000 in
theorem ggL_law_X7_mediator : GoodIn wsL_law wsX7_mediator := goodIn_r _ [114, 15, 115, 116, 117, 118, 119, 101, 102, 2, 103, 675, 676, 677, 678, 679, 691, 692, 693, 694, 695, 696, 697, 714, 715, 716] (by decide +kernel) (by decide +kernel)
set_option maxRecDepth 20000 in
theorem gL_law_X7_mediator : GoodIn wsL_law (wsV RL 18 RX7 yX7_mediator wsX7_mediator) := goodIn_app (goodIn_of _ (by decide +kernel)) ggL_law_X7_mediator
theorem dL_law_196 : decode cL_law 196 = .ok (.invokevirtual 18, 3) := by decide +kernel
theorem dL_law_199 : decode cL_law 199 = .ok (.aload_n 2, 1) := by decide +kernel
theorem dL_law_200 : decode cL_law 200 = .ok (.aload_n 0, 1) := by decide +kernel
theorem dL_law_201 : decode cL_law 201 = .ok (.iload_n 3, 1) := by decide +kernel
theorem dL_law_202 : decode cL_law 202 = .ok (.iconst 1, 1) := by decide +kernel
theorem dL_law_203 : decode cL_law 203 = .ok (.iadd, 1) := by decide +kernel
theorem dL_law_204 : decode cL_law 204 = .ok (.iaload, 1) := by decide +kernel
theorem dL_law_205 : decode cL_law 205 = .ok (.aload_n 0, 1) := by decide +kernel
theorem dL_law_206 : decode cL_law 206 = .ok (.iload_n 3, 1) := by decide +kernel
theorem dL_law_207 : decode cL_law 207 = .ok (.iconst 2, 1) := by decide +kernel
theorem dL_law_208 : decode cL_law 208 = .ok (.iadd, 1) := by decide +kernel
theorem dL_law_209 : decode cL_law 209 = .ok (.iaload, 1) := by decide +kernel
set_option maxRecDepth 20000 in
theorem ggL_law_X8_mediator : GoodIn wsL_law wsX8_mediator := goodIn_r _ [123, 85, 108, 109, 5, 110, 680, 681, 682, 683, 684, 685, 686, 687, 688, 689, 690] (by decide +kernel) (by decide +kernel)
set_option maxRecDepth 20000 in
theorem gL_law_X8_mediator : GoodIn wsL_law (wsV RL 21 RX8 yX8_mediator wsX8_mediator) := goodIn_app (goodIn_of _ (by decide +kernel)) ggL_law_X8_mediator
theorem dL_law_210 : decode cL_law 210 = .ok (.invokevirtual 21, 3) := by decide +kernel
theorem dL_law_213 : decode cL_law 213 = .ok (.if_icmp .eq 847, 3) := by decide +kernel
theorem dL_law_218 : decode cL_law 218 = .ok (.aload_n 1, 1) := by decide +kernel
theorem dL_law_219 : decode cL_law 219 = .ok (.aload_n 0, 1) := by decide +kernel
theorem dL_law_220 : decode cL_law 220 = .ok (.iload_n 3, 1) := by decide +kernel
theorem dL_law_221 : decode cL_law 221 = .ok (.iconst 1, 1) := by decide +kernel
theorem dL_law_222 : decode cL_law 222 = .ok (.iadd, 1) := by decide +kernel
theorem dL_law_223 : decode cL_law 223 = .ok (.iaload, 1) := by decide +kernel
theorem dL_law_224 : decode cL_law 224 = .ok (.aload_n 0, 1) := by decide +kernel
theorem dL_law_225 : decode cL_law 225 = .ok (.iload_n 3, 1) := by decide +kernel
theorem dL_law_226 : decode cL_law 226 = .ok (.iconst 2, 1) := by decide +kernel
theorem dL_law_227 : decode cL_law 227 = .ok (.iadd, 1) := by decide +kernel
theorem dL_law_228 : decode cL_law 228 = .ok (.iaload, 1) := by decide +kernel
theorem dL_law_229 : decode cL_law 229 = .ok (.aload_n 0, 1) := by decide +kernel
theorem dL_law_230 : decode cL_law 230 = .ok (.iload_n 3, 1) := by decide +kernel
theorem dL_law_231 : decode cL_law 231 = .ok (.iconst 3, 1) := by decide +kernel
theorem dL_law_232 : decode cL_law 232 = .ok (.iadd, 1) := by decide +kernel
theorem dL_law_233 : decode cL_law 233 = .ok (.iaload, 1) := by decide +kernel
theorem dL_law_234 : decode cL_law 234 = .ok (.ifCond .eq 7, 3) := by decide +kernel
theorem dL_law_241 : decode cL_law 241 = .ok (.iconst 0, 1) := by decide +kernel
set_option maxRecDepth 20000 in
theorem ggL_law_X7_kin : GoodIn wsL_law wsX7_kin := goodIn_r _ [127, 15, 116, 119, 128, 129, 130, 2, 131, 115, 101, 102, 103, 132, 133, 134, 135, 97, 136, 137, 138, 675, 676, 677, 678, 679, 691, 692, 693, 694, 695, 696, 697, 714, 715, 716] (by decide +kernel) (by decide +kernel)
set_option maxRecDepth 20000 in
theorem gL_law_X7_kin : GoodIn wsL_law (wsV RL 22 RX7 yX7_kin wsX7_kin) := goodIn_app (goodIn_of _ (by decide +kernel)) ggL_law_X7_kin
theorem dL_law_242 : decode cL_law 242 = .ok (.invokevirtual 22, 3) := by decide +kernel
theorem dL_law_245 : decode cL_law 245 = .ok (.aload_n 2, 1) := by decide +kernel
theorem dL_law_246 : decode cL_law 246 = .ok (.aload_n 0, 1) := by decide +kernel
theorem dL_law_247 : decode cL_law 247 = .ok (.iload_n 3, 1) := by decide +kernel
theorem dL_law_248 : decode cL_law 248 = .ok (.iconst 1, 1) := by decide +kernel
theorem dL_law_249 : decode cL_law 249 = .ok (.iadd, 1) := by decide +kernel
theorem dL_law_250 : decode cL_law 250 = .ok (.iaload, 1) := by decide +kernel
theorem dL_law_251 : decode cL_law 251 = .ok (.aload_n 0, 1) := by decide +kernel
theorem dL_law_252 : decode cL_law 252 = .ok (.iload_n 3, 1) := by decide +kernel
theorem dL_law_253 : decode cL_law 253 = .ok (.iconst 2, 1) := by decide +kernel
theorem dL_law_254 : decode cL_law 254 = .ok (.iadd, 1) := by decide +kernel
theorem dL_law_255 : decode cL_law 255 = .ok (.iaload, 1) := by decide +kernel
theorem dL_law_256 : decode cL_law 256 = .ok (.aload_n 0, 1) := by decide +kernel
theorem dL_law_257 : decode cL_law 257 = .ok (.iload_n 3, 1) := by decide +kernel
theorem dL_law_258 : decode cL_law 258 = .ok (.iconst 3, 1) := by decide +kernel
theorem dL_law_259 : decode cL_law 259 = .ok (.iadd, 1) := by decide +kernel
theorem dL_law_260 : decode cL_law 260 = .ok (.iaload, 1) := by decide +kernel
theorem dL_law_261 : decode cL_law 261 = .ok (.ifCond .eq 7, 3) := by decide +kernel
theorem dL_law_268 : decode cL_law 268 = .ok (.iconst 0, 1) := by decide +kernel
set_option maxRecDepth 20000 in
theorem ggL_law_X8_kin : GoodIn wsL_law wsX8_kin := goodIn_r _ [142, 85, 143, 144, 145, 5, 146, 108, 109, 110, 147, 148, 149, 150, 680, 681, 682, 683, 684, 685, 686, 687, 688, 689, 690] (by decide +kernel) (by decide +kernel)
set_option maxRecDepth 20000 in
theorem gL_law_X8_kin : GoodIn wsL_law (wsV RL 26 RX8 yX8_kin wsX8_kin) := goodIn_app (goodIn_of _ (by decide +kernel)) ggL_law_X8_kin
theorem dL_law_269 : decode cL_law 269 = .ok (.invokevirtual 26, 3) := by decide +kernel
theorem dL_law_272 : decode cL_law 272 = .ok (.if_icmp .eq 788, 3) := by decide +kernel
theorem dL_law_237 : decode cL_law 237 = .ok (.iconst 1, 1) := by decide +kernel
theorem dL_law_238 : decode cL_law 238 = .ok (.goto 4, 3) := by decide +kernel
theorem dL_law_264 : decode cL_law 264 = .ok (.iconst 1, 1) := by decide +kernel
theorem dL_law_265 : decode cL_law 265 = .ok (.goto 4, 3) := by decide +kernel
theorem dL_law_277 : decode cL_law 277 = .ok (.aload_n 1, 1) := by decide +kernel
theorem dL_law_278 : decode cL_law 278 = .ok (.aload_n 0, 1) := by decide +kernel
theorem dL_law_279 : decode cL_law 279 = .ok (.iload_n 3, 1) := by decide +kernel
theorem dL_law_280 : decode cL_law 280 = .ok (.iconst 1, 1) := by decide +kernel
theorem dL_law_281 : decode cL_law 281 = .ok (.iadd, 1) := by decide +kernel
theorem dL_law_282 : decode cL_law 282 = .ok (.iaload, 1) := by decide +kernel
theorem dL_law_283 : decode cL_law 283 = .ok (.aload_n 0, 1) := by decide +kernel
theorem dL_law_284 : decode cL_law 284 = .ok (.iload_n 3, 1) := by decide +kernel
theorem dL_law_285 : decode cL_law 285 = .ok (.iconst 2, 1) := by decide +kernel
theorem dL_law_286 : decode cL_law 286 = .ok (.iadd, 1) := by decide +kernel
theorem dL_law_287 : decode cL_law 287 = .ok (.iaload, 1) := by decide +kernel
set_option maxRecDepth 20000 in
theorem ggL_law_X7_open : GoodIn wsL_law wsX7_open := goodIn_r _ [154, 15, 155, 156, 132, 133, 134, 2, 135, 97, 101, 102, 103, 157, 158, 159, 41, 160, 161, 162, 163, 164, 165, 166, 53, 54, 57, 675, 676, 677, 678, 679, 691, 692, 693, 694, 695, 696, 697, 717, 718, 719, 720, 721, 722, 723, 724, 725, 726, 727] (by decide +kernel) (by decide +kernel)
set_option maxRecDepth 20000 in
theorem gL_law_X7_open : GoodIn wsL_law (wsV RL 27 RX7 yX7_open wsX7_open) := goodIn_app (goodIn_of _ (by decide +kernel)) ggL_law_X7_open
theorem dL_law_288 : decode cL_law 288 = .ok (.invokevirtual 27, 3) := by decide +kernel
theorem dL_law_291 : decode cL_law 291 = .ok (.aload_n 2, 1) := by decide +kernel
theorem dL_law_292 : decode cL_law 292 = .ok (.aload_n 0, 1) := by decide +kernel
theorem dL_law_293 : decode cL_law 293 = .ok (.iload_n 3, 1) := by decide +kernel
theorem dL_law_294 : decode cL_law 294 = .ok (.iconst 1, 1) := by decide +kernel
theorem dL_law_295 : decode cL_law 295 = .ok (.iadd, 1) := by decide +kernel
theorem dL_law_296 : decode cL_law 296 = .ok (.iaload, 1) := by decide +kernel
theorem dL_law_297 : decode cL_law 297 = .ok (.aload_n 0, 1) := by decide +kernel
theorem dL_law_298 : decode cL_law 298 = .ok (.iload_n 3, 1) := by decide +kernel
theorem dL_law_299 : decode cL_law 299 = .ok (.iconst 2, 1) := by decide +kernel
theorem dL_law_300 : decode cL_law 300 = .ok (.iadd, 1) := by decide +kernel
theorem dL_law_301 : decode cL_law 301 = .ok (.iaload, 1) := by decide +kernel
set_option maxRecDepth 20000 in
theorem ggL_law_X8_open : GoodIn wsL_law wsX8_open := goodIn_r _ [170, 85, 147, 148, 149, 5, 150, 108, 109, 110, 171, 172, 173, 680, 681, 682, 683, 684, 685, 686, 687, 688, 689, 690] (by decide +kernel) (by decide +kernel)
set_option maxRecDepth 20000 in
theorem gL_law_X8_open : GoodIn wsL_law (wsV RL 30 RX8 yX8_open wsX8_open) := goodIn_app (goodIn_of _ (by decide +kernel)) ggL_law_X8_open
theorem dL_law_302 : decode cL_law 302 = .ok (.invokevirtual 30, 3) := by decide +kernel
theorem dL_law_305 : decode cL_law 305 = .ok (.if_icmp .eq 755, 3) := by decide +kernel
theorem dL_law_310 : decode cL_law 310 = .ok (.aload_n 1, 1) := by decide +kernel
theorem dL_law_311 : decode cL_law 311 = .ok (.aload_n 0, 1) := by decide +kernel
theorem dL_law_312 : decode cL_law 312 = .ok (.iload_n 3, 1) := by decide +kernel
theorem dL_law_313 : decode cL_law 313 = .ok (.iconst 1, 1) := by decide +kernel
theorem dL_law_314 : decode cL_law 314 = .ok (.iadd, 1) := by decide +kernel
theorem dL_law_315 : decode cL_law 315 = .ok (.iaload, 1) := by decide +kernel
set_option maxRecDepth 20000 in
theorem ggL_law_X7_close : GoodIn wsL_law wsX7_close := goodIn_r _ [177, 15, 156, 178, 179, 180, 181, 2, 182, 155, 101, 102, 103, 675, 676, 677, 678, 679, 691, 692, 693, 694, 695, 696, 697, 717, 718, 719, 720, 721, 722, 723, 724, 725, 726, 727] (by decide +kernel) (by decide +kernel)
set_option maxRecDepth 20000 in
theorem gL_law_X7_close : GoodIn wsL_law (wsV RL 31 RX7 yX7_close wsX7_close) := goodIn_app (goodIn_of _ (by decide +kernel)) ggL_law_X7_close
theorem dL_law_316 : decode cL_law 316 = .ok (.invokevirtual 31, 3) := by decide +kernel
theorem dL_law_319 : decode cL_law 319 = .ok (.aload_n 2, 1) := by decide +kernel
theorem dL_law_320 : decode cL_law 320 = .ok (.aload_n 0, 1) := by decide +kernel
theorem dL_law_321 : decode cL_law 321 = .ok (.iload_n 3, 1) := by decide +kernel
theorem dL_law_322 : decode cL_law 322 = .ok (.iconst 1, 1) := by decide +kernel
theorem dL_law_323 : decode cL_law 323 = .ok (.iadd, 1) := by decide +kernel
theorem dL_law_324 : decode cL_law 324 = .ok (.iaload, 1) := by decide +kernel
set_option maxRecDepth 20000 in
theorem ggL_law_X8_close : GoodIn wsL_law wsX8_close := goodIn_r _ [186, 85, 187, 188, 189, 5, 190, 108, 109, 110, 171, 172, 173, 680, 681, 682, 683, 684, 685, 686, 687, 688, 689, 690] (by decide +kernel) (by decide +kernel)
set_option maxRecDepth 20000 in
theorem gL_law_X8_close : GoodIn wsL_law (wsV RL 35 RX8 yX8_close wsX8_close) := goodIn_app (goodIn_of _ (by decide +kernel)) ggL_law_X8_close
theorem dL_law_325 : decode cL_law 325 = .ok (.invokevirtual 35, 3) := by decide +kernel
theorem dL_law_328 : decode cL_law 328 = .ok (.if_icmp .eq 732, 3) := by decide +kernel
theorem dL_law_333 : decode cL_law 333 = .ok (.aload_n 1, 1) := by decide +kernel
theorem dL_law_334 : decode cL_law 334 = .ok (.aload_n 0, 1) := by decide +kernel
theorem dL_law_335 : decode cL_law 335 = .ok (.iload_n 3, 1) := by decide +kernel
theorem dL_law_336 : decode cL_law 336 = .ok (.iconst 1, 1) := by decide +kernel
theorem dL_law_337 : decode cL_law 337 = .ok (.iadd, 1) := by decide +kernel
theorem dL_law_338 : decode cL_law 338 = .ok (.iaload, 1) := by decide +kernel
theorem dL_law_339 : decode cL_law 339 = .ok (.aload_n 0, 1) := by decide +kernel
theorem dL_law_340 : decode cL_law 340 = .ok (.iload_n 3, 1) := by decide +kernel
theorem dL_law_341 : decode cL_law 341 = .ok (.iconst 2, 1) := by decide +kernel
theorem dL_law_342 : decode cL_law 342 = .ok (.iadd, 1) := by decide +kernel
theorem dL_law_343 : decode cL_law 343 = .ok (.iaload, 1) := by decide +kernel
set_option maxRecDepth 20000 in
theorem ggL_law_X7_weight : GoodIn wsL_law wsX7_weight := goodIn_r _ [194, 15, 156, 195, 179, 180, 181, 2, 182, 155, 101, 102, 103, 675, 676, 677, 678, 679, 691, 692, 693, 694, 695, 696, 697, 717, 718, 719, 720, 721, 722, 723, 724, 725, 726, 727] (by decide +kernel) (by decide +kernel)
set_option maxRecDepth 20000 in
theorem gL_law_X7_weight : GoodIn wsL_law (wsV RL 36 RX7 yX7_weight wsX7_weight) := goodIn_app (goodIn_of _ (by decide +kernel)) ggL_law_X7_weight
theorem dL_law_344 : decode cL_law 344 = .ok (.invokevirtual 36, 3) := by decide +kernel
theorem dL_law_347 : decode cL_law 347 = .ok (.aload_n 2, 1) := by decide +kernel
theorem dL_law_348 : decode cL_law 348 = .ok (.aload_n 0, 1) := by decide +kernel
theorem dL_law_349 : decode cL_law 349 = .ok (.iload_n 3, 1) := by decide +kernel
theorem dL_law_350 : decode cL_law 350 = .ok (.iconst 1, 1) := by decide +kernel
theorem dL_law_351 : decode cL_law 351 = .ok (.iadd, 1) := by decide +kernel
theorem dL_law_352 : decode cL_law 352 = .ok (.iaload, 1) := by decide +kernel
theorem dL_law_353 : decode cL_law 353 = .ok (.aload_n 0, 1) := by decide +kernel
theorem dL_law_354 : decode cL_law 354 = .ok (.iload_n 3, 1) := by decide +kernel
theorem dL_law_355 : decode cL_law 355 = .ok (.iconst 2, 1) := by decide +kernel
theorem dL_law_356 : decode cL_law 356 = .ok (.iadd, 1) := by decide +kernel
theorem dL_law_357 : decode cL_law 357 = .ok (.iaload, 1) := by decide +kernel
set_option maxRecDepth 20000 in
theorem ggL_law_X8_weight : GoodIn wsL_law wsX8_weight := goodIn_r _ [199, 85, 187, 188, 189, 5, 190, 108, 109, 110, 171, 172, 173, 680, 681, 682, 683, 684, 685, 686, 687, 688, 689, 690] (by decide +kernel) (by decide +kernel)
set_option maxRecDepth 20000 in
theorem gL_law_X8_weight : GoodIn wsL_law (wsV RL 39 RX8 yX8_weight wsX8_weight) := goodIn_app (goodIn_of _ (by decide +kernel)) ggL_law_X8_weight
theorem dL_law_358 : decode cL_law 358 = .ok (.invokevirtual 39, 3) := by decide +kernel
theorem dL_law_361 : decode cL_law 361 = .ok (.if_icmp .eq 699, 3) := by decide +kernel
theorem dL_law_366 : decode cL_law 366 = .ok (.aload_n 1, 1) := by decide +kernel
theorem dL_law_367 : decode cL_law 367 = .ok (.aload_n 0, 1) := by decide +kernel
theorem dL_law_368 : decode cL_law 368 = .ok (.iload_n 3, 1) := by decide +kernel
theorem dL_law_369 : decode cL_law 369 = .ok (.iconst 1, 1) := by decide +kernel
theorem dL_law_370 : decode cL_law 370 = .ok (.iadd, 1) := by decide +kernel
theorem dL_law_371 : decode cL_law 371 = .ok (.iaload, 1) := by decide +kernel
theorem dL_law_372 : decode cL_law 372 = .ok (.aload_n 0, 1) := by decide +kernel
theorem dL_law_373 : decode cL_law 373 = .ok (.iload_n 3, 1) := by decide +kernel
theorem dL_law_374 : decode cL_law 374 = .ok (.iconst 2, 1) := by decide +kernel
theorem dL_law_375 : decode cL_law 375 = .ok (.iadd, 1) := by decide +kernel
theorem dL_law_376 : decode cL_law 376 = .ok (.iaload, 1) := by decide +kernel
set_option maxRecDepth 20000 in
theorem ggL_law_X7_mark : GoodIn wsL_law wsX7_mark := goodIn_r _ [203, 15, 156, 204, 205, 179, 180, 181, 2, 182, 155, 101, 102, 103, 136, 137, 138, 675, 676, 677, 678, 679, 691, 692, 693, 694, 695, 696, 697, 717, 718, 719, 720, 721, 722, 723, 724, 725, 726, 727] (by decide +kernel) (by decide +kernel)
set_option maxRecDepth 20000 in
theorem gL_law_X7_mark : GoodIn wsL_law (wsV RL 40 RX7 yX7_mark wsX7_mark) := goodIn_app (goodIn_of _ (by decide +kernel)) ggL_law_X7_mark
theorem dL_law_377 : decode cL_law 377 = .ok (.invokevirtual 40, 3) := by decide +kernel
theorem dL_law_380 : decode cL_law 380 = .ok (.aload_n 2, 1) := by decide +kernel
theorem dL_law_381 : decode cL_law 381 = .ok (.aload_n 0, 1) := by decide +kernel
theorem dL_law_382 : decode cL_law 382 = .ok (.iload_n 3, 1) := by decide +kernel
theorem dL_law_383 : decode cL_law 383 = .ok (.iconst 1, 1) := by decide +kernel
theorem dL_law_384 : decode cL_law 384 = .ok (.iadd, 1) := by decide +kernel
theorem dL_law_385 : decode cL_law 385 = .ok (.iaload, 1) := by decide +kernel
theorem dL_law_386 : decode cL_law 386 = .ok (.aload_n 0, 1) := by decide +kernel
theorem dL_law_387 : decode cL_law 387 = .ok (.iload_n 3, 1) := by decide +kernel
theorem dL_law_388 : decode cL_law 388 = .ok (.iconst 2, 1) := by decide +kernel
theorem dL_law_389 : decode cL_law 389 = .ok (.iadd, 1) := by decide +kernel
theorem dL_law_390 : decode cL_law 390 = .ok (.iaload, 1) := by decide +kernel
set_option maxRecDepth 20000 in
theorem ggL_law_X8_mark : GoodIn wsL_law wsX8_mark := goodIn_r _ [209, 85, 187, 188, 189, 5, 190, 108, 109, 110, 680, 681, 682, 683, 684, 685, 686, 687, 688, 689, 690] (by decide +kernel) (by decide +kernel)
set_option maxRecDepth 20000 in
theorem gL_law_X8_mark : GoodIn wsL_law (wsV RL 43 RX8 yX8_mark wsX8_mark) := goodIn_app (goodIn_of _ (by decide +kernel)) ggL_law_X8_mark
theorem dL_law_391 : decode cL_law 391 = .ok (.invokevirtual 43, 3) := by decide +kernel
theorem dL_law_394 : decode cL_law 394 = .ok (.if_icmp .eq 666, 3) := by decide +kernel
theorem dL_law_399 : decode cL_law 399 = .ok (.aload_n 1, 1) := by decide +kernel
theorem dL_law_400 : decode cL_law 400 = .ok (.aload_n 0, 1) := by decide +kernel
theorem dL_law_401 : decode cL_law 401 = .ok (.iload_n 3, 1) := by decide +kernel
theorem dL_law_402 : decode cL_law 402 = .ok (.iconst 1, 1) := by decide +kernel
theorem dL_law_403 : decode cL_law 403 = .ok (.iadd, 1) := by decide +kernel
theorem dL_law_404 : decode cL_law 404 = .ok (.iaload, 1) := by decide +kernel
theorem dL_law_405 : decode cL_law 405 = .ok (.aload_n 0, 1) := by decide +kernel
theorem dL_law_406 : decode cL_law 406 = .ok (.iload_n 3, 1) := by decide +kernel
theorem dL_law_407 : decode cL_law 407 = .ok (.iconst 2, 1) := by decide +kernel
theorem dL_law_408 : decode cL_law 408 = .ok (.iadd, 1) := by decide +kernel
theorem dL_law_409 : decode cL_law 409 = .ok (.iaload, 1) := by decide +kernel
set_option maxRecDepth 20000 in
theorem ggL_law_X7_of : GoodIn wsL_law wsX7_of := goodIn_r _ [213, 15, 156, 214, 178, 215, 216, 195, 179, 180, 181, 2, 182, 155, 101, 102, 103, 217, 218, 219, 14, 220, 221, 222, 223, 224, 225, 35, 226, 137, 138, 227, 228, 229, 230, 231, 232, 233, 234, 675, 676, 677, 678, 679, 691, 692, 693, 694, 695, 696, 697, 717, 718, 719, 720, 721, 722, 723, 724, 725, 726, 727] (by decide +kernel) (by decide +kernel)
set_option maxRecDepth 20000 in
theorem gL_law_X7_of : GoodIn wsL_law (wsV RL 44 RX7 yX7_of wsX7_of) := goodIn_app (goodIn_of _ (by decide +kernel)) ggL_law_X7_of
theorem dL_law_410 : decode cL_law 410 = .ok (.invokevirtual 44, 3) := by decide +kernel
theorem dL_law_413 : decode cL_law 413 = .ok (.aload_n 2, 1) := by decide +kernel
theorem dL_law_414 : decode cL_law 414 = .ok (.aload_n 0, 1) := by decide +kernel
theorem dL_law_415 : decode cL_law 415 = .ok (.iload_n 3, 1) := by decide +kernel
theorem dL_law_416 : decode cL_law 416 = .ok (.iconst 1, 1) := by decide +kernel
theorem dL_law_417 : decode cL_law 417 = .ok (.iadd, 1) := by decide +kernel
theorem dL_law_418 : decode cL_law 418 = .ok (.iaload, 1) := by decide +kernel
theorem dL_law_419 : decode cL_law 419 = .ok (.aload_n 0, 1) := by decide +kernel
theorem dL_law_420 : decode cL_law 420 = .ok (.iload_n 3, 1) := by decide +kernel
theorem dL_law_421 : decode cL_law 421 = .ok (.iconst 2, 1) := by decide +kernel
theorem dL_law_422 : decode cL_law 422 = .ok (.iadd, 1) := by decide +kernel
theorem dL_law_423 : decode cL_law 423 = .ok (.iaload, 1) := by decide +kernel
set_option maxRecDepth 20000 in
theorem ggL_law_X8_of : GoodIn wsL_law wsX8_of := goodIn_r _ [238, 88, 85, 187, 188, 189, 5, 190, 108, 109, 110, 239, 240, 241, 242, 243, 244, 245, 246, 171, 172, 173, 680, 681, 682, 683, 684, 685, 686, 687, 688, 689, 690] (by decide +kernel) (by decide +kernel)
set_option maxRecDepth 20000 in
theorem gL_law_X8_of : GoodIn wsL_law (wsV RL 47 RX8 yX8_of wsX8_of) := goodIn_app (goodIn_of _ (by decide +kernel)) ggL_law_X8_of
theorem dL_law_424 : decode cL_law 424 = .ok (.invokevirtual 47, 3) := by decide +kernel
theorem dL_law_427 : decode cL_law 427 = .ok (.if_icmp .eq 633, 3) := by decide +kernel
theorem dL_law_432 : decode cL_law 432 = .ok (.aload_n 1, 1) := by decide +kernel
theorem dL_law_433 : decode cL_law 433 = .ok (.aload_n 0, 1) := by decide +kernel
theorem dL_law_434 : decode cL_law 434 = .ok (.iload_n 3, 1) := by decide +kernel
theorem dL_law_435 : decode cL_law 435 = .ok (.iconst 1, 1) := by decide +kernel
theorem dL_law_436 : decode cL_law 436 = .ok (.iadd, 1) := by decide +kernel
theorem dL_law_437 : decode cL_law 437 = .ok (.iaload, 1) := by decide +kernel
theorem dL_law_438 : decode cL_law 438 = .ok (.aload_n 0, 1) := by decide +kernel
theorem dL_law_439 : decode cL_law 439 = .ok (.iload_n 3, 1) := by decide +kernel
theorem dL_law_440 : decode cL_law 440 = .ok (.iconst 2, 1) := by decide +kernel
theorem dL_law_441 : decode cL_law 441 = .ok (.iadd, 1) := by decide +kernel
theorem dL_law_442 : decode cL_law 442 = .ok (.iaload, 1) := by decide +kernel
theorem dL_law_443 : decode cL_law 443 = .ok (.aload_n 0, 1) := by decide +kernel
theorem dL_law_444 : decode cL_law 444 = .ok (.iload_n 3, 1) := by decide +kernel
theorem dL_law_445 : decode cL_law 445 = .ok (.iconst 3, 1) := by decide +kernel
theorem dL_law_446 : decode cL_law 446 = .ok (.iadd, 1) := by decide +kernel
theorem dL_law_447 : decode cL_law 447 = .ok (.iaload, 1) := by decide +kernel
set_option maxRecDepth 20000 in
theorem ggL_law_X7_offer : GoodIn wsL_law wsX7_offer := goodIn_r _ [250, 15, 156, 178, 251, 216, 179, 180, 181, 2, 182, 155, 101, 102, 103, 252, 253, 254, 255, 256, 257, 41, 258, 54, 163, 56, 161, 162, 675, 676, 677, 678, 679, 691, 692, 693, 694, 695, 696, 697, 717, 718, 719, 720, 721, 722, 723, 724, 725, 726, 727] (by decide +kernel) (by decide +kernel)
set_option maxRecDepth 20000 in
theorem gL_law_X7_offer : GoodIn wsL_law (wsV RL 48 RX7 yX7_offer wsX7_offer) := goodIn_app (goodIn_of _ (by decide +kernel)) ggL_law_X7_offer
theorem dL_law_448 : decode cL_law 448 = .ok (.invokevirtual 48, 3) := by decide +kernel
theorem dL_law_451 : decode cL_law 451 = .ok (.aload_n 2, 1) := by decide +kernel
theorem dL_law_452 : decode cL_law 452 = .ok (.aload_n 0, 1) := by decide +kernel
theorem dL_law_453 : decode cL_law 453 = .ok (.iload_n 3, 1) := by decide +kernel
theorem dL_law_454 : decode cL_law 454 = .ok (.iconst 1, 1) := by decide +kernel
theorem dL_law_455 : decode cL_law 455 = .ok (.iadd, 1) := by decide +kernel
theorem dL_law_456 : decode cL_law 456 = .ok (.iaload, 1) := by decide +kernel
theorem dL_law_457 : decode cL_law 457 = .ok (.aload_n 0, 1) := by decide +kernel
theorem dL_law_458 : decode cL_law 458 = .ok (.iload_n 3, 1) := by decide +kernel
theorem dL_law_459 : decode cL_law 459 = .ok (.iconst 2, 1) := by decide +kernel
theorem dL_law_460 : decode cL_law 460 = .ok (.iadd, 1) := by decide +kernel
theorem dL_law_461 : decode cL_law 461 = .ok (.iaload, 1) := by decide +kernel
theorem dL_law_462 : decode cL_law 462 = .ok (.aload_n 0, 1) := by decide +kernel
theorem dL_law_463 : decode cL_law 463 = .ok (.iload_n 3, 1) := by decide +kernel
theorem dL_law_464 : decode cL_law 464 = .ok (.iconst 3, 1) := by decide +kernel
theorem dL_law_465 : decode cL_law 465 = .ok (.iadd, 1) := by decide +kernel
theorem dL_law_466 : decode cL_law 466 = .ok (.iaload, 1) := by decide +kernel
set_option maxRecDepth 20000 in
theorem ggL_law_X8_offer : GoodIn wsL_law wsX8_offer := goodIn_r _ [262, 85, 187, 188, 189, 5, 190, 108, 109, 110, 263, 264, 265, 171, 172, 173, 680, 681, 682, 683, 684, 685, 686, 687, 688, 689, 690] (by decide +kernel) (by decide +kernel)
set_option maxRecDepth 20000 in
theorem gL_law_X8_offer : GoodIn wsL_law (wsV RL 52 RX8 yX8_offer wsX8_offer) := goodIn_app (goodIn_of _ (by decide +kernel)) ggL_law_X8_offer
theorem dL_law_467 : decode cL_law 467 = .ok (.invokevirtual 52, 3) := by decide +kernel
theorem dL_law_470 : decode cL_law 470 = .ok (.if_icmp .eq 590, 3) := by decide +kernel
theorem dL_law_475 : decode cL_law 475 = .ok (.aload_n 1, 1) := by decide +kernel
theorem dL_law_476 : decode cL_law 476 = .ok (.aload_n 0, 1) := by decide +kernel
theorem dL_law_477 : decode cL_law 477 = .ok (.iload_n 3, 1) := by decide +kernel
theorem dL_law_478 : decode cL_law 478 = .ok (.iconst 1, 1) := by decide +kernel
theorem dL_law_479 : decode cL_law 479 = .ok (.iadd, 1) := by decide +kernel
theorem dL_law_480 : decode cL_law 480 = .ok (.iaload, 1) := by decide +kernel
theorem dL_law_481 : decode cL_law 481 = .ok (.aload_n 0, 1) := by decide +kernel
theorem dL_law_482 : decode cL_law 482 = .ok (.iload_n 3, 1) := by decide +kernel
theorem dL_law_483 : decode cL_law 483 = .ok (.iconst 2, 1) := by decide +kernel
theorem dL_law_484 : decode cL_law 484 = .ok (.iadd, 1) := by decide +kernel
theorem dL_law_485 : decode cL_law 485 = .ok (.iaload, 1) := by decide +kernel
set_option maxRecDepth 20000 in
theorem ggL_law_X7_put : GoodIn wsL_law wsX7_put := goodIn_r _ [269, 15, 156, 251, 179, 180, 181, 2, 182, 155, 101, 102, 103, 252, 253, 254, 675, 676, 677, 678, 679, 691, 692, 693, 694, 695, 696, 697, 717, 718, 719, 720, 721, 722, 723, 724, 725, 726, 727] (by decide +kernel) (by decide +kernel)
set_option maxRecDepth 20000 in
theorem gL_law_X7_put : GoodIn wsL_law (wsV RL 53 RX7 yX7_put wsX7_put) := goodIn_app (goodIn_of _ (by decide +kernel)) ggL_law_X7_put
theorem dL_law_486 : decode cL_law 486 = .ok (.invokevirtual 53, 3) := by decide +kernel
theorem dL_law_489 : decode cL_law 489 = .ok (.aload_n 2, 1) := by decide +kernel
theorem dL_law_490 : decode cL_law 490 = .ok (.aload_n 0, 1) := by decide +kernel
theorem dL_law_491 : decode cL_law 491 = .ok (.iload_n 3, 1) := by decide +kernel
theorem dL_law_492 : decode cL_law 492 = .ok (.iconst 1, 1) := by decide +kernel
theorem dL_law_493 : decode cL_law 493 = .ok (.iadd, 1) := by decide +kernel
theorem dL_law_494 : decode cL_law 494 = .ok (.iaload, 1) := by decide +kernel
theorem dL_law_495 : decode cL_law 495 = .ok (.aload_n 0, 1) := by decide +kernel
theorem dL_law_496 : decode cL_law 496 = .ok (.iload_n 3, 1) := by decide +kernel
theorem dL_law_497 : decode cL_law 497 = .ok (.iconst 2, 1) := by decide +kernel
theorem dL_law_498 : decode cL_law 498 = .ok (.iadd, 1) := by decide +kernel
theorem dL_law_499 : decode cL_law 499 = .ok (.iaload, 1) := by decide +kernel
set_option maxRecDepth 20000 in
theorem ggL_law_X8_put : GoodIn wsL_law wsX8_put := goodIn_r _ [273, 85, 187, 188, 189, 5, 190, 108, 109, 110, 263, 264, 265, 680, 681, 682, 683, 684, 685, 686, 687, 688, 689, 690] (by decide +kernel) (by decide +kernel)
set_option maxRecDepth 20000 in
theorem gL_law_X8_put : GoodIn wsL_law (wsV RL 56 RX8 yX8_put wsX8_put) := goodIn_app (goodIn_of _ (by decide +kernel)) ggL_law_X8_put
theorem dL_law_500 : decode cL_law 500 = .ok (.invokevirtual 56, 3) := by decide +kernel
theorem dL_law_503 : decode cL_law 503 = .ok (.if_icmp .eq 557, 3) := by decide +kernel
theorem dL_law_508 : decode cL_law 508 = .ok (.aload_n 1, 1) := by decide +kernel
theorem dL_law_509 : decode cL_law 509 = .ok (.aload_n 0, 1) := by decide +kernel
theorem dL_law_510 : decode cL_law 510 = .ok (.iload_n 3, 1) := by decide +kernel
theorem dL_law_511 : decode cL_law 511 = .ok (.iconst 1, 1) := by decide +kernel
theorem dL_law_512 : decode cL_law 512 = .ok (.iadd, 1) := by decide +kernel
theorem dL_law_513 : decode cL_law 513 = .ok (.iaload, 1) := by decide +kernel
theorem dL_law_514 : decode cL_law 514 = .ok (.aload_n 0, 1) := by decide +kernel
theorem dL_law_515 : decode cL_law 515 = .ok (.iload_n 3, 1) := by decide +kernel
theorem dL_law_516 : decode cL_law 516 = .ok (.iconst 2, 1) := by decide +kernel
theorem dL_law_517 : decode cL_law 517 = .ok (.iadd, 1) := by decide +kernel
theorem dL_law_518 : decode cL_law 518 = .ok (.iaload, 1) := by decide +kernel
theorem dL_law_519 : decode cL_law 519 = .ok (.aload_n 0, 1) := by decide +kernel
theorem dL_law_520 : decode cL_law 520 = .ok (.iload_n 3, 1) := by decide +kernel
theorem dL_law_521 : decode cL_law 521 = .ok (.iconst 3, 1) := by decide +kernel
theorem dL_law_522 : decode cL_law 522 = .ok (.iadd, 1) := by decide +kernel
theorem dL_law_523 : decode cL_law 523 = .ok (.iaload, 1) := by decide +kernel
theorem dL_law_524 : decode cL_law 524 = .ok (.aload_n 0, 1) := by decide +kernel
theorem dL_law_525 : decode cL_law 525 = .ok (.iload_n 3, 1) := by decide +kernel
theorem dL_law_526 : decode cL_law 526 = .ok (.iconst 4, 1) := by decide +kernel
theorem dL_law_527 : decode cL_law 527 = .ok (.iadd, 1) := by decide +kernel
theorem dL_law_528 : decode cL_law 528 = .ok (.iaload, 1) := by decide +kernel
theorem dL_law_529 : decode cL_law 529 = .ok (.ifCond .eq 7, 3) := by decide +kernel
theorem dL_law_536 : decode cL_law 536 = .ok (.iconst 0, 1) := by decide +kernel
set_option maxRecDepth 20000 in
theorem ggL_law_X7_learns : GoodIn wsL_law wsX7_learns := goodIn_r _ [277, 15, 156, 216, 179, 180, 181, 2, 182, 155, 101, 102, 103, 252, 253, 254, 278, 279, 280, 41, 281, 56, 162, 282, 283, 284, 285, 286, 287, 288, 289, 161, 163, 290, 291, 292, 293, 294, 295, 296, 675, 676, 677, 678, 679, 691, 692, 693, 694, 695, 696, 697, 717, 718, 719, 720, 721, 722, 723, 724, 725, 726, 727] (by decide +kernel) (by decide +kernel)
set_option maxRecDepth 20000 in
theorem gL_law_X7_learns : GoodIn wsL_law (wsV RL 57 RX7 yX7_learns wsX7_learns) := goodIn_app (goodIn_of _ (by decide +kernel)) ggL_law_X7_learns
theorem dL_law_537 : decode cL_law 537 = .ok (.invokevirtual 57, 3) := by decide +kernel
theorem dL_law_540 : decode cL_law 540 = .ok (.aload_n 2, 1) := by decide +kernel
theorem dL_law_541 : decode cL_law 541 = .ok (.aload_n 0, 1) := by decide +kernel
theorem dL_law_542 : decode cL_law 542 = .ok (.iload_n 3, 1) := by decide +kernel
theorem dL_law_543 : decode cL_law 543 = .ok (.iconst 1, 1) := by decide +kernel
theorem dL_law_544 : decode cL_law 544 = .ok (.iadd, 1) := by decide +kernel
theorem dL_law_545 : decode cL_law 545 = .ok (.iaload, 1) := by decide +kernel
theorem dL_law_546 : decode cL_law 546 = .ok (.aload_n 0, 1) := by decide +kernel
theorem dL_law_547 : decode cL_law 547 = .ok (.iload_n 3, 1) := by decide +kernel
theorem dL_law_548 : decode cL_law 548 = .ok (.iconst 2, 1) := by decide +kernel
theorem dL_law_549 : decode cL_law 549 = .ok (.iadd, 1) := by decide +kernel
theorem dL_law_550 : decode cL_law 550 = .ok (.iaload, 1) := by decide +kernel
theorem dL_law_551 : decode cL_law 551 = .ok (.aload_n 0, 1) := by decide +kernel
theorem dL_law_552 : decode cL_law 552 = .ok (.iload_n 3, 1) := by decide +kernel
theorem dL_law_553 : decode cL_law 553 = .ok (.iconst 3, 1) := by decide +kernel
theorem dL_law_554 : decode cL_law 554 = .ok (.iadd, 1) := by decide +kernel
theorem dL_law_555 : decode cL_law 555 = .ok (.iaload, 1) := by decide +kernel
theorem dL_law_556 : decode cL_law 556 = .ok (.aload_n 0, 1) := by decide +kernel
theorem dL_law_557 : decode cL_law 557 = .ok (.iload_n 3, 1) := by decide +kernel
theorem dL_law_558 : decode cL_law 558 = .ok (.iconst 4, 1) := by decide +kernel
theorem dL_law_559 : decode cL_law 559 = .ok (.iadd, 1) := by decide +kernel
theorem dL_law_560 : decode cL_law 560 = .ok (.iaload, 1) := by decide +kernel
theorem dL_law_561 : decode cL_law 561 = .ok (.ifCond .eq 7, 3) := by decide +kernel
theorem dL_law_568 : decode cL_law 568 = .ok (.iconst 0, 1) := by decide +kernel
set_option maxRecDepth 20000 in
theorem ggL_law_X8_learns : GoodIn wsL_law wsX8_learns := goodIn_r _ [300, 85, 187, 188, 189, 5, 190, 108, 109, 110, 263, 264, 265, 171, 172, 173, 680, 681, 682, 683, 684, 685, 686, 687, 688, 689, 690] (by decide +kernel) (by decide +kernel)
set_option maxRecDepth 20000 in
theorem gL_law_X8_learns : GoodIn wsL_law (wsV RL 61 RX8 yX8_learns wsX8_learns) := goodIn_app (goodIn_of _ (by decide +kernel)) ggL_law_X8_learns
theorem dL_law_569 : decode cL_law 569 = .ok (.invokevirtual 61, 3) := by decide +kernel
theorem dL_law_572 : decode cL_law 572 = .ok (.if_icmp .eq 488, 3) := by decide +kernel
theorem dL_law_532 : decode cL_law 532 = .ok (.iconst 1, 1) := by decide +kernel
theorem dL_law_533 : decode cL_law 533 = .ok (.goto 4, 3) := by decide +kernel
theorem dL_law_564 : decode cL_law 564 = .ok (.iconst 1, 1) := by decide +kernel
theorem dL_law_565 : decode cL_law 565 = .ok (.goto 4, 3) := by decide +kernel
theorem dL_law_577 : decode cL_law 577 = .ok (.aload_n 1, 1) := by decide +kernel
theorem dL_law_578 : decode cL_law 578 = .ok (.aload_n 0, 1) := by decide +kernel
theorem dL_law_579 : decode cL_law 579 = .ok (.iload_n 3, 1) := by decide +kernel
theorem dL_law_580 : decode cL_law 580 = .ok (.iconst 1, 1) := by decide +kernel
theorem dL_law_581 : decode cL_law 581 = .ok (.iadd, 1) := by decide +kernel
theorem dL_law_582 : decode cL_law 582 = .ok (.iaload, 1) := by decide +kernel
theorem dL_law_583 : decode cL_law 583 = .ok (.aload_n 0, 1) := by decide +kernel
theorem dL_law_584 : decode cL_law 584 = .ok (.iload_n 3, 1) := by decide +kernel
theorem dL_law_585 : decode cL_law 585 = .ok (.iconst 2, 1) := by decide +kernel
theorem dL_law_586 : decode cL_law 586 = .ok (.iadd, 1) := by decide +kernel
theorem dL_law_587 : decode cL_law 587 = .ok (.iaload, 1) := by decide +kernel
set_option maxRecDepth 20000 in
theorem ggL_law_X7_maySit : GoodIn wsL_law wsX7_maySit := goodIn_r _ [304, 15, 156, 101, 102, 2, 103, 305, 306, 307, 14, 308, 309, 179, 180, 181, 182, 155, 310, 311, 312, 313, 33, 314, 315, 31, 316, 137, 138, 317, 318, 319, 320, 321, 322, 323, 675, 676, 677, 678, 679, 691, 692, 693, 694, 695, 696, 697, 714, 715, 716, 717, 718, 719, 720, 721, 722, 723, 724, 725, 726, 727, 712, 713] (by decide +kernel) (by decide +kernel)
set_option maxRecDepth 20000 in
theorem gL_law_X7_maySit : GoodIn wsL_law (wsV RL 62 RX7 yX7_maySit wsX7_maySit) := goodIn_app (goodIn_of _ (by decide +kernel)) ggL_law_X7_maySit
theorem dL_law_588 : decode cL_law 588 = .ok (.invokevirtual 62, 3) := by decide +kernel
theorem dL_law_591 : decode cL_law 591 = .ok (.aload_n 2, 1) := by decide +kernel
theorem dL_law_592 : decode cL_law 592 = .ok (.aload_n 0, 1) := by decide +kernel
theorem dL_law_593 : decode cL_law 593 = .ok (.iload_n 3, 1) := by decide +kernel
theorem dL_law_594 : decode cL_law 594 = .ok (.iconst 1, 1) := by decide +kernel
theorem dL_law_595 : decode cL_law 595 = .ok (.iadd, 1) := by decide +kernel
theorem dL_law_596 : decode cL_law 596 = .ok (.iaload, 1) := by decide +kernel
theorem dL_law_597 : decode cL_law 597 = .ok (.aload_n 0, 1) := by decide +kernel
theorem dL_law_598 : decode cL_law 598 = .ok (.iload_n 3, 1) := by decide +kernel
theorem dL_law_599 : decode cL_law 599 = .ok (.iconst 2, 1) := by decide +kernel
theorem dL_law_600 : decode cL_law 600 = .ok (.iadd, 1) := by decide +kernel
theorem dL_law_601 : decode cL_law 601 = .ok (.iaload, 1) := by decide +kernel
set_option maxRecDepth 20000 in
theorem ggL_law_X8_maySit : GoodIn wsL_law wsX8_maySit := goodIn_r _ [327, 328, 329, 330, 5, 331, 108, 109, 110, 332, 333, 334, 143, 144, 145, 146, 85, 187, 188, 189, 190, 335, 336, 337, 338, 339, 340, 341, 171, 172, 173, 342, 343, 344, 345, 680, 681, 682, 683, 684, 685, 686, 687, 688, 689, 690] (by decide +kernel) (by decide +kernel)
set_option maxRecDepth 20000 in
theorem gL_law_X8_maySit : GoodIn wsL_law (wsV RL 65 RX8 yX8_maySit wsX8_maySit) := goodIn_app (goodIn_of _ (by decide +kernel)) ggL_law_X8_maySit
theorem dL_law_602 : decode cL_law 602 = .ok (.invokevirtual 65, 3) := by decide +kernel
theorem dL_law_605 : decode cL_law 605 = .ok (.if_icmp .eq 455, 3) := by decide +kernel
theorem dL_law_610 : decode cL_law 610 = .ok (.aload_n 1, 1) := by decide +kernel
theorem dL_law_611 : decode cL_law 611 = .ok (.aload_n 0, 1) := by decide +kernel
theorem dL_law_612 : decode cL_law 612 = .ok (.iload_n 3, 1) := by decide +kernel
theorem dL_law_613 : decode cL_law 613 = .ok (.iconst 1, 1) := by decide +kernel
theorem dL_law_614 : decode cL_law 614 = .ok (.iadd, 1) := by decide +kernel
theorem dL_law_615 : decode cL_law 615 = .ok (.iaload, 1) := by decide +kernel
set_option maxRecDepth 20000 in
theorem ggL_law_X7_rooms : GoodIn wsL_law wsX7_rooms := goodIn_r _ [349, 25, 101, 102, 2, 103, 675, 676, 677, 678, 679] (by decide +kernel) (by decide +kernel)
set_option maxRecDepth 20000 in
theorem gL_law_X7_rooms : GoodIn wsL_law (wsV RL 66 RX7 yX7_rooms wsX7_rooms) := goodIn_app (goodIn_of _ (by decide +kernel)) ggL_law_X7_rooms
theorem dL_law_616 : decode cL_law 616 = .ok (.invokevirtual 66, 3) := by decide +kernel
theorem dL_law_619 : decode cL_law 619 = .ok (.aload_n 2, 1) := by decide +kernel
theorem dL_law_620 : decode cL_law 620 = .ok (.aload_n 0, 1) := by decide +kernel
theorem dL_law_621 : decode cL_law 621 = .ok (.iload_n 3, 1) := by decide +kernel
theorem dL_law_622 : decode cL_law 622 = .ok (.iconst 1, 1) := by decide +kernel
theorem dL_law_623 : decode cL_law 623 = .ok (.iadd, 1) := by decide +kernel
theorem dL_law_624 : decode cL_law 624 = .ok (.iaload, 1) := by decide +kernel
set_option maxRecDepth 20000 in
theorem ggL_law_X8_rooms : GoodIn wsL_law wsX8_rooms := goodIn_r _ [353, 87, 108, 109, 5, 110, 680, 681, 682, 683, 684, 685, 686, 687, 688, 689, 690] (by decide +kernel) (by decide +kernel)
set_option maxRecDepth 20000 in
theorem gL_law_X8_rooms : GoodIn wsL_law (wsV RL 69 RX8 yX8_rooms wsX8_rooms) := goodIn_app (goodIn_of _ (by decide +kernel)) ggL_law_X8_rooms
theorem dL_law_625 : decode cL_law 625 = .ok (.invokevirtual 69, 3) := by decide +kernel
theorem dL_law_628 : decode cL_law 628 = .ok (.if_icmp .eq 432, 3) := by decide +kernel
set_option maxHeartbeats 4000000 in
set_option maxRecDepth 100000 in
/-- behind the first call: the next look at the script's length ends the law -/
theorem law_end {p : Program} {l : Launch} {e : Env} {s : State} {m : MethodId} {below : List Frame} {meth : Method} {c : Code} {b : Nat} {xs : Nat → Int32} {H : Heap} {locs : List Loc} {cells slots : Nat} (C0 : lw_At p s m meth c b 7 xs) (hc : cells ≤ 600000) (hs : slots ≤ 7302250) (hS : va_S (fun q : Nat => s.heap.size ≤ q) s.heap H locs) (ls : Array Slot) (hl : lv_has ls 4 [(3, .int 0), (0, .ref b)]) : W p l e room_1 s m #[Value.ref b] below meth c H locs cells slots (lw_Z below #[Value.ref b] s) (F0 m 1060 ls []) := by
  obtain ⟨hx, hb, hr, hml, hown, hts, hX, hbl, hlocks, hgv⟩ := C0
  have hbA : ¬ (fun q : Nat => s.heap.size ≤ q) b := Nat.not_le.mpr hbl
  refine lv_iinc (v := 7) (lv' := [(3, .int 7), (0, .ref b)]) hx hb dL_law_1060 hl (k := 0) rfl (by decide) (by decide) rfl (fun ls hl => ?_)
  refine lv_goto (tgt := 18) hx hb dL_law_1063 (by decide) ?_
  refine lv_iload_n hx hb dL_law_18 rfl (lv_at hl 0 rfl) ?_
  refine lv_aload_n hx hb dL_law_19 rfl (lv_at hl 1 rfl) ?_
  refine va_slen hx hb hX hbl hbA hS dL_law_20 ?_
  refine lv_bipush (v := 7) hx hb dL_law_21 (by decide) ?_
  refine lv_isub hx hb dL_law_23 ?_
  refine lv_topi (fun x9 ex9 => ?_)
  obtain rfl : x9 = 0 := ex9.trans (by decide)
  refine lv_icmp_gt (tgt := 1066) hx hb dL_law_24 (by decide) (fun _ => ?_) (fun c9 => absurd c9 (by decide))
  refine lv_iconst (v := 1) hx hb dL_law_1066 (by decide) ?_
  refine va_forget (fun q hq => hS.2.2 q hq) ?_
  refine W.widen (k := 600000) (n := 7302250) hc hs ?_
  exact lw_ret hx hb hr hlocks dL_law_1067

set_option maxHeartbeats 4000000 in
set_option maxRecDepth 100000 in
/-- the case of party -/
theorem lc_0 {p : Program} {l : Launch} {e : Env} {s : State} {m : MethodId} {below : List Frame} {meth : Method} {c : Code} {dC : Nat → ClassId} {dI : Nat → Nat → Nat} {cy : Nat → ClassId} {b : Nat} {xs : Nat → Int32} (C0 : lw_At p s m meth c b 7 xs) (h0 h1 h2 h3 h4 h5 h6 p9 m9 q1 q2 q3 q4 q5 q6 q7 q8 g0 g1 g2 g3 g4 g5 g6 g7 t0 : Nat) (f g : Nat → Option Nat) (hf : f 0 = some p9) (hg : g 0 = some m9) (hSt : ex_St t0 (fun q : Nat => s.heap.size ≤ q) s) (hE : ex_K s) (hK : va_K (dC, dI) vwCl (ty_L cy) s) {H : Heap} {locs : List Loc} (hP : va_P (dC, dI) vwCl [(h0, .inr (7, [.ref h1, .ref h2, .ref h3, .null, .int 1])), (h1, .inr (1, [.int 0, .int 0, .int 0, .int 0, .ref h4, .ref h5, .ref h6])), (h4, .inl (cy 1, 8, .inr (.inr (.inr (.inr f))))), (p9, .inr (3, [.int 0, .int 0])), (h5, .inl (cy 2, 4, .inr (.inr (.inr (.inr g))))), (m9, .inr (2, [.int 0, .int 0, .int 0])), (h2, .inr (4, [.int 0, .int 0, .int 0, .ref q1, .ref q2, .ref q3, .ref q4, .ref q5, .ref q6, .ref q7, .ref q8])), (q1, .inl (cy 0, 4, .inl (fun _ => 0))), (q2, .inl (cy 0, 4, .inl (fun _ => 0))), (q3, .inl (cy 0, 4, .inl (fun _ => 0))), (q4, .inl (cy 0, 4, .inl (fun _ => 0))), (q5, .inl (cy 0, 4, .inl (fun _ => 0))), (q6, .inl (cy 0, 4, .inl (fun _ => 0))), (q7, .inl (cy 0, 3, .inl (fun _ => 0))), (q8, .inl (cy 0, 3, .inl (fun _ => 0))), (g0, .inr (8, [.ref g1, .ref g2, .int 0, .int 1, .ref g3, .int 0, .ref g4, .ref g5, .ref g6, .int 0, .ref g7])), (g1, .inl (cy 0, 596, .inl (fun _ => 0))), (g2, .inl (cy 0, 596, .inl (fun _ => 0))), (g3, .inl (cy 0, 6, .inl (fun _ => 0))), (g4, .inl (cy 0, 4, .inl (fun _ => 0))), (g5, .inl (cy 0, 5, .inl (fun _ => 0))), (g6, .inl (cy 0, 4, .inl (fun _ => 0))), (g7, .inl (cy 0, 6, .inl (fun _ => 0)))] H) (hD : va_D (fun q : Nat => s.heap.size ≤ q) [(h0, .inr (7, [.ref h1, .ref h2, .ref h3, .null, .int 1])), (h1, .inr (1, [.int 0, .int 0, .int 0, .int 0, .ref h4, .ref h5, .ref h6])), (h4, .inl (cy 1, 8, .inr (.inr (.inr (.inr f))))), (p9, .inr (3, [.int 0, .int 0])), (h5, .inl (cy 2, 4, .inr (.inr (.inr (.inr g))))), (m9, .inr (2, [.int 0, .int 0, .int 0])), (h2, .inr (4, [.int 0, .int 0, .int 0, .ref q1, .ref q2, .ref q3, .ref q4, .ref q5, .ref q6, .ref q7, .ref q8])), (q1, .inl (cy 0, 4, .inl (fun _ => 0))), (q2, .inl (cy 0, 4, .inl (fun _ => 0))), (q3, .inl (cy 0, 4, .inl (fun _ => 0))), (q4, .inl (cy 0, 4, .inl (fun _ => 0))), (q5, .inl (cy 0, 4, .inl (fun _ => 0))), (q6, .inl (cy 0, 4, .inl (fun _ => 0))), (q7, .inl (cy 0, 3, .inl (fun _ => 0))), (q8, .inl (cy 0, 3, .inl (fun _ => 0))), (g0, .inr (8, [.ref g1, .ref g2, .int 0, .int 1, .ref g3, .int 0, .ref g4, .ref g5, .ref g6, .int 0, .ref g7])), (g1, .inl (cy 0, 596, .inl (fun _ => 0))), (g2, .inl (cy 0, 596, .inl (fun _ => 0))), (g3, .inl (cy 0, 6, .inl (fun _ => 0))), (g4, .inl (cy 0, 4, .inl (fun _ => 0))), (g5, .inl (cy 0, 5, .inl (fun _ => 0))), (g6, .inl (cy 0, 4, .inl (fun _ => 0))), (g7, .inl (cy 0, 6, .inl (fun _ => 0)))]) (hS : va_S (fun q : Nat => s.heap.size ≤ q) s.heap H locs) (ls : Array Slot) (hl : lv_has ls 4 [(3, .int 0), (2, .ref g0), (1, .ref h0), (0, .ref b)]) : W p l e room_1 s m #[Value.ref b] below meth c H locs 127 1982 (lw_Z below #[Value.ref b] s) (F0 m 152 ls []) := by
  obtain ⟨hx, hb, hr, hml, hown, hts0, hX, hbl, hlocks, hgv⟩ := id C0
  have hts : ∀ w ∈ wsL_law, w.before #[Value.ref b] s = true := fun w h => hts0 w (wsL_law_in w h)
  have hown : s.vm.findClass RL = some m.cls := hown
  have hA : ∀ q : Nat, s.heap.size ≤ q → (fun q : Nat => s.heap.size ≤ q) q := fun _ h => h
  have hbA : ¬ (fun q : Nat => s.heap.size ≤ q) b := Nat.not_le.mpr hbl
  refine lv_aload_n hx hb dL_law_152 rfl (lv_at hl 2 rfl) ?_
  refine lv_aload_n hx hb dL_law_153 rfl (lv_at hl 3 rfl) ?_
  refine lv_iload_n hx hb dL_law_154 rfl (lv_at hl 0 rfl) ?_
  refine lv_iconst (v := 1) hx hb dL_law_155 (by decide) ?_
  refine lv_iadd hx hb dL_law_156 ?_
  refine lv_topi (fun x_1 ex_1 => ?_)
  obtain rfl : x_1 = 1 := ex_1.trans (by decide)
  refine va_sld hx hb hX hbl hbA hS (by unfold vp_in; decide) dL_law_157 ?_
  refine lv_topi (fun x_2 ex_2 => ?_)
  refine lv_aload_n hx hb dL_law_158 rfl (lv_at hl 3 rfl) ?_
  refine lv_iload_n hx hb dL_law_159 rfl (lv_at hl 0 rfl) ?_
  refine lv_iconst (v := 2) hx hb dL_law_160 (by decide) ?_
  refine lv_iadd hx hb dL_law_161 ?_
  refine lv_topi (fun x_3 ex_3 => ?_)
  obtain rfl : x_3 = 2 := ex_3.trans (by decide)
  refine va_sld hx hb hX hbl hbA hS (by unfold vp_in; decide) dL_law_162 ?_
  refine lv_topi (fun x_4 ex_4 => ?_)
  refine yc_i (wc := [(h0, .inr (7, [.ref h1, .ref h2, .ref h3, .null, .int 1])), (h1, .inr (1, [.int 0, .int 0, .int 0, .int 0, .ref h4, .ref h5, .ref h6])), (h4, .inl (cy 1, 8, .inr (.inr (.inr (.inr f))))), (p9, .inr (3, [.int 0, .int 0]))]) (wr := [(h5, .inl (cy 2, 4, .inr (.inr (.inr (.inr g))))), (m9, .inr (2, [.int 0, .int 0, .int 0])), (h2, .inr (4, [.int 0, .int 0, .int 0, .ref q1, .ref q2, .ref q3, .ref q4, .ref q5, .ref q6, .ref q7, .ref q8])), (q1, .inl (cy 0, 4, .inl (fun _ => 0))), (q2, .inl (cy 0, 4, .inl (fun _ => 0))), (q3, .inl (cy 0, 4, .inl (fun _ => 0))), (q4, .inl (cy 0, 4, .inl (fun _ => 0))), (q5, .inl (cy 0, 4, .inl (fun _ => 0))), (q6, .inl (cy 0, 4, .inl (fun _ => 0))), (q7, .inl (cy 0, 3, .inl (fun _ => 0))), (q8, .inl (cy 0, 3, .inl (fun _ => 0))), (g0, .inr (8, [.ref g1, .ref g2, .int 0, .int 1, .ref g3, .int 0, .ref g4, .ref g5, .ref g6, .int 0, .ref g7])), (g1, .inl (cy 0, 596, .inl (fun _ => 0))), (g2, .inl (cy 0, 596, .inl (fun _ => 0))), (g3, .inl (cy 0, 6, .inl (fun _ => 0))), (g4, .inl (cy 0, 4, .inl (fun _ => 0))), (g5, .inl (cy 0, 5, .inl (fun _ => 0))), (g6, .inl (cy 0, 4, .inl (fun _ => 0))), (g7, .inl (cy 0, 6, .inl (fun _ => 0)))]) (w1 := fun _ => []) hP hD hS hA [0, 1, 2, 3] [4, 5, 6, 7, 8, 9, 10, 11, 12, 13, 14, 15, 16, 17, 18, 19, 20, 21, 22] rfl rfl (by decide) (by decide) (va_runV (As := [.int x_2, .int x_4]) (rest := []) ⟨hx, hb, hml, hown, hts⟩ (c0_X7_party l dC dI cy _ h0 h1 h2 h3 h4 h5 h6 p9 f hf x_2 x_4) (cwV 2 hts gL_law_X7_party rfl rfl rfl (by decide +kernel) ⟨Nat.le_of_ble_eq_true rfl, Nat.le_of_ble_eq_true rfl⟩) (ex_preV hE hK hP hD [0, 1, 2, 3] (by decide) rfl (ci := 7) (q0 := 0) rfl rfl) rfl rfl hl.1 rfl (lv_room (Nat.le_of_ble_eq_true rfl)) dL_law_163 ⟨Nat.le_of_ble_eq_true rfl, Nat.le_of_ble_eq_true rfl⟩) (fun r_5 u_5 H locs hw_5 hP hD hS => ?_)
  have hP : va_P (dC, dI) vwCl [(h5, .inl (cy 2, 4, .inr (.inr (.inr (.inr g))))), (m9, .inr (2, [.int 0, .int 0, .int 0])), (h2, .inr (4, [.int 0, .int 0, .int 0, .ref q1, .ref q2, .ref q3, .ref q4, .ref q5, .ref q6, .ref q7, .ref q8])), (q1, .inl (cy 0, 4, .inl (fun _ => 0))), (q2, .inl (cy 0, 4, .inl (fun _ => 0))), (q3, .inl (cy 0, 4, .inl (fun _ => 0))), (q4, .inl (cy 0, 4, .inl (fun _ => 0))), (q5, .inl (cy 0, 4, .inl (fun _ => 0))), (q6, .inl (cy 0, 4, .inl (fun _ => 0))), (q7, .inl (cy 0, 3, .inl (fun _ => 0))), (q8, .inl (cy 0, 3, .inl (fun _ => 0))), (g0, .inr (8, [.ref g1, .ref g2, .int 0, .int 1, .ref g3, .int 0, .ref g4, .ref g5, .ref g6, .int 0, .ref g7])), (g1, .inl (cy 0, 596, .inl (fun _ => 0))), (g2, .inl (cy 0, 596, .inl (fun _ => 0))), (g3, .inl (cy 0, 6, .inl (fun _ => 0))), (g4, .inl (cy 0, 4, .inl (fun _ => 0))), (g5, .inl (cy 0, 5, .inl (fun _ => 0))), (g6, .inl (cy 0, 4, .inl (fun _ => 0))), (g7, .inl (cy 0, 6, .inl (fun _ => 0)))] H := hP
  have hD : va_D (fun q : Nat => s.heap.size ≤ q) [(h5, .inl (cy 2, 4, .inr (.inr (.inr (.inr g))))), (m9, .inr (2, [.int 0, .int 0, .int 0])), (h2, .inr (4, [.int 0, .int 0, .int 0, .ref q1, .ref q2, .ref q3, .ref q4, .ref q5, .ref q6, .ref q7, .ref q8])), (q1, .inl (cy 0, 4, .inl (fun _ => 0))), (q2, .inl (cy 0, 4, .inl (fun _ => 0))), (q3, .inl (cy 0, 4, .inl (fun _ => 0))), (q4, .inl (cy 0, 4, .inl (fun _ => 0))), (q5, .inl (cy 0, 4, .inl (fun _ => 0))), (q6, .inl (cy 0, 4, .inl (fun _ => 0))), (q7, .inl (cy 0, 3, .inl (fun _ => 0))), (q8, .inl (cy 0, 3, .inl (fun _ => 0))), (g0, .inr (8, [.ref g1, .ref g2, .int 0, .int 1, .ref g3, .int 0, .ref g4, .ref g5, .ref g6, .int 0, .ref g7])), (g1, .inl (cy 0, 596, .inl (fun _ => 0))), (g2, .inl (cy 0, 596, .inl (fun _ => 0))), (g3, .inl (cy 0, 6, .inl (fun _ => 0))), (g4, .inl (cy 0, 4, .inl (fun _ => 0))), (g5, .inl (cy 0, 5, .inl (fun _ => 0))), (g6, .inl (cy 0, 4, .inl (fun _ => 0))), (g7, .inl (cy 0, 6, .inl (fun _ => 0)))] := hD
  refine lv_aload_n hx hb dL_law_166 rfl (lv_at hl 1 rfl) ?_
  refine lv_aload_n hx hb dL_law_167 rfl (lv_at hl 3 rfl) ?_
  refine lv_iload_n hx hb dL_law_168 rfl (lv_at hl 0 rfl) ?_
  refine lv_iconst (v := 1) hx hb dL_law_169 (by decide) ?_
  refine lv_iadd hx hb dL_law_170 ?_
  refine lv_topi (fun x_6 ex_6 => ?_)
  obtain rfl : x_6 = 1 := ex_6.trans (by decide)
  refine va_sld hx hb hX hbl hbA hS (by unfold vp_in; decide) dL_law_171 ?_
  refine lv_topi (fun x_7 ex_7 => ?_)
  rw [← ex_2] at ex_7; replace ex_7 := ex_7.symm; subst ex_7
  refine lv_aload_n hx hb dL_law_172 rfl (lv_at hl 3 rfl) ?_
  refine lv_iload_n hx hb dL_law_173 rfl (lv_at hl 0 rfl) ?_
  refine lv_iconst (v := 2) hx hb dL_law_174 (by decide) ?_
  refine lv_iadd hx hb dL_law_175 ?_
  refine lv_topi (fun x_8 ex_8 => ?_)
  obtain rfl : x_8 = 2 := ex_8.trans (by decide)
  refine va_sld hx hb hX hbl hbA hS (by unfold vp_in; decide) dL_law_176 ?_
  refine lv_topi (fun x_9 ex_9 => ?_)
  rw [← ex_4] at ex_9; replace ex_9 := ex_9.symm; subst ex_9
  refine yc_i (wc := [(g0, .inr (8, [.ref g1, .ref g2, .int 0, .int 1, .ref g3, .int 0, .ref g4, .ref g5, .ref g6, .int 0, .ref g7])), (g1, .inl (cy 0, 596, .inl (fun _ => 0)))]) (wr := [(h5, .inl (cy 2, 4, .inr (.inr (.inr (.inr g))))), (m9, .inr (2, [.int 0, .int 0, .int 0])), (h2, .inr (4, [.int 0, .int 0, .int 0, .ref q1, .ref q2, .ref q3, .ref q4, .ref q5, .ref q6, .ref q7, .ref q8])), (q1, .inl (cy 0, 4, .inl (fun _ => 0))), (q2, .inl (cy 0, 4, .inl (fun _ => 0))), (q3, .inl (cy 0, 4, .inl (fun _ => 0))), (q4, .inl (cy 0, 4, .inl (fun _ => 0))), (q5, .inl (cy 0, 4, .inl (fun _ => 0))), (q6, .inl (cy 0, 4, .inl (fun _ => 0))), (q7, .inl (cy 0, 3, .inl (fun _ => 0))), (q8, .inl (cy 0, 3, .inl (fun _ => 0))), (g2, .inl (cy 0, 596, .inl (fun _ => 0))), (g3, .inl (cy 0, 6, .inl (fun _ => 0))), (g4, .inl (cy 0, 4, .inl (fun _ => 0))), (g5, .inl (cy 0, 5, .inl (fun _ => 0))), (g6, .inl (cy 0, 4, .inl (fun _ => 0))), (g7, .inl (cy 0, 6, .inl (fun _ => 0)))]) (w1 := fun _ => []) hP hD hS hA [11, 12] [0, 1, 2, 3, 4, 5, 6, 7, 8, 9, 10, 13, 14, 15, 16, 17, 18] rfl rfl (by decide) (by decide) (va_runV (As := [.int x_2, .int x_4]) (rest := [.int r_5]) ⟨hx, hb, hml, hown, hts⟩ (c0_X8_party l dC dI cy _ g0 g1 g2 g3 g4 g5 g6 g7 x_2 x_4) (cwV 2 hts gL_law_X8_party rfl rfl rfl (by decide +kernel) ⟨Nat.le_of_ble_eq_true rfl, Nat.le_of_ble_eq_true rfl⟩) (ex_preV hE hK hP hD [11, 12] (by decide) rfl (ci := 8) (q0 := 11) rfl rfl) rfl rfl hl.1 rfl (lv_room (Nat.le_of_ble_eq_true rfl)) dL_law_177 ⟨Nat.le_of_ble_eq_true rfl, Nat.le_of_ble_eq_true rfl⟩) (fun r_10 u_10 H locs hw_10 hP hD hS => ?_)
  have hP : va_P (dC, dI) vwCl [(h5, .inl (cy 2, 4, .inr (.inr (.inr (.inr g))))), (m9, .inr (2, [.int 0, .int 0, .int 0])), (h2, .inr (4, [.int 0, .int 0, .int 0, .ref q1, .ref q2, .ref q3, .ref q4, .ref q5, .ref q6, .ref q7, .ref q8])), (q1, .inl (cy 0, 4, .inl (fun _ => 0))), (q2, .inl (cy 0, 4, .inl (fun _ => 0))), (q3, .inl (cy 0, 4, .inl (fun _ => 0))), (q4, .inl (cy 0, 4, .inl (fun _ => 0))), (q5, .inl (cy 0, 4, .inl (fun _ => 0))), (q6, .inl (cy 0, 4, .inl (fun _ => 0))), (q7, .inl (cy 0, 3, .inl (fun _ => 0))), (q8, .inl (cy 0, 3, .inl (fun _ => 0))), (g2, .inl (cy 0, 596, .inl (fun _ => 0))), (g3, .inl (cy 0, 6, .inl (fun _ => 0))), (g4, .inl (cy 0, 4, .inl (fun _ => 0))), (g5, .inl (cy 0, 5, .inl (fun _ => 0))), (g6, .inl (cy 0, 4, .inl (fun _ => 0))), (g7, .inl (cy 0, 6, .inl (fun _ => 0)))] H := hP
  have hD : va_D (fun q : Nat => s.heap.size ≤ q) [(h5, .inl (cy 2, 4, .inr (.inr (.inr (.inr g))))), (m9, .inr (2, [.int 0, .int 0, .int 0])), (h2, .inr (4, [.int 0, .int 0, .int 0, .ref q1, .ref q2, .ref q3, .ref q4, .ref q5, .ref q6, .ref q7, .ref q8])), (q1, .inl (cy 0, 4, .inl (fun _ => 0))), (q2, .inl (cy 0, 4, .inl (fun _ => 0))), (q3, .inl (cy 0, 4, .inl (fun _ => 0))), (q4, .inl (cy 0, 4, .inl (fun _ => 0))), (q5, .inl (cy 0, 4, .inl (fun _ => 0))), (q6, .inl (cy 0, 4, .inl (fun _ => 0))), (q7, .inl (cy 0, 3, .inl (fun _ => 0))), (q8, .inl (cy 0, 3, .inl (fun _ => 0))), (g2, .inl (cy 0, 596, .inl (fun _ => 0))), (g3, .inl (cy 0, 6, .inl (fun _ => 0))), (g4, .inl (cy 0, 4, .inl (fun _ => 0))), (g5, .inl (cy 0, 5, .inl (fun _ => 0))), (g6, .inl (cy 0, 4, .inl (fun _ => 0))), (g7, .inl (cy 0, 6, .inl (fun _ => 0)))] := hD
  refine lv_icmp_eq (tgt := 1060) hx hb dL_law_180 (by decide) (fun _ => ?_) (fun c9 => absurd (hw_5.trans hw_10.symm) c9)
  exact law_end C0 (Nat.le_of_ble_eq_true rfl) (Nat.le_of_ble_eq_true rfl) hS ls (lv_sub hl [0, 3] rfl)

set_option maxHeartbeats 4000000 in
set_option maxRecDepth 100000 in
/-- the case of mediator -/
theorem lc_1 {p : Program} {l : Launch} {e : Env} {s : State} {m : MethodId} {below : List Frame} {meth : Method} {c : Code} {dC : Nat → ClassId} {dI : Nat → Nat → Nat} {cy : Nat → ClassId} {b : Nat} {xs : Nat → Int32} (C0 : lw_At p s m meth c b 7 xs) (h0 h1 h2 h3 h4 h5 h6 p9 m9 q1 q2 q3 q4 q5 q6 q7 q8 g0 g1 g2 g3 g4 g5 g6 g7 t0 : Nat) (f g : Nat → Option Nat) (hf : f 0 = some p9) (hg : g 0 = some m9) (hSt : ex_St t0 (fun q : Nat => s.heap.size ≤ q) s) (hE : ex_K s) (hK : va_K (dC, dI) vwCl (ty_L cy) s) {H : Heap} {locs : List Loc} (hP : va_P (dC, dI) vwCl [(h0, .inr (7, [.ref h1, .ref h2, .ref h3, .null, .int 1])), (h1, .inr (1, [.int 0, .int 0, .int 0, .int 0, .ref h4, .ref h5, .ref h6])), (h4, .inl (cy 1, 8, .inr (.inr (.inr (.inr f))))), (p9, .inr (3, [.int 0, .int 0])), (h5, .inl (cy 2, 4, .inr (.inr (.inr (.inr g))))), (m9, .inr (2, [.int 0, .int 0, .int 0])), (h2, .inr (4, [.int 0, .int 0, .int 0, .ref q1, .ref q2, .ref q3, .ref q4, .ref q5, .ref q6, .ref q7, .ref q8])), (q1, .inl (cy 0, 4, .inl (fun _ => 0))), (q2, .inl (cy 0, 4, .inl (fun _ => 0))), (q3, .inl (cy 0, 4, .inl (fun _ => 0))), (q4, .inl (cy 0, 4, .inl (fun _ => 0))), (q5, .inl (cy 0, 4, .inl (fun _ => 0))), (q6, .inl (cy 0, 4, .inl (fun _ => 0))), (q7, .inl (cy 0, 3, .inl (fun _ => 0))), (q8, .inl (cy 0, 3, .inl (fun _ => 0))), (g0, .inr (8, [.ref g1, .ref g2, .int 0, .int 1, .ref g3, .int 0, .ref g4, .ref g5, .ref g6, .int 0, .ref g7])), (g1, .inl (cy 0, 596, .inl (fun _ => 0))), (g2, .inl (cy 0, 596, .inl (fun _ => 0))), (g3, .inl (cy 0, 6, .inl (fun _ => 0))), (g4, .inl (cy 0, 4, .inl (fun _ => 0))), (g5, .inl (cy 0, 5, .inl (fun _ => 0))), (g6, .inl (cy 0, 4, .inl (fun _ => 0))), (g7, .inl (cy 0, 6, .inl (fun _ => 0)))] H) (hD : va_D (fun q : Nat => s.heap.size ≤ q) [(h0, .inr (7, [.ref h1, .ref h2, .ref h3, .null, .int 1])), (h1, .inr (1, [.int 0, .int 0, .int 0, .int 0, .ref h4, .ref h5, .ref h6])), (h4, .inl (cy 1, 8, .inr (.inr (.inr (.inr f))))), (p9, .inr (3, [.int 0, .int 0])), (h5, .inl (cy 2, 4, .inr (.inr (.inr (.inr g))))), (m9, .inr (2, [.int 0, .int 0, .int 0])), (h2, .inr (4, [.int 0, .int 0, .int 0, .ref q1, .ref q2, .ref q3, .ref q4, .ref q5, .ref q6, .ref q7, .ref q8])), (q1, .inl (cy 0, 4, .inl (fun _ => 0))), (q2, .inl (cy 0, 4, .inl (fun _ => 0))), (q3, .inl (cy 0, 4, .inl (fun _ => 0))), (q4, .inl (cy 0, 4, .inl (fun _ => 0))), (q5, .inl (cy 0, 4, .inl (fun _ => 0))), (q6, .inl (cy 0, 4, .inl (fun _ => 0))), (q7, .inl (cy 0, 3, .inl (fun _ => 0))), (q8, .inl (cy 0, 3, .inl (fun _ => 0))), (g0, .inr (8, [.ref g1, .ref g2, .int 0, .int 1, .ref g3, .int 0, .ref g4, .ref g5, .ref g6, .int 0, .ref g7])), (g1, .inl (cy 0, 596, .inl (fun _ => 0))), (g2, .inl (cy 0, 596, .inl (fun _ => 0))), (g3, .inl (cy 0, 6, .inl (fun _ => 0))), (g4, .inl (cy 0, 4, .inl (fun _ => 0))), (g5, .inl (cy 0, 5, .inl (fun _ => 0))), (g6, .inl (cy 0, 4, .inl (fun _ => 0))), (g7, .inl (cy 0, 6, .inl (fun _ => 0)))]) (hS : va_S (fun q : Nat => s.heap.size ≤ q) s.heap H locs) (ls : Array Slot) (hl : lv_has ls 4 [(3, .int 0), (2, .ref g0), (1, .ref h0), (0, .ref b)]) : W p l e room_1 s m #[Value.ref b] below meth c H locs 127 1982 (lw_Z below #[Value.ref b] s) (F0 m 185 ls []) := by
  obtain ⟨hx, hb, hr, hml, hown, hts0, hX, hbl, hlocks, hgv⟩ := id C0
  have hts : ∀ w ∈ wsL_law, w.before #[Value.ref b] s = true := fun w h => hts0 w (wsL_law_in w h)
  have hown : s.vm.findClass RL = some m.cls := hown
  have hA : ∀ q : Nat, s.heap.size ≤ q → (fun q : Nat => s.heap.size ≤ q) q := fun _ h => h
  have hbA : ¬ (fun q : Nat => s.heap.size ≤ q) b := Nat.not_le.mpr hbl
  refine lv_aload_n hx hb dL_law_185 rfl (lv_at hl 2 rfl) ?_
  refine lv_aload_n hx hb dL_law_186 rfl (lv_at hl 3 rfl) ?_
  refine lv_iload_n hx hb dL_law_187 rfl (lv_at hl 0 rfl) ?_
  refine lv_iconst (v := 1) hx hb dL_law_188 (by decide) ?_
  refine lv_iadd hx hb dL_law_189 ?_
  refine lv_topi (fun x_1 ex_1 => ?_)
  obtain rfl : x_1 = 1 := ex_1.trans (by decide)
  refine va_sld hx hb hX hbl hbA hS (by unfold vp_in; decide) dL_law_190 ?_
  refine lv_topi (fun x_2 ex_2 => ?_)
  refine lv_aload_n hx hb dL_law_191 rfl (lv_at hl 3 rfl) ?_
  refine lv_iload_n hx hb dL_law_192 rfl (lv_at hl 0 rfl) ?_
  refine lv_iconst (v := 2) hx hb dL_law_193 (by decide) ?_
  refine lv_iadd hx hb dL_law_194 ?_
  refine lv_topi (fun x_3 ex_3 => ?_)
  obtain rfl : x_3 = 2 := ex_3.trans (by decide)
  refine va_sld hx hb hX hbl hbA hS (by unfold vp_in; decide) dL_law_195 ?_
  refine lv_topi (fun x_4 ex_4 => ?_)
  refine yc_i (wc := [(h0, .inr (7, [.ref h1, .ref h2, .ref h3, .null, .int 1])), (h1, .inr (1, [.int 0, .int 0, .int 0, .int 0, .ref h4, .ref h5, .ref h6])), (h5, .inl (cy 2, 4, .inr (.inr (.inr (.inr g))))), (m9, .inr (2, [.int 0, .int 0, .int 0]))]) (wr := [(h4, .inl (cy 1, 8, .inr (.inr (.inr (.inr f))))), (p9, .inr (3, [.int 0, .int 0])), (h2, .inr (4, [.int 0, .int 0, .int 0, .ref q1, .ref q2, .ref q3, .ref q4, .ref q5, .ref q6, .ref q7, .ref q8])), (q1, .inl (cy 0, 4, .inl (fun _ => 0))), (q2, .inl (cy 0, 4, .inl (fun _ => 0))), (q3, .inl (cy 0, 4, .inl (fun _ => 0))), (q4, .inl (cy 0, 4, .inl (fun _ => 0))), (q5, .inl (cy 0, 4, .inl (fun _ => 0))), (q6, .inl (cy 0, 4, .inl (fun _ => 0))), (q7, .inl (cy 0, 3, .inl (fun _ => 0))), (q8, .inl (cy 0, 3, .inl (fun _ => 0))), (g0, .inr (8, [.ref g1, .ref g2, .int 0, .int 1, .ref g3, .int 0, .ref g4, .ref g5, .ref g6, .int 0, .ref g7])), (g1, .inl (cy 0, 596, .inl (fun _ => 0))), (g2, .inl (cy 0, 596, .inl (fun _ => 0))), (g3, .inl (cy 0, 6, .inl (fun _ => 0))), (g4, .inl (cy 0, 4, .inl (fun _ => 0))), (g5, .inl (cy 0, 5, .inl (fun _ => 0))), (g6, .inl (cy 0, 4, .inl (fun _ => 0))), (g7, .inl (cy 0, 6, .inl (fun _ => 0)))]) (w1 := fun _ => []) hP hD hS hA [0, 1, 4, 5] [2, 3, 6, 7, 8, 9, 10, 11, 12, 13, 14, 15, 16, 17, 18, 19, 20, 21, 22] rfl rfl (by decide) (by decide) (va_runV (As := [.int x_2, .int x_4]) (rest := []) ⟨hx, hb, hml, hown, hts⟩ (c0_X7_mediator l dC dI cy _ h0 h1 h2 h3 h4 h5 h6 m9 g hg x_2 x_4) (cwV 2 hts gL_law_X7_mediator rfl rfl rfl (by decide +kernel) ⟨Nat.le_of_ble_eq_true rfl, Nat.le_of_ble_eq_true rfl⟩) (ex_preV hE hK hP hD [0, 1, 4, 5] (by decide) rfl (ci := 7) (q0 := 0) rfl rfl) rfl rfl hl.1 rfl (lv_room (Nat.le_of_ble_eq_true rfl)) dL_law_196 ⟨Nat.le_of_ble_eq_true rfl, Nat.le_of_ble_eq_true rfl⟩) (fun r_5 u_5 H locs hw_5 hP hD hS => ?_)
  have hP : va_P (dC, dI) vwCl [(h4, .inl (cy 1, 8, .inr (.inr (.inr (.inr f))))), (p9, .inr (3, [.int 0, .int 0])), (h2, .inr (4, [.int 0, .int 0, .int 0, .ref q1, .ref q2, .ref q3, .ref q4, .ref q5, .ref q6, .ref q7, .ref q8])), (q1, .inl (cy 0, 4, .inl (fun _ => 0))), (q2, .inl (cy 0, 4, .inl (fun _ => 0))), (q3, .inl (cy 0, 4, .inl (fun _ => 0))), (q4, .inl (cy 0, 4, .inl (fun _ => 0))), (q5, .inl (cy 0, 4, .inl (fun _ => 0))), (q6, .inl (cy 0, 4, .inl (fun _ => 0))), (q7, .inl (cy 0, 3, .inl (fun _ => 0))), (q8, .inl (cy 0, 3, .inl (fun _ => 0))), (g0, .inr (8, [.ref g1, .ref g2, .int 0, .int 1, .ref g3, .int 0, .ref g4, .ref g5, .ref g6, .int 0, .ref g7])), (g1, .inl (cy 0, 596, .inl (fun _ => 0))), (g2, .inl (cy 0, 596, .inl (fun _ => 0))), (g3, .inl (cy 0, 6, .inl (fun _ => 0))), (g4, .inl (cy 0, 4, .inl (fun _ => 0))), (g5, .inl (cy 0, 5, .inl (fun _ => 0))), (g6, .inl (cy 0, 4, .inl (fun _ => 0))), (g7, .inl (cy 0, 6, .inl (fun _ => 0)))] H := hP
  have hD : va_D (fun q : Nat => s.heap.size ≤ q) [(h4, .inl (cy 1, 8, .inr (.inr (.inr (.inr f))))), (p9, .inr (3, [.int 0, .int 0])), (h2, .inr (4, [.int 0, .int 0, .int 0, .ref q1, .ref q2, .ref q3, .ref q4, .ref q5, .ref q6, .ref q7, .ref q8])), (q1, .inl (cy 0, 4, .inl (fun _ => 0))), (q2, .inl (cy 0, 4, .inl (fun _ => 0))), (q3, .inl (cy 0, 4, .inl (fun _ => 0))), (q4, .inl (cy 0, 4, .inl (fun _ => 0))), (q5, .inl (cy 0, 4, .inl (fun _ => 0))), (q6, .inl (cy 0, 4, .inl (fun _ => 0))), (q7, .inl (cy 0, 3, .inl (fun _ => 0))), (q8, .inl (cy 0, 3, .inl (fun _ => 0))), (g0, .inr (8, [.ref g1, .ref g2, .int 0, .int 1, .ref g3, .int 0, .ref g4, .ref g5, .ref g6, .int 0, .ref g7])), (g1, .inl (cy 0, 596, .inl (fun _ => 0))), (g2, .inl (cy 0, 596, .inl (fun _ => 0))), (g3, .inl (cy 0, 6, .inl (fun _ => 0))), (g4, .inl (cy 0, 4, .inl (fun _ => 0))), (g5, .inl (cy 0, 5, .inl (fun _ => 0))), (g6, .inl (cy 0, 4, .inl (fun _ => 0))), (g7, .inl (cy 0, 6, .inl (fun _ => 0)))] := hD
  refine lv_aload_n hx hb dL_law_199 rfl (lv_at hl 1 rfl) ?_
  refine lv_aload_n hx hb dL_law_200 rfl (lv_at hl 3 rfl) ?_
  refine lv_iload_n hx hb dL_law_201 rfl (lv_at hl 0 rfl) ?_
  refine lv_iconst (v := 1) hx hb dL_law_202 (by decide) ?_
  refine lv_iadd hx hb dL_law_203 ?_
  refine lv_topi (fun x_6 ex_6 => ?_)
  obtain rfl : x_6 = 1 := ex_6.trans (by decide)
  refine va_sld hx hb hX hbl hbA hS (by unfold vp_in; decide) dL_law_204 ?_
  refine lv_topi (fun x_7 ex_7 => ?_)
  rw [← ex_2] at ex_7; replace ex_7 := ex_7.symm; subst ex_7
  refine lv_aload_n hx hb dL_law_205 rfl (lv_at hl 3 rfl) ?_
  refine lv_iload_n hx hb dL_law_206 rfl (lv_at hl 0 rfl) ?_
  refine lv_iconst (v := 2) hx hb dL_law_207 (by decide) ?_
  refine lv_iadd hx hb dL_law_208 ?_
  refine lv_topi (fun x_8 ex_8 => ?_)
  obtain rfl : x_8 = 2 := ex_8.trans (by decide)
  refine va_sld hx hb hX hbl hbA hS (by unfold vp_in; decide) dL_law_209 ?_
  refine lv_topi (fun x_9 ex_9 => ?_)
  rw [← ex_4] at ex_9; replace ex_9 := ex_9.symm; subst ex_9
  refine yc_i (wc := [(g0, .inr (8, [.ref g1, .ref g2, .int 0, .int 1, .ref g3, .int 0, .ref g4, .ref g5, .ref g6, .int 0, .ref g7])), (g1, .inl (cy 0, 596, .inl (fun _ => 0)))]) (wr := [(h4, .inl (cy 1, 8, .inr (.inr (.inr (.inr f))))), (p9, .inr (3, [.int 0, .int 0])), (h2, .inr (4, [.int 0, .int 0, .int 0, .ref q1, .ref q2, .ref q3, .ref q4, .ref q5, .ref q6, .ref q7, .ref q8])), (q1, .inl (cy 0, 4, .inl (fun _ => 0))), (q2, .inl (cy 0, 4, .inl (fun _ => 0))), (q3, .inl (cy 0, 4, .inl (fun _ => 0))), (q4, .inl (cy 0, 4, .inl (fun _ => 0))), (q5, .inl (cy 0, 4, .inl (fun _ => 0))), (q6, .inl (cy 0, 4, .inl (fun _ => 0))), (q7, .inl (cy 0, 3, .inl (fun _ => 0))), (q8, .inl (cy 0, 3, .inl (fun _ => 0))), (g2, .inl (cy 0, 596, .inl (fun _ => 0))), (g3, .inl (cy 0, 6, .inl (fun _ => 0))), (g4, .inl (cy 0, 4, .inl (fun _ => 0))), (g5, .inl (cy 0, 5, .inl (fun _ => 0))), (g6, .inl (cy 0, 4, .inl (fun _ => 0))), (g7, .inl (cy 0, 6, .inl (fun _ => 0)))]) (w1 := fun _ => []) hP hD hS hA [11, 12] [0, 1, 2, 3, 4, 5, 6, 7, 8, 9, 10, 13, 14, 15, 16, 17, 18] rfl rfl (by decide) (by decide) (va_runV (As := [.int x_2, .int x_4]) (rest := [.int r_5]) ⟨hx, hb, hml, hown, hts⟩ (c0_X8_mediator l dC dI cy _ g0 g1 g2 g3 g4 g5 g6 g7 x_2 x_4) (cwV 2 hts gL_law_X8_mediator rfl rfl rfl (by decide +kernel) ⟨Nat.le_of_ble_eq_true rfl, Nat.le_of_ble_eq_true rfl⟩) (ex_preV hE hK hP hD [11, 12] (by decide) rfl (ci := 8) (q0 := 11) rfl rfl) rfl rfl hl.1 rfl (lv_room (Nat.le_of_ble_eq_true rfl)) dL_law_210 ⟨Nat.le_of_ble_eq_true rfl, Nat.le_of_ble_eq_true rfl⟩) (fun r_10 u_10 H locs hw_10 hP hD hS => ?_)
  have hP : va_P (dC, dI) vwCl [(h4, .inl (cy 1, 8, .inr (.inr (.inr (.inr f))))), (p9, .inr (3, [.int 0, .int 0])), (h2, .inr (4, [.int 0, .int 0, .int 0, .ref q1, .ref q2, .ref q3, .ref q4, .ref q5, .ref q6, .ref q7, .ref q8])), (q1, .inl (cy 0, 4, .inl (fun _ => 0))), (q2, .inl (cy 0, 4, .inl (fun _ => 0))), (q3, .inl (cy 0, 4, .inl (fun _ => 0))), (q4, .inl (cy 0, 4, .inl (fun _ => 0))), (q5, .inl (cy 0, 4, .inl (fun _ => 0))), (q6, .inl (cy 0, 4, .inl (fun _ => 0))), (q7, .inl (cy 0, 3, .inl (fun _ => 0))), (q8, .inl (cy 0, 3, .inl (fun _ => 0))), (g2, .inl (cy 0, 596, .inl (fun _ => 0))), (g3, .inl (cy 0, 6, .inl (fun _ => 0))), (g4, .inl (cy 0, 4, .inl (fun _ => 0))), (g5, .inl (cy 0, 5, .inl (fun _ => 0))), (g6, .inl (cy 0, 4, .inl (fun _ => 0))), (g7, .inl (cy 0, 6, .inl (fun _ => 0)))] H := hP
  have hD : va_D (fun q : Nat => s.heap.size ≤ q) [(h4, .inl (cy 1, 8, .inr (.inr (.inr (.inr f))))), (p9, .inr (3, [.int 0, .int 0])), (h2, .inr (4, [.int 0, .int 0, .int 0, .ref q1, .ref q2, .ref q3, .ref q4, .ref q5, .ref q6, .ref q7, .ref q8])), (q1, .inl (cy 0, 4, .inl (fun _ => 0))), (q2, .inl (cy 0, 4, .inl (fun _ => 0))), (q3, .inl (cy 0, 4, .inl (fun _ => 0))), (q4, .inl (cy 0, 4, .inl (fun _ => 0))), (q5, .inl (cy 0, 4, .inl (fun _ => 0))), (q6, .inl (cy 0, 4, .inl (fun _ => 0))), (q7, .inl (cy 0, 3, .inl (fun _ => 0))), (q8, .inl (cy 0, 3, .inl (fun _ => 0))), (g2, .inl (cy 0, 596, .inl (fun _ => 0))), (g3, .inl (cy 0, 6, .inl (fun _ => 0))), (g4, .inl (cy 0, 4, .inl (fun _ => 0))), (g5, .inl (cy 0, 5, .inl (fun _ => 0))), (g6, .inl (cy 0, 4, .inl (fun _ => 0))), (g7, .inl (cy 0, 6, .inl (fun _ => 0)))] := hD
  refine lv_icmp_eq (tgt := 1060) hx hb dL_law_213 (by decide) (fun _ => ?_) (fun c9 => absurd (hw_5.trans hw_10.symm) c9)
  exact law_end C0 (Nat.le_of_ble_eq_true rfl) (Nat.le_of_ble_eq_true rfl) hS ls (lv_sub hl [0, 3] rfl)

set_option maxHeartbeats 4000000 in
set_option maxRecDepth 100000 in
/-- the case of kin -/
theorem lc_2 {p : Program} {l : Launch} {e : Env} {s : State} {m : MethodId} {below : List Frame} {meth : Method} {c : Code} {dC : Nat → ClassId} {dI : Nat → Nat → Nat} {cy : Nat → ClassId} {b : Nat} {xs : Nat → Int32} (C0 : lw_At p s m meth c b 7 xs) (h0 h1 h2 h3 h4 h5 h6 p9 m9 q1 q2 q3 q4 q5 q6 q7 q8 g0 g1 g2 g3 g4 g5 g6 g7 t0 : Nat) (f g : Nat → Option Nat) (hf : f 0 = some p9) (hg : g 0 = some m9) (hSt : ex_St t0 (fun q : Nat => s.heap.size ≤ q) s) (hE : ex_K s) (hK : va_K (dC, dI) vwCl (ty_L cy) s) {H : Heap} {locs : List Loc} (hP : va_P (dC, dI) vwCl [(h0, .inr (7, [.ref h1, .ref h2, .ref h3, .null, .int 1])), (h1, .inr (1, [.int 0, .int 0, .int 0, .int 0, .ref h4, .ref h5, .ref h6])), (h4, .inl (cy 1, 8, .inr (.inr (.inr (.inr f))))), (p9, .inr (3, [.int 0, .int 0])), (h5, .inl (cy 2, 4, .inr (.inr (.inr (.inr g))))), (m9, .inr (2, [.int 0, .int 0, .int 0])), (h2, .inr (4, [.int 0, .int 0, .int 0, .ref q1, .ref q2, .ref q3, .ref q4, .ref q5, .ref q6, .ref q7, .ref q8])), (q1, .inl (cy 0, 4, .inl (fun _ => 0))), (q2, .inl (cy 0, 4, .inl (fun _ => 0))), (q3, .inl (cy 0, 4, .inl (fun _ => 0))), (q4, .inl (cy 0, 4, .inl (fun _ => 0))), (q5, .inl (cy 0, 4, .inl (fun _ => 0))), (q6, .inl (cy 0, 4, .inl (fun _ => 0))), (q7, .inl (cy 0, 3, .inl (fun _ => 0))), (q8, .inl (cy 0, 3, .inl (fun _ => 0))), (g0, .inr (8, [.ref g1, .ref g2, .int 0, .int 1, .ref g3, .int 0, .ref g4, .ref g5, .ref g6, .int 0, .ref g7])), (g1, .inl (cy 0, 596, .inl (fun _ => 0))), (g2, .inl (cy 0, 596, .inl (fun _ => 0))), (g3, .inl (cy 0, 6, .inl (fun _ => 0))), (g4, .inl (cy 0, 4, .inl (fun _ => 0))), (g5, .inl (cy 0, 5, .inl (fun _ => 0))), (g6, .inl (cy 0, 4, .inl (fun _ => 0))), (g7, .inl (cy 0, 6, .inl (fun _ => 0)))] H) (hD : va_D (fun q : Nat => s.heap.size ≤ q) [(h0, .inr (7, [.ref h1, .ref h2, .ref h3, .null, .int 1])), (h1, .inr (1, [.int 0, .int 0, .int 0, .int 0, .ref h4, .ref h5, .ref h6])), (h4, .inl (cy 1, 8, .inr (.inr (.inr (.inr f))))), (p9, .inr (3, [.int 0, .int 0])), (h5, .inl (cy 2, 4, .inr (.inr (.inr (.inr g))))), (m9, .inr (2, [.int 0, .int 0, .int 0])), (h2, .inr (4, [.int 0, .int 0, .int 0, .ref q1, .ref q2, .ref q3, .ref q4, .ref q5, .ref q6, .ref q7, .ref q8])), (q1, .inl (cy 0, 4, .inl (fun _ => 0))), (q2, .inl (cy 0, 4, .inl (fun _ => 0))), (q3, .inl (cy 0, 4, .inl (fun _ => 0))), (q4, .inl (cy 0, 4, .inl (fun _ => 0))), (q5, .inl (cy 0, 4, .inl (fun _ => 0))), (q6, .inl (cy 0, 4, .inl (fun _ => 0))), (q7, .inl (cy 0, 3, .inl (fun _ => 0))), (q8, .inl (cy 0, 3, .inl (fun _ => 0))), (g0, .inr (8, [.ref g1, .ref g2, .int 0, .int 1, .ref g3, .int 0, .ref g4, .ref g5, .ref g6, .int 0, .ref g7])), (g1, .inl (cy 0, 596, .inl (fun _ => 0))), (g2, .inl (cy 0, 596, .inl (fun _ => 0))), (g3, .inl (cy 0, 6, .inl (fun _ => 0))), (g4, .inl (cy 0, 4, .inl (fun _ => 0))), (g5, .inl (cy 0, 5, .inl (fun _ => 0))), (g6, .inl (cy 0, 4, .inl (fun _ => 0))), (g7, .inl (cy 0, 6, .inl (fun _ => 0)))]) (hS : va_S (fun q : Nat => s.heap.size ≤ q) s.heap H locs) (ls : Array Slot) (hl : lv_has ls 4 [(3, .int 0), (2, .ref g0), (1, .ref h0), (0, .ref b)]) : W p l e room_1 s m #[Value.ref b] below meth c H locs 127 1982 (lw_Z below #[Value.ref b] s) (F0 m 218 ls []) := by
  obtain ⟨hx, hb, hr, hml, hown, hts0, hX, hbl, hlocks, hgv⟩ := id C0
  have hts : ∀ w ∈ wsL_law, w.before #[Value.ref b] s = true := fun w h => hts0 w (wsL_law_in w h)
  have hown : s.vm.findClass RL = some m.cls := hown
  have hA : ∀ q : Nat, s.heap.size ≤ q → (fun q : Nat => s.heap.size ≤ q) q := fun _ h => h
  have hbA : ¬ (fun q : Nat => s.heap.size ≤ q) b := Nat.not_le.mpr hbl
  refine lv_aload_n hx hb dL_law_218 rfl (lv_at hl 2 rfl) ?_
  refine lv_aload_n hx hb dL_law_219 rfl (lv_at hl 3 rfl) ?_
  refine lv_iload_n hx hb dL_law_220 rfl (lv_at hl 0 rfl) ?_
  refine lv_iconst (v := 1) hx hb dL_law_221 (by decide) ?_
  refine lv_iadd hx hb dL_law_222 ?_
  refine lv_topi (fun x_1 ex_1 => ?_)
  obtain rfl : x_1 = 1 := ex_1.trans (by decide)
  refine va_sld hx hb hX hbl hbA hS (by unfold vp_in; decide) dL_law_223 ?_
  refine lv_topi (fun x_2 ex_2 => ?_)
  refine lv_aload_n hx hb dL_law_224 rfl (lv_at hl 3 rfl) ?_
  refine lv_iload_n hx hb dL_law_225 rfl (lv_at hl 0 rfl) ?_
  refine lv_iconst (v := 2) hx hb dL_law_226 (by decide) ?_
  refine lv_iadd hx hb dL_law_227 ?_
  refine lv_topi (fun x_3 ex_3 => ?_)
  obtain rfl : x_3 = 2 := ex_3.trans (by decide)
  refine va_sld hx hb hX hbl hbA hS (by unfold vp_in; decide) dL_law_228 ?_
  refine lv_topi (fun x_4 ex_4 => ?_)
  refine lv_aload_n hx hb dL_law_229 rfl (lv_at hl 3 rfl) ?_
  refine lv_iload_n hx hb dL_law_230 rfl (lv_at hl 0 rfl) ?_
  refine lv_iconst (v := 3) hx hb dL_law_231 (by decide) ?_
  refine lv_iadd hx hb dL_law_232 ?_
  refine lv_topi (fun x_5 ex_5 => ?_)
  obtain rfl : x_5 = 3 := ex_5.trans (by decide)
  refine va_sld hx hb hX hbl hbA hS (by unfold vp_in; decide) dL_law_233 ?_
  refine lv_topi (fun x_6 ex_6 => ?_)
  refine lv_if_eq (tgt := 241) hx hb dL_law_234 (by decide) (fun c_7 => ?_) (fun c_7 => ?_)
  · refine lv_iconst (v := 0) hx hb dL_law_241 (by decide) ?_
    refine yc_i (wc := [(h0, .inr (7, [.ref h1, .ref h2, .ref h3, .null, .int 1])), (h1, .inr (1, [.int 0, .int 0, .int 0, .int 0, .ref h4, .ref h5, .ref h6]))]) (wr := [(h4, .inl (cy 1, 8, .inr (.inr (.inr (.inr f))))), (p9, .inr (3, [.int 0, .int 0])), (h5, .inl (cy 2, 4, .inr (.inr (.inr (.inr g))))), (m9, .inr (2, [.int 0, .int 0, .int 0])), (h2, .inr (4, [.int 0, .int 0, .int 0, .ref q1, .ref q2, .ref q3, .ref q4, .ref q5, .ref q6, .ref q7, .ref q8])), (q1, .inl (cy 0, 4, .inl (fun _ => 0))), (q2, .inl (cy 0, 4, .inl (fun _ => 0))), (q3, .inl (cy 0, 4, .inl (fun _ => 0))), (q4, .inl (cy 0, 4, .inl (fun _ => 0))), (q5, .inl (cy 0, 4, .inl (fun _ => 0))), (q6, .inl (cy 0, 4, .inl (fun _ => 0))), (q7, .inl (cy 0, 3, .inl (fun _ => 0))), (q8, .inl (cy 0, 3, .inl (fun _ => 0))), (g0, .inr (8, [.ref g1, .ref g2, .int 0, .int 1, .ref g3, .int 0, .ref g4, .ref g5, .ref g6, .int 0, .ref g7])), (g1, .inl (cy 0, 596, .inl (fun _ => 0))), (g2, .inl (cy 0, 596, .inl (fun _ => 0))), (g3, .inl (cy 0, 6, .inl (fun _ => 0))), (g4, .inl (cy 0, 4, .inl (fun _ => 0))), (g5, .inl (cy 0, 5, .inl (fun _ => 0))), (g6, .inl (cy 0, 4, .inl (fun _ => 0))), (g7, .inl (cy 0, 6, .inl (fun _ => 0)))]) (w1 := fun _ => []) hP hD hS hA [0, 1] [2, 3, 4, 5, 6, 7, 8, 9, 10, 11, 12, 13, 14, 15, 16, 17, 18, 19, 20, 21, 22] rfl rfl (by decide) (by decide) (va_runV (As := [.int x_2, .int x_4, .int 0]) (rest := []) ⟨hx, hb, hml, hown, hts⟩ (c0_X7_kin l dC dI cy _ h0 h1 h2 h3 h4 h5 h6 x_2 x_4 0) (cwV 3 hts gL_law_X7_kin rfl rfl rfl (by decide +kernel) ⟨Nat.le_of_ble_eq_true rfl, Nat.le_of_ble_eq_true rfl⟩) (ex_preV hE hK hP hD [0, 1] (by decide) rfl (ci := 7) (q0 := 0) rfl rfl) rfl rfl hl.1 rfl (lv_room (Nat.le_of_ble_eq_true rfl)) dL_law_242 ⟨Nat.le_of_ble_eq_true rfl, Nat.le_of_ble_eq_true rfl⟩) (fun r_8 u_8 H locs hw_8 hP hD hS => ?_)
    have hP : va_P (dC, dI) vwCl [(h4, .inl (cy 1, 8, .inr (.inr (.inr (.inr f))))), (p9, .inr (3, [.int 0, .int 0])), (h5, .inl (cy 2, 4, .inr (.inr (.inr (.inr g))))), (m9, .inr (2, [.int 0, .int 0, .int 0])), (h2, .inr (4, [.int 0, .int 0, .int 0, .ref q1, .ref q2, .ref q3, .ref q4, .ref q5, .ref q6, .ref q7, .ref q8])), (q1, .inl (cy 0, 4, .inl (fun _ => 0))), (q2, .inl (cy 0, 4, .inl (fun _ => 0))), (q3, .inl (cy 0, 4, .inl (fun _ => 0))), (q4, .inl (cy 0, 4, .inl (fun _ => 0))), (q5, .inl (cy 0, 4, .inl (fun _ => 0))), (q6, .inl (cy 0, 4, .inl (fun _ => 0))), (q7, .inl (cy 0, 3, .inl (fun _ => 0))), (q8, .inl (cy 0, 3, .inl (fun _ => 0))), (g0, .inr (8, [.ref g1, .ref g2, .int 0, .int 1, .ref g3, .int 0, .ref g4, .ref g5, .ref g6, .int 0, .ref g7])), (g1, .inl (cy 0, 596, .inl (fun _ => 0))), (g2, .inl (cy 0, 596, .inl (fun _ => 0))), (g3, .inl (cy 0, 6, .inl (fun _ => 0))), (g4, .inl (cy 0, 4, .inl (fun _ => 0))), (g5, .inl (cy 0, 5, .inl (fun _ => 0))), (g6, .inl (cy 0, 4, .inl (fun _ => 0))), (g7, .inl (cy 0, 6, .inl (fun _ => 0)))] H := hP
    have hD : va_D (fun q : Nat => s.heap.size ≤ q) [(h4, .inl (cy 1, 8, .inr (.inr (.inr (.inr f))))), (p9, .inr (3, [.int 0, .int 0])), (h5, .inl (cy 2, 4, .inr (.inr (.inr (.inr g))))), (m9, .inr (2, [.int 0, .int 0, .int 0])), (h2, .inr (4, [.int 0, .int 0, .int 0, .ref q1, .ref q2, .ref q3, .ref q4, .ref q5, .ref q6, .ref q7, .ref q8])), (q1, .inl (cy 0, 4, .inl (fun _ => 0))), (q2, .inl (cy 0, 4, .inl (fun _ => 0))), (q3, .inl (cy 0, 4, .inl (fun _ => 0))), (q4, .inl (cy 0, 4, .inl (fun _ => 0))), (q5, .inl (cy 0, 4, .inl (fun _ => 0))), (q6, .inl (cy 0, 4, .inl (fun _ => 0))), (q7, .inl (cy 0, 3, .inl (fun _ => 0))), (q8, .inl (cy 0, 3, .inl (fun _ => 0))), (g0, .inr (8, [.ref g1, .ref g2, .int 0, .int 1, .ref g3, .int 0, .ref g4, .ref g5, .ref g6, .int 0, .ref g7])), (g1, .inl (cy 0, 596, .inl (fun _ => 0))), (g2, .inl (cy 0, 596, .inl (fun _ => 0))), (g3, .inl (cy 0, 6, .inl (fun _ => 0))), (g4, .inl (cy 0, 4, .inl (fun _ => 0))), (g5, .inl (cy 0, 5, .inl (fun _ => 0))), (g6, .inl (cy 0, 4, .inl (fun _ => 0))), (g7, .inl (cy 0, 6, .inl (fun _ => 0)))] := hD
    refine lv_aload_n hx hb dL_law_245 rfl (lv_at hl 1 rfl) ?_
    refine lv_aload_n hx hb dL_law_246 rfl (lv_at hl 3 rfl) ?_
    refine lv_iload_n hx hb dL_law_247 rfl (lv_at hl 0 rfl) ?_
    refine lv_iconst (v := 1) hx hb dL_law_248 (by decide) ?_
    refine lv_iadd hx hb dL_law_249 ?_
    refine lv_topi (fun x_9 ex_9 => ?_)
    obtain rfl : x_9 = 1 := ex_9.trans (by decide)
    refine va_sld hx hb hX hbl hbA hS (by unfold vp_in; decide) dL_law_250 ?_
    refine lv_topi (fun x_10 ex_10 => ?_)
    rw [← ex_2] at ex_10; replace ex_10 := ex_10.symm; subst ex_10
    refine lv_aload_n hx hb dL_law_251 rfl (lv_at hl 3 rfl) ?_
    refine lv_iload_n hx hb dL_law_252 rfl (lv_at hl 0 rfl) ?_
    refine lv_iconst (v := 2) hx hb dL_law_253 (by decide) ?_
    refine lv_iadd hx hb dL_law_254 ?_
    refine lv_topi (fun x_11 ex_11 => ?_)
    obtain rfl : x_11 = 2 := ex_11.trans (by decide)
    refine va_sld hx hb hX hbl hbA hS (by unfold vp_in; decide) dL_law_255 ?_
    refine lv_topi (fun x_12 ex_12 => ?_)
    rw [← ex_4] at ex_12; replace ex_12 := ex_12.symm; subst ex_12
    refine lv_aload_n hx hb dL_law_256 rfl (lv_at hl 3 rfl) ?_
    refine lv_iload_n hx hb dL_law_257 rfl (lv_at hl 0 rfl) ?_
    refine lv_iconst (v := 3) hx hb dL_law_258 (by decide) ?_
    refine lv_iadd hx hb dL_law_259 ?_
    refine lv_topi (fun x_13 ex_13 => ?_)
    obtain rfl : x_13 = 3 := ex_13.trans (by decide)
    refine va_sld hx hb hX hbl hbA hS (by unfold vp_in; decide) dL_law_260 ?_
    refine lv_topi (fun x_14 ex_14 => ?_)
    rw [← ex_6] at ex_14; replace ex_14 := ex_14.symm; subst ex_14
    refine lv_if_eq (tgt := 268) hx hb dL_law_261 (by decide) (fun _ => ?_) (fun c9 => absurd c_7 c9)
    refine lv_iconst (v := 0) hx hb dL_law_268 (by decide) ?_
    refine yc_i (wc := [(g0, .inr (8, [.ref g1, .ref g2, .int 0, .int 1, .ref g3, .int 0, .ref g4, .ref g5, .ref g6, .int 0, .ref g7])), (g1, .inl (cy 0, 596, .inl (fun _ => 0)))]) (wr := [(h4, .inl (cy 1, 8, .inr (.inr (.inr (.inr f))))), (p9, .inr (3, [.int 0, .int 0])), (h5, .inl (cy 2, 4, .inr (.inr (.inr (.inr g))))), (m9, .inr (2, [.int 0, .int 0, .int 0])), (h2, .inr (4, [.int 0, .int 0, .int 0, .ref q1, .ref q2, .ref q3, .ref q4, .ref q5, .ref q6, .ref q7, .ref q8])), (q1, .inl (cy 0, 4, .inl (fun _ => 0))), (q2, .inl (cy 0, 4, .inl (fun _ => 0))), (q3, .inl (cy 0, 4, .inl (fun _ => 0))), (q4, .inl (cy 0, 4, .inl (fun _ => 0))), (q5, .inl (cy 0, 4, .inl (fun _ => 0))), (q6, .inl (cy 0, 4, .inl (fun _ => 0))), (q7, .inl (cy 0, 3, .inl (fun _ => 0))), (q8, .inl (cy 0, 3, .inl (fun _ => 0))), (g2, .inl (cy 0, 596, .inl (fun _ => 0))), (g3, .inl (cy 0, 6, .inl (fun _ => 0))), (g4, .inl (cy 0, 4, .inl (fun _ => 0))), (g5, .inl (cy 0, 5, .inl (fun _ => 0))), (g6, .inl (cy 0, 4, .inl (fun _ => 0))), (g7, .inl (cy 0, 6, .inl (fun _ => 0)))]) (w1 := fun _ => []) hP hD hS hA [13, 14] [0, 1, 2, 3, 4, 5, 6, 7, 8, 9, 10, 11, 12, 15, 16, 17, 18, 19, 20] rfl rfl (by decide) (by decide) (va_runV (As := [.int x_2, .int x_4, .int 0]) (rest := [.int r_8]) ⟨hx, hb, hml, hown, hts⟩ (c0_X8_kin l dC dI cy _ g0 g1 g2 g3 g4 g5 g6 g7 x_2 x_4 0) (cwV 3 hts gL_law_X8_kin rfl rfl rfl (by decide +kernel) ⟨Nat.le_of_ble_eq_true rfl, Nat.le_of_ble_eq_true rfl⟩) (ex_preV hE hK hP hD [13, 14] (by decide) rfl (ci := 8) (q0 := 13) rfl rfl) rfl rfl hl.1 rfl (lv_room (Nat.le_of_ble_eq_true rfl)) dL_law_269 ⟨Nat.le_of_ble_eq_true rfl, Nat.le_of_ble_eq_true rfl⟩) (fun r_15 u_15 H locs hw_15 hP hD hS => ?_)
    have hP : va_P (dC, dI) vwCl [(h4, .inl (cy 1, 8, .inr (.inr (.inr (.inr f))))), (p9, .inr (3, [.int 0, .int 0])), (h5, .inl (cy 2, 4, .inr (.inr (.inr (.inr g))))), (m9, .inr (2, [.int 0, .int 0, .int 0])), (h2, .inr (4, [.int 0, .int 0, .int 0, .ref q1, .ref q2, .ref q3, .ref q4, .ref q5, .ref q6, .ref q7, .ref q8])), (q1, .inl (cy 0, 4, .inl (fun _ => 0))), (q2, .inl (cy 0, 4, .inl (fun _ => 0))), (q3, .inl (cy 0, 4, .inl (fun _ => 0))), (q4, .inl (cy 0, 4, .inl (fun _ => 0))), (q5, .inl (cy 0, 4, .inl (fun _ => 0))), (q6, .inl (cy 0, 4, .inl (fun _ => 0))), (q7, .inl (cy 0, 3, .inl (fun _ => 0))), (q8, .inl (cy 0, 3, .inl (fun _ => 0))), (g2, .inl (cy 0, 596, .inl (fun _ => 0))), (g3, .inl (cy 0, 6, .inl (fun _ => 0))), (g4, .inl (cy 0, 4, .inl (fun _ => 0))), (g5, .inl (cy 0, 5, .inl (fun _ => 0))), (g6, .inl (cy 0, 4, .inl (fun _ => 0))), (g7, .inl (cy 0, 6, .inl (fun _ => 0)))] H := hP
    have hD : va_D (fun q : Nat => s.heap.size ≤ q) [(h4, .inl (cy 1, 8, .inr (.inr (.inr (.inr f))))), (p9, .inr (3, [.int 0, .int 0])), (h5, .inl (cy 2, 4, .inr (.inr (.inr (.inr g))))), (m9, .inr (2, [.int 0, .int 0, .int 0])), (h2, .inr (4, [.int 0, .int 0, .int 0, .ref q1, .ref q2, .ref q3, .ref q4, .ref q5, .ref q6, .ref q7, .ref q8])), (q1, .inl (cy 0, 4, .inl (fun _ => 0))), (q2, .inl (cy 0, 4, .inl (fun _ => 0))), (q3, .inl (cy 0, 4, .inl (fun _ => 0))), (q4, .inl (cy 0, 4, .inl (fun _ => 0))), (q5, .inl (cy 0, 4, .inl (fun _ => 0))), (q6, .inl (cy 0, 4, .inl (fun _ => 0))), (q7, .inl (cy 0, 3, .inl (fun _ => 0))), (q8, .inl (cy 0, 3, .inl (fun _ => 0))), (g2, .inl (cy 0, 596, .inl (fun _ => 0))), (g3, .inl (cy 0, 6, .inl (fun _ => 0))), (g4, .inl (cy 0, 4, .inl (fun _ => 0))), (g5, .inl (cy 0, 5, .inl (fun _ => 0))), (g6, .inl (cy 0, 4, .inl (fun _ => 0))), (g7, .inl (cy 0, 6, .inl (fun _ => 0)))] := hD
    refine lv_icmp_eq (tgt := 1060) hx hb dL_law_272 (by decide) (fun _ => ?_) (fun c9 => absurd (hw_8.trans hw_15.symm) c9)
    exact law_end C0 (Nat.le_of_ble_eq_true rfl) (Nat.le_of_ble_eq_true rfl) hS ls (lv_sub hl [0, 3] rfl)
  · refine lv_iconst (v := 1) hx hb dL_law_237 (by decide) ?_
    refine lv_goto (tgt := 242) hx hb dL_law_238 (by decide) ?_
    refine yc_i (wc := [(h0, .inr (7, [.ref h1, .ref h2, .ref h3, .null, .int 1])), (h1, .inr (1, [.int 0, .int 0, .int 0, .int 0, .ref h4, .ref h5, .ref h6]))]) (wr := [(h4, .inl (cy 1, 8, .inr (.inr (.inr (.inr f))))), (p9, .inr (3, [.int 0, .int 0])), (h5, .inl (cy 2, 4, .inr (.inr (.inr (.inr g))))), (m9, .inr (2, [.int 0, .int 0, .int 0])), (h2, .inr (4, [.int 0, .int 0, .int 0, .ref q1, .ref q2, .ref q3, .ref q4, .ref q5, .ref q6, .ref q7, .ref q8])), (q1, .inl (cy 0, 4, .inl (fun _ => 0))), (q2, .inl (cy 0, 4, .inl (fun _ => 0))), (q3, .inl (cy 0, 4, .inl (fun _ => 0))), (q4, .inl (cy 0, 4, .inl (fun _ => 0))), (q5, .inl (cy 0, 4, .inl (fun _ => 0))), (q6, .inl (cy 0, 4, .inl (fun _ => 0))), (q7, .inl (cy 0, 3, .inl (fun _ => 0))), (q8, .inl (cy 0, 3, .inl (fun _ => 0))), (g0, .inr (8, [.ref g1, .ref g2, .int 0, .int 1, .ref g3, .int 0, .ref g4, .ref g5, .ref g6, .int 0, .ref g7])), (g1, .inl (cy 0, 596, .inl (fun _ => 0))), (g2, .inl (cy 0, 596, .inl (fun _ => 0))), (g3, .inl (cy 0, 6, .inl (fun _ => 0))), (g4, .inl (cy 0, 4, .inl (fun _ => 0))), (g5, .inl (cy 0, 5, .inl (fun _ => 0))), (g6, .inl (cy 0, 4, .inl (fun _ => 0))), (g7, .inl (cy 0, 6, .inl (fun _ => 0)))]) (w1 := fun _ => []) hP hD hS hA [0, 1] [2, 3, 4, 5, 6, 7, 8, 9, 10, 11, 12, 13, 14, 15, 16, 17, 18, 19, 20, 21, 22] rfl rfl (by decide) (by decide) (va_runV (As := [.int x_2, .int x_4, .int 1]) (rest := []) ⟨hx, hb, hml, hown, hts⟩ (c0_X7_kin l dC dI cy _ h0 h1 h2 h3 h4 h5 h6 x_2 x_4 1) (cwV 3 hts gL_law_X7_kin rfl rfl rfl (by decide +kernel) ⟨Nat.le_of_ble_eq_true rfl, Nat.le_of_ble_eq_true rfl⟩) (ex_preV hE hK hP hD [0, 1] (by decide) rfl (ci := 7) (q0 := 0) rfl rfl) rfl rfl hl.1 rfl (lv_room (Nat.le_of_ble_eq_true rfl)) dL_law_242 ⟨Nat.le_of_ble_eq_true rfl, Nat.le_of_ble_eq_true rfl⟩) (fun r_8 u_8 H locs hw_8 hP hD hS => ?_)
    have hP : va_P (dC, dI) vwCl [(h4, .inl (cy 1, 8, .inr (.inr (.inr (.inr f))))), (p9, .inr (3, [.int 0, .int 0])), (h5, .inl (cy 2, 4, .inr (.inr (.inr (.inr g))))), (m9, .inr (2, [.int 0, .int 0, .int 0])), (h2, .inr (4, [.int 0, .int 0, .int 0, .ref q1, .ref q2, .ref q3, .ref q4, .ref q5, .ref q6, .ref q7, .ref q8])), (q1, .inl (cy 0, 4, .inl (fun _ => 0))), (q2, .inl (cy 0, 4, .inl (fun _ => 0))), (q3, .inl (cy 0, 4, .inl (fun _ => 0))), (q4, .inl (cy 0, 4, .inl (fun _ => 0))), (q5, .inl (cy 0, 4, .inl (fun _ => 0))), (q6, .inl (cy 0, 4, .inl (fun _ => 0))), (q7, .inl (cy 0, 3, .inl (fun _ => 0))), (q8, .inl (cy 0, 3, .inl (fun _ => 0))), (g0, .inr (8, [.ref g1, .ref g2, .int 0, .int 1, .ref g3, .int 0, .ref g4, .ref g5, .ref g6, .int 0, .ref g7])), (g1, .inl (cy 0, 596, .inl (fun _ => 0))), (g2, .inl (cy 0, 596, .inl (fun _ => 0))), (g3, .inl (cy 0, 6, .inl (fun _ => 0))), (g4, .inl (cy 0, 4, .inl (fun _ => 0))), (g5, .inl (cy 0, 5, .inl (fun _ => 0))), (g6, .inl (cy 0, 4, .inl (fun _ => 0))), (g7, .inl (cy 0, 6, .inl (fun _ => 0)))] H := hP
    have hD : va_D (fun q : Nat => s.heap.size ≤ q) [(h4, .inl (cy 1, 8, .inr (.inr (.inr (.inr f))))), (p9, .inr (3, [.int 0, .int 0])), (h5, .inl (cy 2, 4, .inr (.inr (.inr (.inr g))))), (m9, .inr (2, [.int 0, .int 0, .int 0])), (h2, .inr (4, [.int 0, .int 0, .int 0, .ref q1, .ref q2, .ref q3, .ref q4, .ref q5, .ref q6, .ref q7, .ref q8])), (q1, .inl (cy 0, 4, .inl (fun _ => 0))), (q2, .inl (cy 0, 4, .inl (fun _ => 0))), (q3, .inl (cy 0, 4, .inl (fun _ => 0))), (q4, .inl (cy 0, 4, .inl (fun _ => 0))), (q5, .inl (cy 0, 4, .inl (fun _ => 0))), (q6, .inl (cy 0, 4, .inl (fun _ => 0))), (q7, .inl (cy 0, 3, .inl (fun _ => 0))), (q8, .inl (cy 0, 3, .inl (fun _ => 0))), (g0, .inr (8, [.ref g1, .ref g2, .int 0, .int 1, .ref g3, .int 0, .ref g4, .ref g5, .ref g6, .int 0, .ref g7])), (g1, .inl (cy 0, 596, .inl (fun _ => 0))), (g2, .inl (cy 0, 596, .inl (fun _ => 0))), (g3, .inl (cy 0, 6, .inl (fun _ => 0))), (g4, .inl (cy 0, 4, .inl (fun _ => 0))), (g5, .inl (cy 0, 5, .inl (fun _ => 0))), (g6, .inl (cy 0, 4, .inl (fun _ => 0))), (g7, .inl (cy 0, 6, .inl (fun _ => 0)))] := hD
    refine lv_aload_n hx hb dL_law_245 rfl (lv_at hl 1 rfl) ?_
    refine lv_aload_n hx hb dL_law_246 rfl (lv_at hl 3 rfl) ?_
    refine lv_iload_n hx hb dL_law_247 rfl (lv_at hl 0 rfl) ?_
    refine lv_iconst (v := 1) hx hb dL_law_248 (by decide) ?_
    refine lv_iadd hx hb dL_law_249 ?_
    refine lv_topi (fun x_9 ex_9 => ?_)
    obtain rfl : x_9 = 1 := ex_9.trans (by decide)
    refine va_sld hx hb hX hbl hbA hS (by unfold vp_in; decide) dL_law_250 ?_
    refine lv_topi (fun x_10 ex_10 => ?_)
    rw [← ex_2] at ex_10; replace ex_10 := ex_10.symm; subst ex_10
    refine lv_aload_n hx hb dL_law_251 rfl (lv_at hl 3 rfl) ?_
    refine lv_iload_n hx hb dL_law_252 rfl (lv_at hl 0 rfl) ?_
    refine lv_iconst (v := 2) hx hb dL_law_253 (by decide) ?_
    refine lv_iadd hx hb dL_law_254 ?_
    refine lv_topi (fun x_11 ex_11 => ?_)
    obtain rfl : x_11 = 2 := ex_11.trans (by decide)
    refine va_sld hx hb hX hbl hbA hS (by unfold vp_in; decide) dL_law_255 ?_
    refine lv_topi (fun x_12 ex_12 => ?_)
    rw [← ex_4] at ex_12; replace ex_12 := ex_12.symm; subst ex_12
    refine lv_aload_n hx hb dL_law_256 rfl (lv_at hl 3 rfl) ?_
    refine lv_iload_n hx hb dL_law_257 rfl (lv_at hl 0 rfl) ?_
    refine lv_iconst (v := 3) hx hb dL_law_258 (by decide) ?_
    refine lv_iadd hx hb dL_law_259 ?_
    refine lv_topi (fun x_13 ex_13 => ?_)
    obtain rfl : x_13 = 3 := ex_13.trans (by decide)
    refine va_sld hx hb hX hbl hbA hS (by unfold vp_in; decide) dL_law_260 ?_
    refine lv_topi (fun x_14 ex_14 => ?_)
    rw [← ex_6] at ex_14; replace ex_14 := ex_14.symm; subst ex_14
    refine lv_if_eq (tgt := 268) hx hb dL_law_261 (by decide) (fun c9 => absurd c9 c_7) (fun _ => ?_)
    refine lv_iconst (v := 1) hx hb dL_law_264 (by decide) ?_
    refine lv_goto (tgt := 269) hx hb dL_law_265 (by decide) ?_
    refine yc_i (wc := [(g0, .inr (8, [.ref g1, .ref g2, .int 0, .int 1, .ref g3, .int 0, .ref g4, .ref g5, .ref g6, .int 0, .ref g7])), (g1, .inl (cy 0, 596, .inl (fun _ => 0)))]) (wr := [(h4, .inl (cy 1, 8, .inr (.inr (.inr (.inr f))))), (p9, .inr (3, [.int 0, .int 0])), (h5, .inl (cy 2, 4, .inr (.inr (.inr (.inr g))))), (m9, .inr (2, [.int 0, .int 0, .int 0])), (h2, .inr (4, [.int 0, .int 0, .int 0, .ref q1, .ref q2, .ref q3, .ref q4, .ref q5, .ref q6, .ref q7, .ref q8])), (q1, .inl (cy 0, 4, .inl (fun _ => 0))), (q2, .inl (cy 0, 4, .inl (fun _ => 0))), (q3, .inl (cy 0, 4, .inl (fun _ => 0))), (q4, .inl (cy 0, 4, .inl (fun _ => 0))), (q5, .inl (cy 0, 4, .inl (fun _ => 0))), (q6, .inl (cy 0, 4, .inl (fun _ => 0))), (q7, .inl (cy 0, 3, .inl (fun _ => 0))), (q8, .inl (cy 0, 3, .inl (fun _ => 0))), (g2, .inl (cy 0, 596, .inl (fun _ => 0))), (g3, .inl (cy 0, 6, .inl (fun _ => 0))), (g4, .inl (cy 0, 4, .inl (fun _ => 0))), (g5, .inl (cy 0, 5, .inl (fun _ => 0))), (g6, .inl (cy 0, 4, .inl (fun _ => 0))), (g7, .inl (cy 0, 6, .inl (fun _ => 0)))]) (w1 := fun _ => []) hP hD hS hA [13, 14] [0, 1, 2, 3, 4, 5, 6, 7, 8, 9, 10, 11, 12, 15, 16, 17, 18, 19, 20] rfl rfl (by decide) (by decide) (va_runV (As := [.int x_2, .int x_4, .int 1]) (rest := [.int r_8]) ⟨hx, hb, hml, hown, hts⟩ (c0_X8_kin l dC dI cy _ g0 g1 g2 g3 g4 g5 g6 g7 x_2 x_4 1) (cwV 3 hts gL_law_X8_kin rfl rfl rfl (by decide +kernel) ⟨Nat.le_of_ble_eq_true rfl, Nat.le_of_ble_eq_true rfl⟩) (ex_preV hE hK hP hD [13, 14] (by decide) rfl (ci := 8) (q0 := 13) rfl rfl) rfl rfl hl.1 rfl (lv_room (Nat.le_of_ble_eq_true rfl)) dL_law_269 ⟨Nat.le_of_ble_eq_true rfl, Nat.le_of_ble_eq_true rfl⟩) (fun r_15 u_15 H locs hw_15 hP hD hS => ?_)
    have hP : va_P (dC, dI) vwCl [(h4, .inl (cy 1, 8, .inr (.inr (.inr (.inr f))))), (p9, .inr (3, [.int 0, .int 0])), (h5, .inl (cy 2, 4, .inr (.inr (.inr (.inr g))))), (m9, .inr (2, [.int 0, .int 0, .int 0])), (h2, .inr (4, [.int 0, .int 0, .int 0, .ref q1, .ref q2, .ref q3, .ref q4, .ref q5, .ref q6, .ref q7, .ref q8])), (q1, .inl (cy 0, 4, .inl (fun _ => 0))), (q2, .inl (cy 0, 4, .inl (fun _ => 0))), (q3, .inl (cy 0, 4, .inl (fun _ => 0))), (q4, .inl (cy 0, 4, .inl (fun _ => 0))), (q5, .inl (cy 0, 4, .inl (fun _ => 0))), (q6, .inl (cy 0, 4, .inl (fun _ => 0))), (q7, .inl (cy 0, 3, .inl (fun _ => 0))), (q8, .inl (cy 0, 3, .inl (fun _ => 0))), (g2, .inl (cy 0, 596, .inl (fun _ => 0))), (g3, .inl (cy 0, 6, .inl (fun _ => 0))), (g4, .inl (cy 0, 4, .inl (fun _ => 0))), (g5, .inl (cy 0, 5, .inl (fun _ => 0))), (g6, .inl (cy 0, 4, .inl (fun _ => 0))), (g7, .inl (cy 0, 6, .inl (fun _ => 0)))] H := hP
    have hD : va_D (fun q : Nat => s.heap.size ≤ q) [(h4, .inl (cy 1, 8, .inr (.inr (.inr (.inr f))))), (p9, .inr (3, [.int 0, .int 0])), (h5, .inl (cy 2, 4, .inr (.inr (.inr (.inr g))))), (m9, .inr (2, [.int 0, .int 0, .int 0])), (h2, .inr (4, [.int 0, .int 0, .int 0, .ref q1, .ref q2, .ref q3, .ref q4, .ref q5, .ref q6, .ref q7, .ref q8])), (q1, .inl (cy 0, 4, .inl (fun _ => 0))), (q2, .inl (cy 0, 4, .inl (fun _ => 0))), (q3, .inl (cy 0, 4, .inl (fun _ => 0))), (q4, .inl (cy 0, 4, .inl (fun _ => 0))), (q5, .inl (cy 0, 4, .inl (fun _ => 0))), (q6, .inl (cy 0, 4, .inl (fun _ => 0))), (q7, .inl (cy 0, 3, .inl (fun _ => 0))), (q8, .inl (cy 0, 3, .inl (fun _ => 0))), (g2, .inl (cy 0, 596, .inl (fun _ => 0))), (g3, .inl (cy 0, 6, .inl (fun _ => 0))), (g4, .inl (cy 0, 4, .inl (fun _ => 0))), (g5, .inl (cy 0, 5, .inl (fun _ => 0))), (g6, .inl (cy 0, 4, .inl (fun _ => 0))), (g7, .inl (cy 0, 6, .inl (fun _ => 0)))] := hD
    refine lv_icmp_eq (tgt := 1060) hx hb dL_law_272 (by decide) (fun _ => ?_) (fun c9 => absurd (hw_8.trans hw_15.symm) c9)
    exact law_end C0 (Nat.le_of_ble_eq_true rfl) (Nat.le_of_ble_eq_true rfl) hS ls (lv_sub hl [0, 3] rfl)

set_option maxHeartbeats 4000000 in
set_option maxRecDepth 100000 in
/-- the case of open -/
theorem lc_3 {p : Program} {l : Launch} {e : Env} {s : State} {m : MethodId} {below : List Frame} {meth : Method} {c : Code} {dC : Nat → ClassId} {dI : Nat → Nat → Nat} {cy : Nat → ClassId} {b : Nat} {xs : Nat → Int32} (C0 : lw_At p s m meth c b 7 xs) (h0 h1 h2 h3 h4 h5 h6 p9 m9 q1 q2 q3 q4 q5 q6 q7 q8 g0 g1 g2 g3 g4 g5 g6 g7 t0 : Nat) (f g : Nat → Option Nat) (hf : f 0 = some p9) (hg : g 0 = some m9) (hSt : ex_St t0 (fun q : Nat => s.heap.size ≤ q) s) (hE : ex_K s) (hK : va_K (dC, dI) vwCl (ty_L cy) s) {H : Heap} {locs : List Loc} (hP : va_P (dC, dI) vwCl [(h0, .inr (7, [.ref h1, .ref h2, .ref h3, .null, .int 1])), (h1, .inr (1, [.int 0, .int 0, .int 0, .int 0, .ref h4, .ref h5, .ref h6])), (h4, .inl (cy 1, 8, .inr (.inr (.inr (.inr f))))), (p9, .inr (3, [.int 0, .int 0])), (h5, .inl (cy 2, 4, .inr (.inr (.inr (.inr g))))), (m9, .inr (2, [.int 0, .int 0, .int 0])), (h2, .inr (4, [.int 0, .int 0, .int 0, .ref q1, .ref q2, .ref q3, .ref q4, .ref q5, .ref q6, .ref q7, .ref q8])), (q1, .inl (cy 0, 4, .inl (fun _ => 0))), (q2, .inl (cy 0, 4, .inl (fun _ => 0))), (q3, .inl (cy 0, 4, .inl (fun _ => 0))), (q4, .inl (cy 0, 4, .inl (fun _ => 0))), (q5, .inl (cy 0, 4, .inl (fun _ => 0))), (q6, .inl (cy 0, 4, .inl (fun _ => 0))), (q7, .inl (cy 0, 3, .inl (fun _ => 0))), (q8, .inl (cy 0, 3, .inl (fun _ => 0))), (g0, .inr (8, [.ref g1, .ref g2, .int 0, .int 1, .ref g3, .int 0, .ref g4, .ref g5, .ref g6, .int 0, .ref g7])), (g1, .inl (cy 0, 596, .inl (fun _ => 0))), (g2, .inl (cy 0, 596, .inl (fun _ => 0))), (g3, .inl (cy 0, 6, .inl (fun _ => 0))), (g4, .inl (cy 0, 4, .inl (fun _ => 0))), (g5, .inl (cy 0, 5, .inl (fun _ => 0))), (g6, .inl (cy 0, 4, .inl (fun _ => 0))), (g7, .inl (cy 0, 6, .inl (fun _ => 0)))] H) (hD : va_D (fun q : Nat => s.heap.size ≤ q) [(h0, .inr (7, [.ref h1, .ref h2, .ref h3, .null, .int 1])), (h1, .inr (1, [.int 0, .int 0, .int 0, .int 0, .ref h4, .ref h5, .ref h6])), (h4, .inl (cy 1, 8, .inr (.inr (.inr (.inr f))))), (p9, .inr (3, [.int 0, .int 0])), (h5, .inl (cy 2, 4, .inr (.inr (.inr (.inr g))))), (m9, .inr (2, [.int 0, .int 0, .int 0])), (h2, .inr (4, [.int 0, .int 0, .int 0, .ref q1, .ref q2, .ref q3, .ref q4, .ref q5, .ref q6, .ref q7, .ref q8])), (q1, .inl (cy 0, 4, .inl (fun _ => 0))), (q2, .inl (cy 0, 4, .inl (fun _ => 0))), (q3, .inl (cy 0, 4, .inl (fun _ => 0))), (q4, .inl (cy 0, 4, .inl (fun _ => 0))), (q5, .inl (cy 0, 4, .inl (fun _ => 0))), (q6, .inl (cy 0, 4, .inl (fun _ => 0))), (q7, .inl (cy 0, 3, .inl (fun _ => 0))), (q8, .inl (cy 0, 3, .inl (fun _ => 0))), (g0, .inr (8, [.ref g1, .ref g2, .int 0, .int 1, .ref g3, .int 0, .ref g4, .ref g5, .ref g6, .int 0, .ref g7])), (g1, .inl (cy 0, 596, .inl (fun _ => 0))), (g2, .inl (cy 0, 596, .inl (fun _ => 0))), (g3, .inl (cy 0, 6, .inl (fun _ => 0))), (g4, .inl (cy 0, 4, .inl (fun _ => 0))), (g5, .inl (cy 0, 5, .inl (fun _ => 0))), (g6, .inl (cy 0, 4, .inl (fun _ => 0))), (g7, .inl (cy 0, 6, .inl (fun _ => 0)))]) (hS : va_S (fun q : Nat => s.heap.size ≤ q) s.heap H locs) (ls : Array Slot) (hl : lv_has ls 4 [(3, .int 0), (2, .ref g0), (1, .ref h0), (0, .ref b)]) : W p l e room_1 s m #[Value.ref b] below meth c H locs 127 1982 (lw_Z below #[Value.ref b] s) (F0 m 277 ls []) := by
  obtain ⟨hx, hb, hr, hml, hown, hts0, hX, hbl, hlocks, hgv⟩ := id C0
  have hts : ∀ w ∈ wsL_law, w.before #[Value.ref b] s = true := fun w h => hts0 w (wsL_law_in w h)
  have hown : s.vm.findClass RL = some m.cls := hown
  have hA : ∀ q : Nat, s.heap.size ≤ q → (fun q : Nat => s.heap.size ≤ q) q := fun _ h => h
  have hbA : ¬ (fun q : Nat => s.heap.size ≤ q) b := Nat.not_le.mpr hbl
  refine lv_aload_n hx hb dL_law_277 rfl (lv_at hl 2 rfl) ?_
  refine lv_aload_n hx hb dL_law_278 rfl (lv_at hl 3 rfl) ?_
  refine lv_iload_n hx hb dL_law_279 rfl (lv_at hl 0 rfl) ?_
  refine lv_iconst (v := 1) hx hb dL_law_280 (by decide) ?_
  refine lv_iadd hx hb dL_law_281 ?_
  refine lv_topi (fun x_1 ex_1 => ?_)
  obtain rfl : x_1 = 1 := ex_1.trans (by decide)
  refine va_sld hx hb hX hbl hbA hS (by unfold vp_in; decide) dL_law_282 ?_
  refine lv_topi (fun x_2 ex_2 => ?_)
  refine lv_aload_n hx hb dL_law_283 rfl (lv_at hl 3 rfl) ?_
  refine lv_iload_n hx hb dL_law_284 rfl (lv_at hl 0 rfl) ?_
  refine lv_iconst (v := 2) hx hb dL_law_285 (by decide) ?_
  refine lv_iadd hx hb dL_law_286 ?_
  refine lv_topi (fun x_3 ex_3 => ?_)
  obtain rfl : x_3 = 2 := ex_3.trans (by decide)
  refine va_sld hx hb hX hbl hbA hS (by unfold vp_in; decide) dL_law_287 ?_
  refine lv_topi (fun x_4 ex_4 => ?_)
  refine yc_i (wc := [(h0, .inr (7, [.ref h1, .ref h2, .ref h3, .null, .int 1])), (h1, .inr (1, [.int 0, .int 0, .int 0, .int 0, .ref h4, .ref h5, .ref h6]))]) (wr := [(h4, .inl (cy 1, 8, .inr (.inr (.inr (.inr f))))), (p9, .inr (3, [.int 0, .int 0])), (h5, .inl (cy 2, 4, .inr (.inr (.inr (.inr g))))), (m9, .inr (2, [.int 0, .int 0, .int 0])), (h2, .inr (4, [.int 0, .int 0, .int 0, .ref q1, .ref q2, .ref q3, .ref q4, .ref q5, .ref q6, .ref q7, .ref q8])), (q1, .inl (cy 0, 4, .inl (fun _ => 0))), (q2, .inl (cy 0, 4, .inl (fun _ => 0))), (q3, .inl (cy 0, 4, .inl (fun _ => 0))), (q4, .inl (cy 0, 4, .inl (fun _ => 0))), (q5, .inl (cy 0, 4, .inl (fun _ => 0))), (q6, .inl (cy 0, 4, .inl (fun _ => 0))), (q7, .inl (cy 0, 3, .inl (fun _ => 0))), (q8, .inl (cy 0, 3, .inl (fun _ => 0))), (g0, .inr (8, [.ref g1, .ref g2, .int 0, .int 1, .ref g3, .int 0, .ref g4, .ref g5, .ref g6, .int 0, .ref g7])), (g1, .inl (cy 0, 596, .inl (fun _ => 0))), (g2, .inl (cy 0, 596, .inl (fun _ => 0))), (g3, .inl (cy 0, 6, .inl (fun _ => 0))), (g4, .inl (cy 0, 4, .inl (fun _ => 0))), (g5, .inl (cy 0, 5, .inl (fun _ => 0))), (g6, .inl (cy 0, 4, .inl (fun _ => 0))), (g7, .inl (cy 0, 6, .inl (fun _ => 0)))]) (w1 := fun _ => []) hP hD hS hA [0, 1] [2, 3, 4, 5, 6, 7, 8, 9, 10, 11, 12, 13, 14, 15, 16, 17, 18, 19, 20, 21, 22] rfl rfl (by decide) (by decide) (va_runV (As := [.int x_2, .int x_4]) (rest := []) ⟨hx, hb, hml, hown, hts⟩ (c0_X7_open l dC dI cy _ h0 h1 h2 h3 h4 h5 h6 x_2 x_4) (cwV 2 hts gL_law_X7_open rfl rfl rfl (by decide +kernel) ⟨Nat.le_of_ble_eq_true rfl, Nat.le_of_ble_eq_true rfl⟩) (ex_preV hE hK hP hD [0, 1] (by decide) rfl (ci := 7) (q0 := 0) rfl rfl) rfl rfl hl.1 rfl (lv_room (Nat.le_of_ble_eq_true rfl)) dL_law_288 ⟨Nat.le_of_ble_eq_true rfl, Nat.le_of_ble_eq_true rfl⟩) (fun r_5 u_5 H locs hw_5 hP hD hS => ?_)
  have hP : va_P (dC, dI) vwCl [(h4, .inl (cy 1, 8, .inr (.inr (.inr (.inr f))))), (p9, .inr (3, [.int 0, .int 0])), (h5, .inl (cy 2, 4, .inr (.inr (.inr (.inr g))))), (m9, .inr (2, [.int 0, .int 0, .int 0])), (h2, .inr (4, [.int 0, .int 0, .int 0, .ref q1, .ref q2, .ref q3, .ref q4, .ref q5, .ref q6, .ref q7, .ref q8])), (q1, .inl (cy 0, 4, .inl (fun _ => 0))), (q2, .inl (cy 0, 4, .inl (fun _ => 0))), (q3, .inl (cy 0, 4, .inl (fun _ => 0))), (q4, .inl (cy 0, 4, .inl (fun _ => 0))), (q5, .inl (cy 0, 4, .inl (fun _ => 0))), (q6, .inl (cy 0, 4, .inl (fun _ => 0))), (q7, .inl (cy 0, 3, .inl (fun _ => 0))), (q8, .inl (cy 0, 3, .inl (fun _ => 0))), (g0, .inr (8, [.ref g1, .ref g2, .int 0, .int 1, .ref g3, .int 0, .ref g4, .ref g5, .ref g6, .int 0, .ref g7])), (g1, .inl (cy 0, 596, .inl (fun _ => 0))), (g2, .inl (cy 0, 596, .inl (fun _ => 0))), (g3, .inl (cy 0, 6, .inl (fun _ => 0))), (g4, .inl (cy 0, 4, .inl (fun _ => 0))), (g5, .inl (cy 0, 5, .inl (fun _ => 0))), (g6, .inl (cy 0, 4, .inl (fun _ => 0))), (g7, .inl (cy 0, 6, .inl (fun _ => 0)))] H := hP
  have hD : va_D (fun q : Nat => s.heap.size ≤ q) [(h4, .inl (cy 1, 8, .inr (.inr (.inr (.inr f))))), (p9, .inr (3, [.int 0, .int 0])), (h5, .inl (cy 2, 4, .inr (.inr (.inr (.inr g))))), (m9, .inr (2, [.int 0, .int 0, .int 0])), (h2, .inr (4, [.int 0, .int 0, .int 0, .ref q1, .ref q2, .ref q3, .ref q4, .ref q5, .ref q6, .ref q7, .ref q8])), (q1, .inl (cy 0, 4, .inl (fun _ => 0))), (q2, .inl (cy 0, 4, .inl (fun _ => 0))), (q3, .inl (cy 0, 4, .inl (fun _ => 0))), (q4, .inl (cy 0, 4, .inl (fun _ => 0))), (q5, .inl (cy 0, 4, .inl (fun _ => 0))), (q6, .inl (cy 0, 4, .inl (fun _ => 0))), (q7, .inl (cy 0, 3, .inl (fun _ => 0))), (q8, .inl (cy 0, 3, .inl (fun _ => 0))), (g0, .inr (8, [.ref g1, .ref g2, .int 0, .int 1, .ref g3, .int 0, .ref g4, .ref g5, .ref g6, .int 0, .ref g7])), (g1, .inl (cy 0, 596, .inl (fun _ => 0))), (g2, .inl (cy 0, 596, .inl (fun _ => 0))), (g3, .inl (cy 0, 6, .inl (fun _ => 0))), (g4, .inl (cy 0, 4, .inl (fun _ => 0))), (g5, .inl (cy 0, 5, .inl (fun _ => 0))), (g6, .inl (cy 0, 4, .inl (fun _ => 0))), (g7, .inl (cy 0, 6, .inl (fun _ => 0)))] := hD
  refine lv_aload_n hx hb dL_law_291 rfl (lv_at hl 1 rfl) ?_
  refine lv_aload_n hx hb dL_law_292 rfl (lv_at hl 3 rfl) ?_
  refine lv_iload_n hx hb dL_law_293 rfl (lv_at hl 0 rfl) ?_
  refine lv_iconst (v := 1) hx hb dL_law_294 (by decide) ?_
  refine lv_iadd hx hb dL_law_295 ?_
  refine lv_topi (fun x_6 ex_6 => ?_)
  obtain rfl : x_6 = 1 := ex_6.trans (by decide)
  refine va_sld hx hb hX hbl hbA hS (by unfold vp_in; decide) dL_law_296 ?_
  refine lv_topi (fun x_7 ex_7 => ?_)
  rw [← ex_2] at ex_7; replace ex_7 := ex_7.symm; subst ex_7
  refine lv_aload_n hx hb dL_law_297 rfl (lv_at hl 3 rfl) ?_
  refine lv_iload_n hx hb dL_law_298 rfl (lv_at hl 0 rfl) ?_
  refine lv_iconst (v := 2) hx hb dL_law_299 (by decide) ?_
  refine lv_iadd hx hb dL_law_300 ?_
  refine lv_topi (fun x_8 ex_8 => ?_)
  obtain rfl : x_8 = 2 := ex_8.trans (by decide)
  refine va_sld hx hb hX hbl hbA hS (by unfold vp_in; decide) dL_law_301 ?_
  refine lv_topi (fun x_9 ex_9 => ?_)
  rw [← ex_4] at ex_9; replace ex_9 := ex_9.symm; subst ex_9
  refine yc_i (wc := [(g0, .inr (8, [.ref g1, .ref g2, .int 0, .int 1, .ref g3, .int 0, .ref g4, .ref g5, .ref g6, .int 0, .ref g7])), (g1, .inl (cy 0, 596, .inl (fun _ => 0)))]) (wr := [(h4, .inl (cy 1, 8, .inr (.inr (.inr (.inr f))))), (p9, .inr (3, [.int 0, .int 0])), (h5, .inl (cy 2, 4, .inr (.inr (.inr (.inr g))))), (m9, .inr (2, [.int 0, .int 0, .int 0])), (h2, .inr (4, [.int 0, .int 0, .int 0, .ref q1, .ref q2, .ref q3, .ref q4, .ref q5, .ref q6, .ref q7, .ref q8])), (q1, .inl (cy 0, 4, .inl (fun _ => 0))), (q2, .inl (cy 0, 4, .inl (fun _ => 0))), (q3, .inl (cy 0, 4, .inl (fun _ => 0))), (q4, .inl (cy 0, 4, .inl (fun _ => 0))), (q5, .inl (cy 0, 4, .inl (fun _ => 0))), (q6, .inl (cy 0, 4, .inl (fun _ => 0))), (q7, .inl (cy 0, 3, .inl (fun _ => 0))), (q8, .inl (cy 0, 3, .inl (fun _ => 0))), (g2, .inl (cy 0, 596, .inl (fun _ => 0))), (g3, .inl (cy 0, 6, .inl (fun _ => 0))), (g4, .inl (cy 0, 4, .inl (fun _ => 0))), (g5, .inl (cy 0, 5, .inl (fun _ => 0))), (g6, .inl (cy 0, 4, .inl (fun _ => 0))), (g7, .inl (cy 0, 6, .inl (fun _ => 0)))]) (w1 := fun _ => []) hP hD hS hA [13, 14] [0, 1, 2, 3, 4, 5, 6, 7, 8, 9, 10, 11, 12, 15, 16, 17, 18, 19, 20] rfl rfl (by decide) (by decide) (va_runV (As := [.int x_2, .int x_4]) (rest := [.int r_5]) ⟨hx, hb, hml, hown, hts⟩ (c0_X8_open l dC dI cy _ g0 g1 g2 g3 g4 g5 g6 g7 x_2 x_4) (cwV 2 hts gL_law_X8_open rfl rfl rfl (by decide +kernel) ⟨Nat.le_of_ble_eq_true rfl, Nat.le_of_ble_eq_true rfl⟩) (ex_preV hE hK hP hD [13, 14] (by decide) rfl (ci := 8) (q0 := 13) rfl rfl) rfl rfl hl.1 rfl (lv_room (Nat.le_of_ble_eq_true rfl)) dL_law_302 ⟨Nat.le_of_ble_eq_true rfl, Nat.le_of_ble_eq_true rfl⟩) (fun r_10 u_10 H locs hw_10 hP hD hS => ?_)
  have hP : va_P (dC, dI) vwCl [(h4, .inl (cy 1, 8, .inr (.inr (.inr (.inr f))))), (p9, .inr (3, [.int 0, .int 0])), (h5, .inl (cy 2, 4, .inr (.inr (.inr (.inr g))))), (m9, .inr (2, [.int 0, .int 0, .int 0])), (h2, .inr (4, [.int 0, .int 0, .int 0, .ref q1, .ref q2, .ref q3, .ref q4, .ref q5, .ref q6, .ref q7, .ref q8])), (q1, .inl (cy 0, 4, .inl (fun _ => 0))), (q2, .inl (cy 0, 4, .inl (fun _ => 0))), (q3, .inl (cy 0, 4, .inl (fun _ => 0))), (q4, .inl (cy 0, 4, .inl (fun _ => 0))), (q5, .inl (cy 0, 4, .inl (fun _ => 0))), (q6, .inl (cy 0, 4, .inl (fun _ => 0))), (q7, .inl (cy 0, 3, .inl (fun _ => 0))), (q8, .inl (cy 0, 3, .inl (fun _ => 0))), (g2, .inl (cy 0, 596, .inl (fun _ => 0))), (g3, .inl (cy 0, 6, .inl (fun _ => 0))), (g4, .inl (cy 0, 4, .inl (fun _ => 0))), (g5, .inl (cy 0, 5, .inl (fun _ => 0))), (g6, .inl (cy 0, 4, .inl (fun _ => 0))), (g7, .inl (cy 0, 6, .inl (fun _ => 0)))] H := hP
  have hD : va_D (fun q : Nat => s.heap.size ≤ q) [(h4, .inl (cy 1, 8, .inr (.inr (.inr (.inr f))))), (p9, .inr (3, [.int 0, .int 0])), (h5, .inl (cy 2, 4, .inr (.inr (.inr (.inr g))))), (m9, .inr (2, [.int 0, .int 0, .int 0])), (h2, .inr (4, [.int 0, .int 0, .int 0, .ref q1, .ref q2, .ref q3, .ref q4, .ref q5, .ref q6, .ref q7, .ref q8])), (q1, .inl (cy 0, 4, .inl (fun _ => 0))), (q2, .inl (cy 0, 4, .inl (fun _ => 0))), (q3, .inl (cy 0, 4, .inl (fun _ => 0))), (q4, .inl (cy 0, 4, .inl (fun _ => 0))), (q5, .inl (cy 0, 4, .inl (fun _ => 0))), (q6, .inl (cy 0, 4, .inl (fun _ => 0))), (q7, .inl (cy 0, 3, .inl (fun _ => 0))), (q8, .inl (cy 0, 3, .inl (fun _ => 0))), (g2, .inl (cy 0, 596, .inl (fun _ => 0))), (g3, .inl (cy 0, 6, .inl (fun _ => 0))), (g4, .inl (cy 0, 4, .inl (fun _ => 0))), (g5, .inl (cy 0, 5, .inl (fun _ => 0))), (g6, .inl (cy 0, 4, .inl (fun _ => 0))), (g7, .inl (cy 0, 6, .inl (fun _ => 0)))] := hD
  refine lv_icmp_eq (tgt := 1060) hx hb dL_law_305 (by decide) (fun _ => ?_) (fun c9 => absurd (hw_5.trans hw_10.symm) c9)
  exact law_end C0 (Nat.le_of_ble_eq_true rfl) (Nat.le_of_ble_eq_true rfl) hS ls (lv_sub hl [0, 3] rfl)

set_option maxHeartbeats 4000000 in
set_option maxRecDepth 100000 in
/-- the case of close -/
theorem lc_4 {p : Program} {l : Launch} {e : Env} {s : State} {m : MethodId} {below : List Frame} {meth : Method} {c : Code} {dC : Nat → ClassId} {dI : Nat → Nat → Nat} {cy : Nat → ClassId} {b : Nat} {xs : Nat → Int32} (C0 : lw_At p s m meth c b 7 xs) (h0 h1 h2 h3 h4 h5 h6 p9 m9 q1 q2 q3 q4 q5 q6 q7 q8 g0 g1 g2 g3 g4 g5 g6 g7 t0 : Nat) (f g : Nat → Option Nat) (hf : f 0 = some p9) (hg : g 0 = some m9) (hSt : ex_St t0 (fun q : Nat => s.heap.size ≤ q) s) (hE : ex_K s) (hK : va_K (dC, dI) vwCl (ty_L cy) s) {H : Heap} {locs : List Loc} (hP : va_P (dC, dI) vwCl [(h0, .inr (7, [.ref h1, .ref h2, .ref h3, .null, .int 1])), (h1, .inr (1, [.int 0, .int 0, .int 0, .int 0, .ref h4, .ref h5, .ref h6])), (h4, .inl (cy 1, 8, .inr (.inr (.inr (.inr f))))), (p9, .inr (3, [.int 0, .int 0])), (h5, .inl (cy 2, 4, .inr (.inr (.inr (.inr g))))), (m9, .inr (2, [.int 0, .int 0, .int 0])), (h2, .inr (4, [.int 0, .int 0, .int 0, .ref q1, .ref q2, .ref q3, .ref q4, .ref q5, .ref q6, .ref q7, .ref q8])), (q1, .inl (cy 0, 4, .inl (fun _ => 0))), (q2, .inl (cy 0, 4, .inl (fun _ => 0))), (q3, .inl (cy 0, 4, .inl (fun _ => 0))), (q4, .inl (cy 0, 4, .inl (fun _ => 0))), (q5, .inl (cy 0, 4, .inl (fun _ => 0))), (q6, .inl (cy 0, 4, .inl (fun _ => 0))), (q7, .inl (cy 0, 3, .inl (fun _ => 0))), (q8, .inl (cy 0, 3, .inl (fun _ => 0))), (g0, .inr (8, [.ref g1, .ref g2, .int 0, .int 1, .ref g3, .int 0, .ref g4, .ref g5, .ref g6, .int 0, .ref g7])), (g1, .inl (cy 0, 596, .inl (fun _ => 0))), (g2, .inl (cy 0, 596, .inl (fun _ => 0))), (g3, .inl (cy 0, 6, .inl (fun _ => 0))), (g4, .inl (cy 0, 4, .inl (fun _ => 0))), (g5, .inl (cy 0, 5, .inl (fun _ => 0))), (g6, .inl (cy 0, 4, .inl (fun _ => 0))), (g7, .inl (cy 0, 6, .inl (fun _ => 0)))] H) (hD : va_D (fun q : Nat => s.heap.size ≤ q) [(h0, .inr (7, [.ref h1, .ref h2, .ref h3, .null, .int 1])), (h1, .inr (1, [.int 0, .int 0, .int 0, .int 0, .ref h4, .ref h5, .ref h6])), (h4, .inl (cy 1, 8, .inr (.inr (.inr (.inr f))))), (p9, .inr (3, [.int 0, .int 0])), (h5, .inl (cy 2, 4, .inr (.inr (.inr (.inr g))))), (m9, .inr (2, [.int 0, .int 0, .int 0])), (h2, .inr (4, [.int 0, .int 0, .int 0, .ref q1, .ref q2, .ref q3, .ref q4, .ref q5, .ref q6, .ref q7, .ref q8])), (q1, .inl (cy 0, 4, .inl (fun _ => 0))), (q2, .inl (cy 0, 4, .inl (fun _ => 0))), (q3, .inl (cy 0, 4, .inl (fun _ => 0))), (q4, .inl (cy 0, 4, .inl (fun _ => 0))), (q5, .inl (cy 0, 4, .inl (fun _ => 0))), (q6, .inl (cy 0, 4, .inl (fun _ => 0))), (q7, .inl (cy 0, 3, .inl (fun _ => 0))), (q8, .inl (cy 0, 3, .inl (fun _ => 0))), (g0, .inr (8, [.ref g1, .ref g2, .int 0, .int 1, .ref g3, .int 0, .ref g4, .ref g5, .ref g6, .int 0, .ref g7])), (g1, .inl (cy 0, 596, .inl (fun _ => 0))), (g2, .inl (cy 0, 596, .inl (fun _ => 0))), (g3, .inl (cy 0, 6, .inl (fun _ => 0))), (g4, .inl (cy 0, 4, .inl (fun _ => 0))), (g5, .inl (cy 0, 5, .inl (fun _ => 0))), (g6, .inl (cy 0, 4, .inl (fun _ => 0))), (g7, .inl (cy 0, 6, .inl (fun _ => 0)))]) (hS : va_S (fun q : Nat => s.heap.size ≤ q) s.heap H locs) (ls : Array Slot) (hl : lv_has ls 4 [(3, .int 0), (2, .ref g0), (1, .ref h0), (0, .ref b)]) : W p l e room_1 s m #[Value.ref b] below meth c H locs 127 1982 (lw_Z below #[Value.ref b] s) (F0 m 310 ls []) := by
  obtain ⟨hx, hb, hr, hml, hown, hts0, hX, hbl, hlocks, hgv⟩ := id C0
  have hts : ∀ w ∈ wsL_law, w.before #[Value.ref b] s = true := fun w h => hts0 w (wsL_law_in w h)
  have hown : s.vm.findClass RL = some m.cls := hown
  have hA : ∀ q : Nat, s.heap.size ≤ q → (fun q : Nat => s.heap.size ≤ q) q := fun _ h => h
  have hbA : ¬ (fun q : Nat => s.heap.size ≤ q) b := Nat.not_le.mpr hbl
  refine lv_aload_n hx hb dL_law_310 rfl (lv_at hl 2 rfl) ?_
  refine lv_aload_n hx hb dL_law_311 rfl (lv_at hl 3 rfl) ?_
  refine lv_iload_n hx hb dL_law_312 rfl (lv_at hl 0 rfl) ?_
  refine lv_iconst (v := 1) hx hb dL_law_313 (by decide) ?_
  refine lv_iadd hx hb dL_law_314 ?_
  refine lv_topi (fun x_1 ex_1 => ?_)
  obtain rfl : x_1 = 1 := ex_1.trans (by decide)
  refine va_sld hx hb hX hbl hbA hS (by unfold vp_in; decide) dL_law_315 ?_
  refine lv_topi (fun x_2 ex_2 => ?_)
  refine yc_i (wc := [(h0, .inr (7, [.ref h1, .ref h2, .ref h3, .null, .int 1])), (h1, .inr (1, [.int 0, .int 0, .int 0, .int 0, .ref h4, .ref h5, .ref h6]))]) (wr := [(h4, .inl (cy 1, 8, .inr (.inr (.inr (.inr f))))), (p9, .inr (3, [.int 0, .int 0])), (h5, .inl (cy 2, 4, .inr (.inr (.inr (.inr g))))), (m9, .inr (2, [.int 0, .int 0, .int 0])), (h2, .inr (4, [.int 0, .int 0, .int 0, .ref q1, .ref q2, .ref q3, .ref q4, .ref q5, .ref q6, .ref q7, .ref q8])), (q1, .inl (cy 0, 4, .inl (fun _ => 0))), (q2, .inl (cy 0, 4, .inl (fun _ => 0))), (q3, .inl (cy 0, 4, .inl (fun _ => 0))), (q4, .inl (cy 0, 4, .inl (fun _ => 0))), (q5, .inl (cy 0, 4, .inl (fun _ => 0))), (q6, .inl (cy 0, 4, .inl (fun _ => 0))), (q7, .inl (cy 0, 3, .inl (fun _ => 0))), (q8, .inl (cy 0, 3, .inl (fun _ => 0))), (g0, .inr (8, [.ref g1, .ref g2, .int 0, .int 1, .ref g3, .int 0, .ref g4, .ref g5, .ref g6, .int 0, .ref g7])), (g1, .inl (cy 0, 596, .inl (fun _ => 0))), (g2, .inl (cy 0, 596, .inl (fun _ => 0))), (g3, .inl (cy 0, 6, .inl (fun _ => 0))), (g4, .inl (cy 0, 4, .inl (fun _ => 0))), (g5, .inl (cy 0, 5, .inl (fun _ => 0))), (g6, .inl (cy 0, 4, .inl (fun _ => 0))), (g7, .inl (cy 0, 6, .inl (fun _ => 0)))]) (w1 := fun _ => []) hP hD hS hA [0, 1] [2, 3, 4, 5, 6, 7, 8, 9, 10, 11, 12, 13, 14, 15, 16, 17, 18, 19, 20, 21, 22] rfl rfl (by decide) (by decide) (va_runV (As := [.int x_2]) (rest := []) ⟨hx, hb, hml, hown, hts⟩ (c0_X7_close l dC dI cy _ h0 h1 h2 h3 h4 h5 h6 x_2) (cwV 1 hts gL_law_X7_close rfl rfl rfl (by decide +kernel) ⟨Nat.le_of_ble_eq_true rfl, Nat.le_of_ble_eq_true rfl⟩) (ex_preV hE hK hP hD [0, 1] (by decide) rfl (ci := 7) (q0 := 0) rfl rfl) rfl rfl hl.1 rfl (lv_room (Nat.le_of_ble_eq_true rfl)) dL_law_316 ⟨Nat.le_of_ble_eq_true rfl, Nat.le_of_ble_eq_true rfl⟩) (fun r_3 u_3 H locs hw_3 hP hD hS => ?_)
  have hP : va_P (dC, dI) vwCl [(h4, .inl (cy 1, 8, .inr (.inr (.inr (.inr f))))), (p9, .inr (3, [.int 0, .int 0])), (h5, .inl (cy 2, 4, .inr (.inr (.inr (.inr g))))), (m9, .inr (2, [.int 0, .int 0, .int 0])), (h2, .inr (4, [.int 0, .int 0, .int 0, .ref q1, .ref q2, .ref q3, .ref q4, .ref q5, .ref q6, .ref q7, .ref q8])), (q1, .inl (cy 0, 4, .inl (fun _ => 0))), (q2, .inl (cy 0, 4, .inl (fun _ => 0))), (q3, .inl (cy 0, 4, .inl (fun _ => 0))), (q4, .inl (cy 0, 4, .inl (fun _ => 0))), (q5, .inl (cy 0, 4, .inl (fun _ => 0))), (q6, .inl (cy 0, 4, .inl (fun _ => 0))), (q7, .inl (cy 0, 3, .inl (fun _ => 0))), (q8, .inl (cy 0, 3, .inl (fun _ => 0))), (g0, .inr (8, [.ref g1, .ref g2, .int 0, .int 1, .ref g3, .int 0, .ref g4, .ref g5, .ref g6, .int 0, .ref g7])), (g1, .inl (cy 0, 596, .inl (fun _ => 0))), (g2, .inl (cy 0, 596, .inl (fun _ => 0))), (g3, .inl (cy 0, 6, .inl (fun _ => 0))), (g4, .inl (cy 0, 4, .inl (fun _ => 0))), (g5, .inl (cy 0, 5, .inl (fun _ => 0))), (g6, .inl (cy 0, 4, .inl (fun _ => 0))), (g7, .inl (cy 0, 6, .inl (fun _ => 0)))] H := hP
  have hD : va_D (fun q : Nat => s.heap.size ≤ q) [(h4, .inl (cy 1, 8, .inr (.inr (.inr (.inr f))))), (p9, .inr (3, [.int 0, .int 0])), (h5, .inl (cy 2, 4, .inr (.inr (.inr (.inr g))))), (m9, .inr (2, [.int 0, .int 0, .int 0])), (h2, .inr (4, [.int 0, .int 0, .int 0, .ref q1, .ref q2, .ref q3, .ref q4, .ref q5, .ref q6, .ref q7, .ref q8])), (q1, .inl (cy 0, 4, .inl (fun _ => 0))), (q2, .inl (cy 0, 4, .inl (fun _ => 0))), (q3, .inl (cy 0, 4, .inl (fun _ => 0))), (q4, .inl (cy 0, 4, .inl (fun _ => 0))), (q5, .inl (cy 0, 4, .inl (fun _ => 0))), (q6, .inl (cy 0, 4, .inl (fun _ => 0))), (q7, .inl (cy 0, 3, .inl (fun _ => 0))), (q8, .inl (cy 0, 3, .inl (fun _ => 0))), (g0, .inr (8, [.ref g1, .ref g2, .int 0, .int 1, .ref g3, .int 0, .ref g4, .ref g5, .ref g6, .int 0, .ref g7])), (g1, .inl (cy 0, 596, .inl (fun _ => 0))), (g2, .inl (cy 0, 596, .inl (fun _ => 0))), (g3, .inl (cy 0, 6, .inl (fun _ => 0))), (g4, .inl (cy 0, 4, .inl (fun _ => 0))), (g5, .inl (cy 0, 5, .inl (fun _ => 0))), (g6, .inl (cy 0, 4, .inl (fun _ => 0))), (g7, .inl (cy 0, 6, .inl (fun _ => 0)))] := hD
  refine lv_aload_n hx hb dL_law_319 rfl (lv_at hl 1 rfl) ?_
  refine lv_aload_n hx hb dL_law_320 rfl (lv_at hl 3 rfl) ?_
  refine lv_iload_n hx hb dL_law_321 rfl (lv_at hl 0 rfl) ?_
  refine lv_iconst (v := 1) hx hb dL_law_322 (by decide) ?_
  refine lv_iadd hx hb dL_law_323 ?_
  refine lv_topi (fun x_4 ex_4 => ?_)
  obtain rfl : x_4 = 1 := ex_4.trans (by decide)
  refine va_sld hx hb hX hbl hbA hS (by unfold vp_in; decide) dL_law_324 ?_
  refine lv_topi (fun x_5 ex_5 => ?_)
  rw [← ex_2] at ex_5; replace ex_5 := ex_5.symm; subst ex_5
  refine yc_i (wc := [(g0, .inr (8, [.ref g1, .ref g2, .int 0, .int 1, .ref g3, .int 0, .ref g4, .ref g5, .ref g6, .int 0, .ref g7])), (g1, .inl (cy 0, 596, .inl (fun _ => 0)))]) (wr := [(h4, .inl (cy 1, 8, .inr (.inr (.inr (.inr f))))), (p9, .inr (3, [.int 0, .int 0])), (h5, .inl (cy 2, 4, .inr (.inr (.inr (.inr g))))), (m9, .inr (2, [.int 0, .int 0, .int 0])), (h2, .inr (4, [.int 0, .int 0, .int 0, .ref q1, .ref q2, .ref q3, .ref q4, .ref q5, .ref q6, .ref q7, .ref q8])), (q1, .inl (cy 0, 4, .inl (fun _ => 0))), (q2, .inl (cy 0, 4, .inl (fun _ => 0))), (q3, .inl (cy 0, 4, .inl (fun _ => 0))), (q4, .inl (cy 0, 4, .inl (fun _ => 0))), (q5, .inl (cy 0, 4, .inl (fun _ => 0))), (q6, .inl (cy 0, 4, .inl (fun _ => 0))), (q7, .inl (cy 0, 3, .inl (fun _ => 0))), (q8, .inl (cy 0, 3, .inl (fun _ => 0))), (g2, .inl (cy 0, 596, .inl (fun _ => 0))), (g3, .inl (cy 0, 6, .inl (fun _ => 0))), (g4, .inl (cy 0, 4, .inl (fun _ => 0))), (g5, .inl (cy 0, 5, .inl (fun _ => 0))), (g6, .inl (cy 0, 4, .inl (fun _ => 0))), (g7, .inl (cy 0, 6, .inl (fun _ => 0)))]) (w1 := fun _ => []) hP hD hS hA [13, 14] [0, 1, 2, 3, 4, 5, 6, 7, 8, 9, 10, 11, 12, 15, 16, 17, 18, 19, 20] rfl rfl (by decide) (by decide) (va_runV (As := [.int x_2]) (rest := [.int r_3]) ⟨hx, hb, hml, hown, hts⟩ (c0_X8_close l dC dI cy _ g0 g1 g2 g3 g4 g5 g6 g7 x_2) (cwV 1 hts gL_law_X8_close rfl rfl rfl (by decide +kernel) ⟨Nat.le_of_ble_eq_true rfl, Nat.le_of_ble_eq_true rfl⟩) (ex_preV hE hK hP hD [13, 14] (by decide) rfl (ci := 8) (q0 := 13) rfl rfl) rfl rfl hl.1 rfl (lv_room (Nat.le_of_ble_eq_true rfl)) dL_law_325 ⟨Nat.le_of_ble_eq_true rfl, Nat.le_of_ble_eq_true rfl⟩) (fun r_6 u_6 H locs hw_6 hP hD hS => ?_)
  have hP : va_P (dC, dI) vwCl [(h4, .inl (cy 1, 8, .inr (.inr (.inr (.inr f))))), (p9, .inr (3, [.int 0, .int 0])), (h5, .inl (cy 2, 4, .inr (.inr (.inr (.inr g))))), (m9, .inr (2, [.int 0, .int 0, .int 0])), (h2, .inr (4, [.int 0, .int 0, .int 0, .ref q1, .ref q2, .ref q3, .ref q4, .ref q5, .ref q6, .ref q7, .ref q8])), (q1, .inl (cy 0, 4, .inl (fun _ => 0))), (q2, .inl (cy 0, 4, .inl (fun _ => 0))), (q3, .inl (cy 0, 4, .inl (fun _ => 0))), (q4, .inl (cy 0, 4, .inl (fun _ => 0))), (q5, .inl (cy 0, 4, .inl (fun _ => 0))), (q6, .inl (cy 0, 4, .inl (fun _ => 0))), (q7, .inl (cy 0, 3, .inl (fun _ => 0))), (q8, .inl (cy 0, 3, .inl (fun _ => 0))), (g2, .inl (cy 0, 596, .inl (fun _ => 0))), (g3, .inl (cy 0, 6, .inl (fun _ => 0))), (g4, .inl (cy 0, 4, .inl (fun _ => 0))), (g5, .inl (cy 0, 5, .inl (fun _ => 0))), (g6, .inl (cy 0, 4, .inl (fun _ => 0))), (g7, .inl (cy 0, 6, .inl (fun _ => 0)))] H := hP
  have hD : va_D (fun q : Nat => s.heap.size ≤ q) [(h4, .inl (cy 1, 8, .inr (.inr (.inr (.inr f))))), (p9, .inr (3, [.int 0, .int 0])), (h5, .inl (cy 2, 4, .inr (.inr (.inr (.inr g))))), (m9, .inr (2, [.int 0, .int 0, .int 0])), (h2, .inr (4, [.int 0, .int 0, .int 0, .ref q1, .ref q2, .ref q3, .ref q4, .ref q5, .ref q6, .ref q7, .ref q8])), (q1, .inl (cy 0, 4, .inl (fun _ => 0))), (q2, .inl (cy 0, 4, .inl (fun _ => 0))), (q3, .inl (cy 0, 4, .inl (fun _ => 0))), (q4, .inl (cy 0, 4, .inl (fun _ => 0))), (q5, .inl (cy 0, 4, .inl (fun _ => 0))), (q6, .inl (cy 0, 4, .inl (fun _ => 0))), (q7, .inl (cy 0, 3, .inl (fun _ => 0))), (q8, .inl (cy 0, 3, .inl (fun _ => 0))), (g2, .inl (cy 0, 596, .inl (fun _ => 0))), (g3, .inl (cy 0, 6, .inl (fun _ => 0))), (g4, .inl (cy 0, 4, .inl (fun _ => 0))), (g5, .inl (cy 0, 5, .inl (fun _ => 0))), (g6, .inl (cy 0, 4, .inl (fun _ => 0))), (g7, .inl (cy 0, 6, .inl (fun _ => 0)))] := hD
  refine lv_icmp_eq (tgt := 1060) hx hb dL_law_328 (by decide) (fun _ => ?_) (fun c9 => absurd (hw_3.trans hw_6.symm) c9)
  exact law_end C0 (Nat.le_of_ble_eq_true rfl) (Nat.le_of_ble_eq_true rfl) hS ls (lv_sub hl [0, 3] rfl)

set_option maxHeartbeats 4000000 in
set_option maxRecDepth 100000 in
/-- the case of weight -/
theorem lc_5 {p : Program} {l : Launch} {e : Env} {s : State} {m : MethodId} {below : List Frame} {meth : Method} {c : Code} {dC : Nat → ClassId} {dI : Nat → Nat → Nat} {cy : Nat → ClassId} {b : Nat} {xs : Nat → Int32} (C0 : lw_At p s m meth c b 7 xs) (h0 h1 h2 h3 h4 h5 h6 p9 m9 q1 q2 q3 q4 q5 q6 q7 q8 g0 g1 g2 g3 g4 g5 g6 g7 t0 : Nat) (f g : Nat → Option Nat) (hf : f 0 = some p9) (hg : g 0 = some m9) (hSt : ex_St t0 (fun q : Nat => s.heap.size ≤ q) s) (hE : ex_K s) (hK : va_K (dC, dI) vwCl (ty_L cy) s) {H : Heap} {locs : List Loc} (hP : va_P (dC, dI) vwCl [(h0, .inr (7, [.ref h1, .ref h2, .ref h3, .null, .int 1])), (h1, .inr (1, [.int 0, .int 0, .int 0, .int 0, .ref h4, .ref h5, .ref h6])), (h4, .inl (cy 1, 8, .inr (.inr (.inr (.inr f))))), (p9, .inr (3, [.int 0, .int 0])), (h5, .inl (cy 2, 4, .inr (.inr (.inr (.inr g))))), (m9, .inr (2, [.int 0, .int 0, .int 0])), (h2, .inr (4, [.int 0, .int 0, .int 0, .ref q1, .ref q2, .ref q3, .ref q4, .ref q5, .ref q6, .ref q7, .ref q8])), (q1, .inl (cy 0, 4, .inl (fun _ => 0))), (q2, .inl (cy 0, 4, .inl (fun _ => 0))), (q3, .inl (cy 0, 4, .inl (fun _ => 0))), (q4, .inl (cy 0, 4, .inl (fun _ => 0))), (q5, .inl (cy 0, 4, .inl (fun _ => 0))), (q6, .inl (cy 0, 4, .inl (fun _ => 0))), (q7, .inl (cy 0, 3, .inl (fun _ => 0))), (q8, .inl (cy 0, 3, .inl (fun _ => 0))), (g0, .inr (8, [.ref g1, .ref g2, .int 0, .int 1, .ref g3, .int 0, .ref g4, .ref g5, .ref g6, .int 0, .ref g7])), (g1, .inl (cy 0, 596, .inl (fun _ => 0))), (g2, .inl (cy 0, 596, .inl (fun _ => 0))), (g3, .inl (cy 0, 6, .inl (fun _ => 0))), (g4, .inl (cy 0, 4, .inl (fun _ => 0))), (g5, .inl (cy 0, 5, .inl (fun _ => 0))), (g6, .inl (cy 0, 4, .inl (fun _ => 0))), (g7, .inl (cy 0, 6, .inl (fun _ => 0)))] H) (hD : va_D (fun q : Nat => s.heap.size ≤ q) [(h0, .inr (7, [.ref h1, .ref h2, .ref h3, .null, .int 1])), (h1, .inr (1, [.int 0, .int 0, .int 0, .int 0, .ref h4, .ref h5, .ref h6])), (h4, .inl (cy 1, 8, .inr (.inr (.inr (.inr f))))), (p9, .inr (3, [.int 0, .int 0])), (h5, .inl (cy 2, 4, .inr (.inr (.inr (.inr g))))), (m9, .inr (2, [.int 0, .int 0, .int 0])), (h2, .inr (4, [.int 0, .int 0, .int 0, .ref q1, .ref q2, .ref q3, .ref q4, .ref q5, .ref q6, .ref q7, .ref q8])), (q1, .inl (cy 0, 4, .inl (fun _ => 0))), (q2, .inl (cy 0, 4, .inl (fun _ => 0))), (q3, .inl (cy 0, 4, .inl (fun _ => 0))), (q4, .inl (cy 0, 4, .inl (fun _ => 0))), (q5, .inl (cy 0, 4, .inl (fun _ => 0))), (q6, .inl (cy 0, 4, .inl (fun _ => 0))), (q7, .inl (cy 0, 3, .inl (fun _ => 0))), (q8, .inl (cy 0, 3, .inl (fun _ => 0))), (g0, .inr (8, [.ref g1, .ref g2, .int 0, .int 1, .ref g3, .int 0, .ref g4, .ref g5, .ref g6, .int 0, .ref g7])), (g1, .inl (cy 0, 596, .inl (fun _ => 0))), (g2, .inl (cy 0, 596, .inl (fun _ => 0))), (g3, .inl (cy 0, 6, .inl (fun _ => 0))), (g4, .inl (cy 0, 4, .inl (fun _ => 0))), (g5, .inl (cy 0, 5, .inl (fun _ => 0))), (g6, .inl (cy 0, 4, .inl (fun _ => 0))), (g7, .inl (cy 0, 6, .inl (fun _ => 0)))]) (hS : va_S (fun q : Nat => s.heap.size ≤ q) s.heap H locs) (ls : Array Slot) (hl : lv_has ls 4 [(3, .int 0), (2, .ref g0), (1, .ref h0), (0, .ref b)]) : W p l e room_1 s m #[Value.ref b] below meth c H locs 127 1982 (lw_Z below #[Value.ref b] s) (F0 m 333 ls []) := by
  obtain ⟨hx, hb, hr, hml, hown, hts0, hX, hbl, hlocks, hgv⟩ := id C0
  have hts : ∀ w ∈ wsL_law, w.before #[Value.ref b] s = true := fun w h => hts0 w (wsL_law_in w h)
  have hown : s.vm.findClass RL = some m.cls := hown
  have hA : ∀ q : Nat, s.heap.size ≤ q → (fun q : Nat => s.heap.size ≤ q) q := fun _ h => h
  have hbA : ¬ (fun q : Nat => s.heap.size ≤ q) b := Nat.not_le.mpr hbl
  refine lv_aload_n hx hb dL_law_333 rfl (lv_at hl 2 rfl) ?_
  refine lv_aload_n hx hb dL_law_334 rfl (lv_at hl 3 rfl) ?_
  refine lv_iload_n hx hb dL_law_335 rfl (lv_at hl 0 rfl) ?_
  refine lv_iconst (v := 1) hx hb dL_law_336 (by decide) ?_
  refine lv_iadd hx hb dL_law_337 ?_
  refine lv_topi (fun x_1 ex_1 => ?_)
  obtain rfl : x_1 = 1 := ex_1.trans (by decide)
  refine va_sld hx hb hX hbl hbA hS (by unfold vp_in; decide) dL_law_338 ?_
  refine lv_topi (fun x_2 ex_2 => ?_)
  refine lv_aload_n hx hb dL_law_339 rfl (lv_at hl 3 rfl) ?_
  refine lv_iload_n hx hb dL_law_340 rfl (lv_at hl 0 rfl) ?_
  refine lv_iconst (v := 2) hx hb dL_law_341 (by decide) ?_
  refine lv_iadd hx hb dL_law_342 ?_
  refine lv_topi (fun x_3 ex_3 => ?_)
  obtain rfl : x_3 = 2 := ex_3.trans (by decide)
  refine va_sld hx hb hX hbl hbA hS (by unfold vp_in; decide) dL_law_343 ?_
  refine lv_topi (fun x_4 ex_4 => ?_)
  refine yc_i (wc := [(h0, .inr (7, [.ref h1, .ref h2, .ref h3, .null, .int 1])), (h1, .inr (1, [.int 0, .int 0, .int 0, .int 0, .ref h4, .ref h5, .ref h6]))]) (wr := [(h4, .inl (cy 1, 8, .inr (.inr (.inr (.inr f))))), (p9, .inr (3, [.int 0, .int 0])), (h5, .inl (cy 2, 4, .inr (.inr (.inr (.inr g))))), (m9, .inr (2, [.int 0, .int 0, .int 0])), (h2, .inr (4, [.int 0, .int 0, .int 0, .ref q1, .ref q2, .ref q3, .ref q4, .ref q5, .ref q6, .ref q7, .ref q8])), (q1, .inl (cy 0, 4, .inl (fun _ => 0))), (q2, .inl (cy 0, 4, .inl (fun _ => 0))), (q3, .inl (cy 0, 4, .inl (fun _ => 0))), (q4, .inl (cy 0, 4, .inl (fun _ => 0))), (q5, .inl (cy 0, 4, .inl (fun _ => 0))), (q6, .inl (cy 0, 4, .inl (fun _ => 0))), (q7, .inl (cy 0, 3, .inl (fun _ => 0))), (q8, .inl (cy 0, 3, .inl (fun _ => 0))), (g0, .inr (8, [.ref g1, .ref g2, .int 0, .int 1, .ref g3, .int 0, .ref g4, .ref g5, .ref g6, .int 0, .ref g7])), (g1, .inl (cy 0, 596, .inl (fun _ => 0))), (g2, .inl (cy 0, 596, .inl (fun _ => 0))), (g3, .inl (cy 0, 6, .inl (fun _ => 0))), (g4, .inl (cy 0, 4, .inl (fun _ => 0))), (g5, .inl (cy 0, 5, .inl (fun _ => 0))), (g6, .inl (cy 0, 4, .inl (fun _ => 0))), (g7, .inl (cy 0, 6, .inl (fun _ => 0)))]) (w1 := fun _ => []) hP hD hS hA [0, 1] [2, 3, 4, 5, 6, 7, 8, 9, 10, 11, 12, 13, 14, 15, 16, 17, 18, 19, 20, 21, 22] rfl rfl (by decide) (by decide) (va_runV (As := [.int x_2, .int x_4]) (rest := []) ⟨hx, hb, hml, hown, hts⟩ (c0_X7_weight l dC dI cy _ h0 h1 h2 h3 h4 h5 h6 x_2 x_4) (cwV 2 hts gL_law_X7_weight rfl rfl rfl (by decide +kernel) ⟨Nat.le_of_ble_eq_true rfl, Nat.le_of_ble_eq_true rfl⟩) (ex_preV hE hK hP hD [0, 1] (by decide) rfl (ci := 7) (q0 := 0) rfl rfl) rfl rfl hl.1 rfl (lv_room (Nat.le_of_ble_eq_true rfl)) dL_law_344 ⟨Nat.le_of_ble_eq_true rfl, Nat.le_of_ble_eq_true rfl⟩) (fun r_5 u_5 H locs hw_5 hP hD hS => ?_)
  have hP : va_P (dC, dI) vwCl [(h4, .inl (cy 1, 8, .inr (.inr (.inr (.inr f))))), (p9, .inr (3, [.int 0, .int 0])), (h5, .inl (cy 2, 4, .inr (.inr (.inr (.inr g))))), (m9, .inr (2, [.int 0, .int 0, .int 0])), (h2, .inr (4, [.int 0, .int 0, .int 0, .ref q1, .ref q2, .ref q3, .ref q4, .ref q5, .ref q6, .ref q7, .ref q8])), (q1, .inl (cy 0, 4, .inl (fun _ => 0))), (q2, .inl (cy 0, 4, .inl (fun _ => 0))), (q3, .inl (cy 0, 4, .inl (fun _ => 0))), (q4, .inl (cy 0, 4, .inl (fun _ => 0))), (q5, .inl (cy 0, 4, .inl (fun _ => 0))), (q6, .inl (cy 0, 4, .inl (fun _ => 0))), (q7, .inl (cy 0, 3, .inl (fun _ => 0))), (q8, .inl (cy 0, 3, .inl (fun _ => 0))), (g0, .inr (8, [.ref g1, .ref g2, .int 0, .int 1, .ref g3, .int 0, .ref g4, .ref g5, .ref g6, .int 0, .ref g7])), (g1, .inl (cy 0, 596, .inl (fun _ => 0))), (g2, .inl (cy 0, 596, .inl (fun _ => 0))), (g3, .inl (cy 0, 6, .inl (fun _ => 0))), (g4, .inl (cy 0, 4, .inl (fun _ => 0))), (g5, .inl (cy 0, 5, .inl (fun _ => 0))), (g6, .inl (cy 0, 4, .inl (fun _ => 0))), (g7, .inl (cy 0, 6, .inl (fun _ => 0)))] H := hP
  have hD : va_D (fun q : Nat => s.heap.size ≤ q) [(h4, .inl (cy 1, 8, .inr (.inr (.inr (.inr f))))), (p9, .inr (3, [.int 0, .int 0])), (h5, .inl (cy 2, 4, .inr (.inr (.inr (.inr g))))), (m9, .inr (2, [.int 0, .int 0, .int 0])), (h2, .inr (4, [.int 0, .int 0, .int 0, .ref q1, .ref q2, .ref q3, .ref q4, .ref q5, .ref q6, .ref q7, .ref q8])), (q1, .inl (cy 0, 4, .inl (fun _ => 0))), (q2, .inl (cy 0, 4, .inl (fun _ => 0))), (q3, .inl (cy 0, 4, .inl (fun _ => 0))), (q4, .inl (cy 0, 4, .inl (fun _ => 0))), (q5, .inl (cy 0, 4, .inl (fun _ => 0))), (q6, .inl (cy 0, 4, .inl (fun _ => 0))), (q7, .inl (cy 0, 3, .inl (fun _ => 0))), (q8, .inl (cy 0, 3, .inl (fun _ => 0))), (g0, .inr (8, [.ref g1, .ref g2, .int 0, .int 1, .ref g3, .int 0, .ref g4, .ref g5, .ref g6, .int 0, .ref g7])), (g1, .inl (cy 0, 596, .inl (fun _ => 0))), (g2, .inl (cy 0, 596, .inl (fun _ => 0))), (g3, .inl (cy 0, 6, .inl (fun _ => 0))), (g4, .inl (cy 0, 4, .inl (fun _ => 0))), (g5, .inl (cy 0, 5, .inl (fun _ => 0))), (g6, .inl (cy 0, 4, .inl (fun _ => 0))), (g7, .inl (cy 0, 6, .inl (fun _ => 0)))] := hD
  refine lv_aload_n hx hb dL_law_347 rfl (lv_at hl 1 rfl) ?_
  refine lv_aload_n hx hb dL_law_348 rfl (lv_at hl 3 rfl) ?_
  refine lv_iload_n hx hb dL_law_349 rfl (lv_at hl 0 rfl) ?_
  refine lv_iconst (v := 1) hx hb dL_law_350 (by decide) ?_
  refine lv_iadd hx hb dL_law_351 ?_
  refine lv_topi (fun x_6 ex_6 => ?_)
  obtain rfl : x_6 = 1 := ex_6.trans (by decide)
  refine va_sld hx hb hX hbl hbA hS (by unfold vp_in; decide) dL_law_352 ?_
  refine lv_topi (fun x_7 ex_7 => ?_)
  rw [← ex_2] at ex_7; replace ex_7 := ex_7.symm; subst ex_7
  refine lv_aload_n hx hb dL_law_353 rfl (lv_at hl 3 rfl) ?_
  refine lv_iload_n hx hb dL_law_354 rfl (lv_at hl 0 rfl) ?_
  refine lv_iconst (v := 2) hx hb dL_law_355 (by decide) ?_
  refine lv_iadd hx hb dL_law_356 ?_
  refine lv_topi (fun x_8 ex_8 => ?_)
  obtain rfl : x_8 = 2 := ex_8.trans (by decide)
  refine va_sld hx hb hX hbl hbA hS (by unfold vp_in; decide) dL_law_357 ?_
  refine lv_topi (fun x_9 ex_9 => ?_)
  rw [← ex_4] at ex_9; replace ex_9 := ex_9.symm; subst ex_9
  refine yc_i (wc := [(g0, .inr (8, [.ref g1, .ref g2, .int 0, .int 1, .ref g3, .int 0, .ref g4, .ref g5, .ref g6, .int 0, .ref g7])), (g1, .inl (cy 0, 596, .inl (fun _ => 0)))]) (wr := [(h4, .inl (cy 1, 8, .inr (.inr (.inr (.inr f))))), (p9, .inr (3, [.int 0, .int 0])), (h5, .inl (cy 2, 4, .inr (.inr (.inr (.inr g))))), (m9, .inr (2, [.int 0, .int 0, .int 0])), (h2, .inr (4, [.int 0, .int 0, .int 0, .ref q1, .ref q2, .ref q3, .ref q4, .ref q5, .ref q6, .ref q7, .ref q8])), (q1, .inl (cy 0, 4, .inl (fun _ => 0))), (q2, .inl (cy 0, 4, .inl (fun _ => 0))), (q3, .inl (cy 0, 4, .inl (fun _ => 0))), (q4, .inl (cy 0, 4, .inl (fun _ => 0))), (q5, .inl (cy 0, 4, .inl (fun _ => 0))), (q6, .inl (cy 0, 4, .inl (fun _ => 0))), (q7, .inl (cy 0, 3, .inl (fun _ => 0))), (q8, .inl (cy 0, 3, .inl (fun _ => 0))), (g2, .inl (cy 0, 596, .inl (fun _ => 0))), (g3, .inl (cy 0, 6, .inl (fun _ => 0))), (g4, .inl (cy 0, 4, .inl (fun _ => 0))), (g5, .inl (cy 0, 5, .inl (fun _ => 0))), (g6, .inl (cy 0, 4, .inl (fun _ => 0))), (g7, .inl (cy 0, 6, .inl (fun _ => 0)))]) (w1 := fun _ => []) hP hD hS hA [13, 14] [0, 1, 2, 3, 4, 5, 6, 7, 8, 9, 10, 11, 12, 15, 16, 17, 18, 19, 20] rfl rfl (by decide) (by decide) (va_runV (As := [.int x_2, .int x_4]) (rest := [.int r_5]) ⟨hx, hb, hml, hown, hts⟩ (c0_X8_weight l dC dI cy _ g0 g1 g2 g3 g4 g5 g6 g7 x_2 x_4) (cwV 2 hts gL_law_X8_weight rfl rfl rfl (by decide +kernel) ⟨Nat.le_of_ble_eq_true rfl, Nat.le_of_ble_eq_true rfl⟩) (ex_preV hE hK hP hD [13, 14] (by decide) rfl (ci := 8) (q0 := 13) rfl rfl) rfl rfl hl.1 rfl (lv_room (Nat.le_of_ble_eq_true rfl)) dL_law_358 ⟨Nat.le_of_ble_eq_true rfl, Nat.le_of_ble_eq_true rfl⟩) (fun r_10 u_10 H locs hw_10 hP hD hS => ?_)
  have hP : va_P (dC, dI) vwCl [(h4, .inl (cy 1, 8, .inr (.inr (.inr (.inr f))))), (p9, .inr (3, [.int 0, .int 0])), (h5, .inl (cy 2, 4, .inr (.inr (.inr (.inr g))))), (m9, .inr (2, [.int 0, .int 0, .int 0])), (h2, .inr (4, [.int 0, .int 0, .int 0, .ref q1, .ref q2, .ref q3, .ref q4, .ref q5, .ref q6, .ref q7, .ref q8])), (q1, .inl (cy 0, 4, .inl (fun _ => 0))), (q2, .inl (cy 0, 4, .inl (fun _ => 0))), (q3, .inl (cy 0, 4, .inl (fun _ => 0))), (q4, .inl (cy 0, 4, .inl (fun _ => 0))), (q5, .inl (cy 0, 4, .inl (fun _ => 0))), (q6, .inl (cy 0, 4, .inl (fun _ => 0))), (q7, .inl (cy 0, 3, .inl (fun _ => 0))), (q8, .inl (cy 0, 3, .inl (fun _ => 0))), (g2, .inl (cy 0, 596, .inl (fun _ => 0))), (g3, .inl (cy 0, 6, .inl (fun _ => 0))), (g4, .inl (cy 0, 4, .inl (fun _ => 0))), (g5, .inl (cy 0, 5, .inl (fun _ => 0))), (g6, .inl (cy 0, 4, .inl (fun _ => 0))), (g7, .inl (cy 0, 6, .inl (fun _ => 0)))] H := hP
  have hD : va_D (fun q : Nat => s.heap.size ≤ q) [(h4, .inl (cy 1, 8, .inr (.inr (.inr (.inr f))))), (p9, .inr (3, [.int 0, .int 0])), (h5, .inl (cy 2, 4, .inr (.inr (.inr (.inr g))))), (m9, .inr (2, [.int 0, .int 0, .int 0])), (h2, .inr (4, [.int 0, .int 0, .int 0, .ref q1, .ref q2, .ref q3, .ref q4, .ref q5, .ref q6, .ref q7, .ref q8])), (q1, .inl (cy 0, 4, .inl (fun _ => 0))), (q2, .inl (cy 0, 4, .inl (fun _ => 0))), (q3, .inl (cy 0, 4, .inl (fun _ => 0))), (q4, .inl (cy 0, 4, .inl (fun _ => 0))), (q5, .inl (cy 0, 4, .inl (fun _ => 0))), (q6, .inl (cy 0, 4, .inl (fun _ => 0))), (q7, .inl (cy 0, 3, .inl (fun _ => 0))), (q8, .inl (cy 0, 3, .inl (fun _ => 0))), (g2, .inl (cy 0, 596, .inl (fun _ => 0))), (g3, .inl (cy 0, 6, .inl (fun _ => 0))), (g4, .inl (cy 0, 4, .inl (fun _ => 0))), (g5, .inl (cy 0, 5, .inl (fun _ => 0))), (g6, .inl (cy 0, 4, .inl (fun _ => 0))), (g7, .inl (cy 0, 6, .inl (fun _ => 0)))] := hD
  refine lv_icmp_eq (tgt := 1060) hx hb dL_law_361 (by decide) (fun _ => ?_) (fun c9 => absurd (hw_5.trans hw_10.symm) c9)
  exact law_end C0 (Nat.le_of_ble_eq_true rfl) (Nat.le_of_ble_eq_true rfl) hS ls (lv_sub hl [0, 3] rfl)

set_option maxHeartbeats 4000000 in
set_option maxRecDepth 100000 in
/-- the case of mark -/
theorem lc_6 {p : Program} {l : Launch} {e : Env} {s : State} {m : MethodId} {below : List Frame} {meth : Method} {c : Code} {dC : Nat → ClassId} {dI : Nat → Nat → Nat} {cy : Nat → ClassId} {b : Nat} {xs : Nat → Int32} (C0 : lw_At p s m meth c b 7 xs) (h0 h1 h2 h3 h4 h5 h6 p9 m9 q1 q2 q3 q4 q5 q6 q7 q8 g0 g1 g2 g3 g4 g5 g6 g7 t0 : Nat) (f g : Nat → Option Nat) (hf : f 0 = some p9) (hg : g 0 = some m9) (hSt : ex_St t0 (fun q : Nat => s.heap.size ≤ q) s) (hE : ex_K s) (hK : va_K (dC, dI) vwCl (ty_L cy) s) {H : Heap} {locs : List Loc} (hP : va_P (dC, dI) vwCl [(h0, .inr (7, [.ref h1, .ref h2, .ref h3, .null, .int 1])), (h1, .inr (1, [.int 0, .int 0, .int 0, .int 0, .ref h4, .ref h5, .ref h6])), (h4, .inl (cy 1, 8, .inr (.inr (.inr (.inr f))))), (p9, .inr (3, [.int 0, .int 0])), (h5, .inl (cy 2, 4, .inr (.inr (.inr (.inr g))))), (m9, .inr (2, [.int 0, .int 0, .int 0])), (h2, .inr (4, [.int 0, .int 0, .int 0, .ref q1, .ref q2, .ref q3, .ref q4, .ref q5, .ref q6, .ref q7, .ref q8])), (q1, .inl (cy 0, 4, .inl (fun _ => 0))), (q2, .inl (cy 0, 4, .inl (fun _ => 0))), (q3, .inl (cy 0, 4, .inl (fun _ => 0))), (q4, .inl (cy 0, 4, .inl (fun _ => 0))), (q5, .inl (cy 0, 4, .inl (fun _ => 0))), (q6, .inl (cy 0, 4, .inl (fun _ => 0))), (q7, .inl (cy 0, 3, .inl (fun _ => 0))), (q8, .inl (cy 0, 3, .inl (fun _ => 0))), (g0, .inr (8, [.ref g1, .ref g2, .int 0, .int 1, .ref g3, .int 0, .ref g4, .ref g5, .ref g6, .int 0, .ref g7])), (g1, .inl (cy 0, 596, .inl (fun _ => 0))), (g2, .inl (cy 0, 596, .inl (fun _ => 0))), (g3, .inl (cy 0, 6, .inl (fun _ => 0))), (g4, .inl (cy 0, 4, .inl (fun _ => 0))), (g5, .inl (cy 0, 5, .inl (fun _ => 0))), (g6, .inl (cy 0, 4, .inl (fun _ => 0))), (g7, .inl (cy 0, 6, .inl (fun _ => 0)))] H) (hD : va_D (fun q : Nat => s.heap.size ≤ q) [(h0, .inr (7, [.ref h1, .ref h2, .ref h3, .null, .int 1])), (h1, .inr (1, [.int 0, .int 0, .int 0, .int 0, .ref h4, .ref h5, .ref h6])), (h4, .inl (cy 1, 8, .inr (.inr (.inr (.inr f))))), (p9, .inr (3, [.int 0, .int 0])), (h5, .inl (cy 2, 4, .inr (.inr (.inr (.inr g))))), (m9, .inr (2, [.int 0, .int 0, .int 0])), (h2, .inr (4, [.int 0, .int 0, .int 0, .ref q1, .ref q2, .ref q3, .ref q4, .ref q5, .ref q6, .ref q7, .ref q8])), (q1, .inl (cy 0, 4, .inl (fun _ => 0))), (q2, .inl (cy 0, 4, .inl (fun _ => 0))), (q3, .inl (cy 0, 4, .inl (fun _ => 0))), (q4, .inl (cy 0, 4, .inl (fun _ => 0))), (q5, .inl (cy 0, 4, .inl (fun _ => 0))), (q6, .inl (cy 0, 4, .inl (fun _ => 0))), (q7, .inl (cy 0, 3, .inl (fun _ => 0))), (q8, .inl (cy 0, 3, .inl (fun _ => 0))), (g0, .inr (8, [.ref g1, .ref g2, .int 0, .int 1, .ref g3, .int 0, .ref g4, .ref g5, .ref g6, .int 0, .ref g7])), (g1, .inl (cy 0, 596, .inl (fun _ => 0))), (g2, .inl (cy 0, 596, .inl (fun _ => 0))), (g3, .inl (cy 0, 6, .inl (fun _ => 0))), (g4, .inl (cy 0, 4, .inl (fun _ => 0))), (g5, .inl (cy 0, 5, .inl (fun _ => 0))), (g6, .inl (cy 0, 4, .inl (fun _ => 0))), (g7, .inl (cy 0, 6, .inl (fun _ => 0)))]) (hS : va_S (fun q : Nat => s.heap.size ≤ q) s.heap H locs) (ls : Array Slot) (hl : lv_has ls 4 [(3, .int 0), (2, .ref g0), (1, .ref h0), (0, .ref b)]) : W p l e room_1 s m #[Value.ref b] below meth c H locs 127 1982 (lw_Z below #[Value.ref b] s) (F0 m 366 ls []) := by
  obtain ⟨hx, hb, hr, hml, hown, hts0, hX, hbl, hlocks, hgv⟩ := id C0
  have hts : ∀ w ∈ wsL_law, w.before #[Value.ref b] s = true := fun w h => hts0 w (wsL_law_in w h)
  have hown : s.vm.findClass RL = some m.cls := hown
  have hA : ∀ q : Nat, s.heap.size ≤ q → (fun q : Nat => s.heap.size ≤ q) q := fun _ h => h
  have hbA : ¬ (fun q : Nat => s.heap.size ≤ q) b := Nat.not_le.mpr hbl
  refine lv_aload_n hx hb dL_law_366 rfl (lv_at hl 2 rfl) ?_
  refine lv_aload_n hx hb dL_law_367 rfl (lv_at hl 3 rfl) ?_
  refine lv_iload_n hx hb dL_law_368 rfl (lv_at hl 0 rfl) ?_
  refine lv_iconst (v := 1) hx hb dL_law_369 (by decide) ?_
  refine lv_iadd hx hb dL_law_370 ?_
  refine lv_topi (fun x_1 ex_1 => ?_)
  obtain rfl : x_1 = 1 := ex_1.trans (by decide)
  refine va_sld hx hb hX hbl hbA hS (by unfold vp_in; decide) dL_law_371 ?_
  refine lv_topi (fun x_2 ex_2 => ?_)
  refine lv_aload_n hx hb dL_law_372 rfl (lv_at hl 3 rfl) ?_
  refine lv_iload_n hx hb dL_law_373 rfl (lv_at hl 0 rfl) ?_
  refine lv_iconst (v := 2) hx hb dL_law_374 (by decide) ?_
  refine lv_iadd hx hb dL_law_375 ?_
  refine lv_topi (fun x_3 ex_3 => ?_)
  obtain rfl : x_3 = 2 := ex_3.trans (by decide)
  refine va_sld hx hb hX hbl hbA hS (by unfold vp_in; decide) dL_law_376 ?_
  refine lv_topi (fun x_4 ex_4 => ?_)
  refine yc_i (wc := [(h0, .inr (7, [.ref h1, .ref h2, .ref h3, .null, .int 1])), (h1, .inr (1, [.int 0, .int 0, .int 0, .int 0, .ref h4, .ref h5, .ref h6]))]) (wr := [(h4, .inl (cy 1, 8, .inr (.inr (.inr (.inr f))))), (p9, .inr (3, [.int 0, .int 0])), (h5, .inl (cy 2, 4, .inr (.inr (.inr (.inr g))))), (m9, .inr (2, [.int 0, .int 0, .int 0])), (h2, .inr (4, [.int 0, .int 0, .int 0, .ref q1, .ref q2, .ref q3, .ref q4, .ref q5, .ref q6, .ref q7, .ref q8])), (q1, .inl (cy 0, 4, .inl (fun _ => 0))), (q2, .inl (cy 0, 4, .inl (fun _ => 0))), (q3, .inl (cy 0, 4, .inl (fun _ => 0))), (q4, .inl (cy 0, 4, .inl (fun _ => 0))), (q5, .inl (cy 0, 4, .inl (fun _ => 0))), (q6, .inl (cy 0, 4, .inl (fun _ => 0))), (q7, .inl (cy 0, 3, .inl (fun _ => 0))), (q8, .inl (cy 0, 3, .inl (fun _ => 0))), (g0, .inr (8, [.ref g1, .ref g2, .int 0, .int 1, .ref g3, .int 0, .ref g4, .ref g5, .ref g6, .int 0, .ref g7])), (g1, .inl (cy 0, 596, .inl (fun _ => 0))), (g2, .inl (cy 0, 596, .inl (fun _ => 0))), (g3, .inl (cy 0, 6, .inl (fun _ => 0))), (g4, .inl (cy 0, 4, .inl (fun _ => 0))), (g5, .inl (cy 0, 5, .inl (fun _ => 0))), (g6, .inl (cy 0, 4, .inl (fun _ => 0))), (g7, .inl (cy 0, 6, .inl (fun _ => 0)))]) (w1 := fun _ => []) hP hD hS hA [0, 1] [2, 3, 4, 5, 6, 7, 8, 9, 10, 11, 12, 13, 14, 15, 16, 17, 18, 19, 20, 21, 22] rfl rfl (by decide) (by decide) (va_runV (As := [.int x_2, .int x_4]) (rest := []) ⟨hx, hb, hml, hown, hts⟩ (c0_X7_mark l dC dI cy _ h0 h1 h2 h3 h4 h5 h6 x_2 x_4) (cwV 2 hts gL_law_X7_mark rfl rfl rfl (by decide +kernel) ⟨Nat.le_of_ble_eq_true rfl, Nat.le_of_ble_eq_true rfl⟩) (ex_preV hE hK hP hD [0, 1] (by decide) rfl (ci := 7) (q0 := 0) rfl rfl) rfl rfl hl.1 rfl (lv_room (Nat.le_of_ble_eq_true rfl)) dL_law_377 ⟨Nat.le_of_ble_eq_true rfl, Nat.le_of_ble_eq_true rfl⟩) (fun r_5 u_5 H locs hw_5 hP hD hS => ?_)
  have hP : va_P (dC, dI) vwCl [(h4, .inl (cy 1, 8, .inr (.inr (.inr (.inr f))))), (p9, .inr (3, [.int 0, .int 0])), (h5, .inl (cy 2, 4, .inr (.inr (.inr (.inr g))))), (m9, .inr (2, [.int 0, .int 0, .int 0])), (h2, .inr (4, [.int 0, .int 0, .int 0, .ref q1, .ref q2, .ref q3, .ref q4, .ref q5, .ref q6, .ref q7, .ref q8])), (q1, .inl (cy 0, 4, .inl (fun _ => 0))), (q2, .inl (cy 0, 4, .inl (fun _ => 0))), (q3, .inl (cy 0, 4, .inl (fun _ => 0))), (q4, .inl (cy 0, 4, .inl (fun _ => 0))), (q5, .inl (cy 0, 4, .inl (fun _ => 0))), (q6, .inl (cy 0, 4, .inl (fun _ => 0))), (q7, .inl (cy 0, 3, .inl (fun _ => 0))), (q8, .inl (cy 0, 3, .inl (fun _ => 0))), (g0, .inr (8, [.ref g1, .ref g2, .int 0, .int 1, .ref g3, .int 0, .ref g4, .ref g5, .ref g6, .int 0, .ref g7])), (g1, .inl (cy 0, 596, .inl (fun _ => 0))), (g2, .inl (cy 0, 596, .inl (fun _ => 0))), (g3, .inl (cy 0, 6, .inl (fun _ => 0))), (g4, .inl (cy 0, 4, .inl (fun _ => 0))), (g5, .inl (cy 0, 5, .inl (fun _ => 0))), (g6, .inl (cy 0, 4, .inl (fun _ => 0))), (g7, .inl (cy 0, 6, .inl (fun _ => 0)))] H := hP
  have hD : va_D (fun q : Nat => s.heap.size ≤ q) [(h4, .inl (cy 1, 8, .inr (.inr (.inr (.inr f))))), (p9, .inr (3, [.int 0, .int 0])), (h5, .inl (cy 2, 4, .inr (.inr (.inr (.inr g))))), (m9, .inr (2, [.int 0, .int 0, .int 0])), (h2, .inr (4, [.int 0, .int 0, .int 0, .ref q1, .ref q2, .ref q3, .ref q4, .ref q5, .ref q6, .ref q7, .ref q8])), (q1, .inl (cy 0, 4, .inl (fun _ => 0))), (q2, .inl (cy 0, 4, .inl (fun _ => 0))), (q3, .inl (cy 0, 4, .inl (fun _ => 0))), (q4, .inl (cy 0, 4, .inl (fun _ => 0))), (q5, .inl (cy 0, 4, .inl (fun _ => 0))), (q6, .inl (cy 0, 4, .inl (fun _ => 0))), (q7, .inl (cy 0, 3, .inl (fun _ => 0))), (q8, .inl (cy 0, 3, .inl (fun _ => 0))), (g0, .inr (8, [.ref g1, .ref g2, .int 0, .int 1, .ref g3, .int 0, .ref g4, .ref g5, .ref g6, .int 0, .ref g7])), (g1, .inl (cy 0, 596, .inl (fun _ => 0))), (g2, .inl (cy 0, 596, .inl (fun _ => 0))), (g3, .inl (cy 0, 6, .inl (fun _ => 0))), (g4, .inl (cy 0, 4, .inl (fun _ => 0))), (g5, .inl (cy 0, 5, .inl (fun _ => 0))), (g6, .inl (cy 0, 4, .inl (fun _ => 0))), (g7, .inl (cy 0, 6, .inl (fun _ => 0)))] := hD
  refine lv_aload_n hx hb dL_law_380 rfl (lv_at hl 1 rfl) ?_
  refine lv_aload_n hx hb dL_law_381 rfl (lv_at hl 3 rfl) ?_
  refine lv_iload_n hx hb dL_law_382 rfl (lv_at hl 0 rfl) ?_
  refine lv_iconst (v := 1) hx hb dL_law_383 (by decide) ?_
  refine lv_iadd hx hb dL_law_384 ?_
  refine lv_topi (fun x_6 ex_6 => ?_)
  obtain rfl : x_6 = 1 := ex_6.trans (by decide)
  refine va_sld hx hb hX hbl hbA hS (by unfold vp_in; decide) dL_law_385 ?_
  refine lv_topi (fun x_7 ex_7 => ?_)
  rw [← ex_2] at ex_7; replace ex_7 := ex_7.symm; subst ex_7
  refine lv_aload_n hx hb dL_law_386 rfl (lv_at hl 3 rfl) ?_
  refine lv_iload_n hx hb dL_law_387 rfl (lv_at hl 0 rfl) ?_
  refine lv_iconst (v := 2) hx hb dL_law_388 (by decide) ?_
  refine lv_iadd hx hb dL_law_389 ?_
  refine lv_topi (fun x_8 ex_8 => ?_)
  obtain rfl : x_8 = 2 := ex_8.trans (by decide)
  refine va_sld hx hb hX hbl hbA hS (by unfold vp_in; decide) dL_law_390 ?_
  refine lv_topi (fun x_9 ex_9 => ?_)
  rw [← ex_4] at ex_9; replace ex_9 := ex_9.symm; subst ex_9
  refine yc_i (wc := [(g0, .inr (8, [.ref g1, .ref g2, .int 0, .int 1, .ref g3, .int 0, .ref g4, .ref g5, .ref g6, .int 0, .ref g7])), (g1, .inl (cy 0, 596, .inl (fun _ => 0)))]) (wr := [(h4, .inl (cy 1, 8, .inr (.inr (.inr (.inr f))))), (p9, .inr (3, [.int 0, .int 0])), (h5, .inl (cy 2, 4, .inr (.inr (.inr (.inr g))))), (m9, .inr (2, [.int 0, .int 0, .int 0])), (h2, .inr (4, [.int 0, .int 0, .int 0, .ref q1, .ref q2, .ref q3, .ref q4, .ref q5, .ref q6, .ref q7, .ref q8])), (q1, .inl (cy 0, 4, .inl (fun _ => 0))), (q2, .inl (cy 0, 4, .inl (fun _ => 0))), (q3, .inl (cy 0, 4, .inl (fun _ => 0))), (q4, .inl (cy 0, 4, .inl (fun _ => 0))), (q5, .inl (cy 0, 4, .inl (fun _ => 0))), (q6, .inl (cy 0, 4, .inl (fun _ => 0))), (q7, .inl (cy 0, 3, .inl (fun _ => 0))), (q8, .inl (cy 0, 3, .inl (fun _ => 0))), (g2, .inl (cy 0, 596, .inl (fun _ => 0))), (g3, .inl (cy 0, 6, .inl (fun _ => 0))), (g4, .inl (cy 0, 4, .inl (fun _ => 0))), (g5, .inl (cy 0, 5, .inl (fun _ => 0))), (g6, .inl (cy 0, 4, .inl (fun _ => 0))), (g7, .inl (cy 0, 6, .inl (fun _ => 0)))]) (w1 := fun _ => []) hP hD hS hA [13, 14] [0, 1, 2, 3, 4, 5, 6, 7, 8, 9, 10, 11, 12, 15, 16, 17, 18, 19, 20] rfl rfl (by decide) (by decide) (va_runV (As := [.int x_2, .int x_4]) (rest := [.int r_5]) ⟨hx, hb, hml, hown, hts⟩ (c0_X8_mark l dC dI cy _ g0 g1 g2 g3 g4 g5 g6 g7 x_2 x_4) (cwV 2 hts gL_law_X8_mark rfl rfl rfl (by decide +kernel) ⟨Nat.le_of_ble_eq_true rfl, Nat.le_of_ble_eq_true rfl⟩) (ex_preV hE hK hP hD [13, 14] (by decide) rfl (ci := 8) (q0 := 13) rfl rfl) rfl rfl hl.1 rfl (lv_room (Nat.le_of_ble_eq_true rfl)) dL_law_391 ⟨Nat.le_of_ble_eq_true rfl, Nat.le_of_ble_eq_true rfl⟩) (fun r_10 u_10 H locs hw_10 hP hD hS => ?_)
  have hP : va_P (dC, dI) vwCl [(h4, .inl (cy 1, 8, .inr (.inr (.inr (.inr f))))), (p9, .inr (3, [.int 0, .int 0])), (h5, .inl (cy 2, 4, .inr (.inr (.inr (.inr g))))), (m9, .inr (2, [.int 0, .int 0, .int 0])), (h2, .inr (4, [.int 0, .int 0, .int 0, .ref q1, .ref q2, .ref q3, .ref q4, .ref q5, .ref q6, .ref q7, .ref q8])), (q1, .inl (cy 0, 4, .inl (fun _ => 0))), (q2, .inl (cy 0, 4, .inl (fun _ => 0))), (q3, .inl (cy 0, 4, .inl (fun _ => 0))), (q4, .inl (cy 0, 4, .inl (fun _ => 0))), (q5, .inl (cy 0, 4, .inl (fun _ => 0))), (q6, .inl (cy 0, 4, .inl (fun _ => 0))), (q7, .inl (cy 0, 3, .inl (fun _ => 0))), (q8, .inl (cy 0, 3, .inl (fun _ => 0))), (g2, .inl (cy 0, 596, .inl (fun _ => 0))), (g3, .inl (cy 0, 6, .inl (fun _ => 0))), (g4, .inl (cy 0, 4, .inl (fun _ => 0))), (g5, .inl (cy 0, 5, .inl (fun _ => 0))), (g6, .inl (cy 0, 4, .inl (fun _ => 0))), (g7, .inl (cy 0, 6, .inl (fun _ => 0)))] H := hP
  have hD : va_D (fun q : Nat => s.heap.size ≤ q) [(h4, .inl (cy 1, 8, .inr (.inr (.inr (.inr f))))), (p9, .inr (3, [.int 0, .int 0])), (h5, .inl (cy 2, 4, .inr (.inr (.inr (.inr g))))), (m9, .inr (2, [.int 0, .int 0, .int 0])), (h2, .inr (4, [.int 0, .int 0, .int 0, .ref q1, .ref q2, .ref q3, .ref q4, .ref q5, .ref q6, .ref q7, .ref q8])), (q1, .inl (cy 0, 4, .inl (fun _ => 0))), (q2, .inl (cy 0, 4, .inl (fun _ => 0))), (q3, .inl (cy 0, 4, .inl (fun _ => 0))), (q4, .inl (cy 0, 4, .inl (fun _ => 0))), (q5, .inl (cy 0, 4, .inl (fun _ => 0))), (q6, .inl (cy 0, 4, .inl (fun _ => 0))), (q7, .inl (cy 0, 3, .inl (fun _ => 0))), (q8, .inl (cy 0, 3, .inl (fun _ => 0))), (g2, .inl (cy 0, 596, .inl (fun _ => 0))), (g3, .inl (cy 0, 6, .inl (fun _ => 0))), (g4, .inl (cy 0, 4, .inl (fun _ => 0))), (g5, .inl (cy 0, 5, .inl (fun _ => 0))), (g6, .inl (cy 0, 4, .inl (fun _ => 0))), (g7, .inl (cy 0, 6, .inl (fun _ => 0)))] := hD
  refine lv_icmp_eq (tgt := 1060) hx hb dL_law_394 (by decide) (fun _ => ?_) (fun c9 => absurd (hw_5.trans hw_10.symm) c9)
  exact law_end C0 (Nat.le_of_ble_eq_true rfl) (Nat.le_of_ble_eq_true rfl) hS ls (lv_sub hl [0, 3] rfl)

set_option maxHeartbeats 4000000 in
set_option maxRecDepth 100000 in
/-- the case of of -/
theorem lc_7 {p : Program} {l : Launch} {e : Env} {s : State} {m : MethodId} {below : List Frame} {meth : Method} {c : Code} {dC : Nat → ClassId} {dI : Nat → Nat → Nat} {cy : Nat → ClassId} {b : Nat} {xs : Nat → Int32} (C0 : lw_At p s m meth c b 7 xs) (h0 h1 h2 h3 h4 h5 h6 p9 m9 q1 q2 q3 q4 q5 q6 q7 q8 g0 g1 g2 g3 g4 g5 g6 g7 t0 : Nat) (f g : Nat → Option Nat) (hf : f 0 = some p9) (hg : g 0 = some m9) (hSt : ex_St t0 (fun q : Nat => s.heap.size ≤ q) s) (hE : ex_K s) (hK : va_K (dC, dI) vwCl (ty_L cy) s) {H : Heap} {locs : List Loc} (hP : va_P (dC, dI) vwCl [(h0, .inr (7, [.ref h1, .ref h2, .ref h3, .null, .int 1])), (h1, .inr (1, [.int 0, .int 0, .int 0, .int 0, .ref h4, .ref h5, .ref h6])), (h4, .inl (cy 1, 8, .inr (.inr (.inr (.inr f))))), (p9, .inr (3, [.int 0, .int 0])), (h5, .inl (cy 2, 4, .inr (.inr (.inr (.inr g))))), (m9, .inr (2, [.int 0, .int 0, .int 0])), (h2, .inr (4, [.int 0, .int 0, .int 0, .ref q1, .ref q2, .ref q3, .ref q4, .ref q5, .ref q6, .ref q7, .ref q8])), (q1, .inl (cy 0, 4, .inl (fun _ => 0))), (q2, .inl (cy 0, 4, .inl (fun _ => 0))), (q3, .inl (cy 0, 4, .inl (fun _ => 0))), (q4, .inl (cy 0, 4, .inl (fun _ => 0))), (q5, .inl (cy 0, 4, .inl (fun _ => 0))), (q6, .inl (cy 0, 4, .inl (fun _ => 0))), (q7, .inl (cy 0, 3, .inl (fun _ => 0))), (q8, .inl (cy 0, 3, .inl (fun _ => 0))), (g0, .inr (8, [.ref g1, .ref g2, .int 0, .int 1, .ref g3, .int 0, .ref g4, .ref g5, .ref g6, .int 0, .ref g7])), (g1, .inl (cy 0, 596, .inl (fun _ => 0))), (g2, .inl (cy 0, 596, .inl (fun _ => 0))), (g3, .inl (cy 0, 6, .inl (fun _ => 0))), (g4, .inl (cy 0, 4, .inl (fun _ => 0))), (g5, .inl (cy 0, 5, .inl (fun _ => 0))), (g6, .inl (cy 0, 4, .inl (fun _ => 0))), (g7, .inl (cy 0, 6, .inl (fun _ => 0)))] H) (hD : va_D (fun q : Nat => s.heap.size ≤ q) [(h0, .inr (7, [.ref h1, .ref h2, .ref h3, .null, .int 1])), (h1, .inr (1, [.int 0, .int 0, .int 0, .int 0, .ref h4, .ref h5, .ref h6])), (h4, .inl (cy 1, 8, .inr (.inr (.inr (.inr f))))), (p9, .inr (3, [.int 0, .int 0])), (h5, .inl (cy 2, 4, .inr (.inr (.inr (.inr g))))), (m9, .inr (2, [.int 0, .int 0, .int 0])), (h2, .inr (4, [.int 0, .int 0, .int 0, .ref q1, .ref q2, .ref q3, .ref q4, .ref q5, .ref q6, .ref q7, .ref q8])), (q1, .inl (cy 0, 4, .inl (fun _ => 0))), (q2, .inl (cy 0, 4, .inl (fun _ => 0))), (q3, .inl (cy 0, 4, .inl (fun _ => 0))), (q4, .inl (cy 0, 4, .inl (fun _ => 0))), (q5, .inl (cy 0, 4, .inl (fun _ => 0))), (q6, .inl (cy 0, 4, .inl (fun _ => 0))), (q7, .inl (cy 0, 3, .inl (fun _ => 0))), (q8, .inl (cy 0, 3, .inl (fun _ => 0))), (g0, .inr (8, [.ref g1, .ref g2, .int 0, .int 1, .ref g3, .int 0, .ref g4, .ref g5, .ref g6, .int 0, .ref g7])), (g1, .inl (cy 0, 596, .inl (fun _ => 0))), (g2, .inl (cy 0, 596, .inl (fun _ => 0))), (g3, .inl (cy 0, 6, .inl (fun _ => 0))), (g4, .inl (cy 0, 4, .inl (fun _ => 0))), (g5, .inl (cy 0, 5, .inl (fun _ => 0))), (g6, .inl (cy 0, 4, .inl (fun _ => 0))), (g7, .inl (cy 0, 6, .inl (fun _ => 0)))]) (hS : va_S (fun q : Nat => s.heap.size ≤ q) s.heap H locs) (ls : Array Slot) (hl : lv_has ls 4 [(3, .int 0), (2, .ref g0), (1, .ref h0), (0, .ref b)]) : W p l e room_1 s m #[Value.ref b] below meth c H locs 127 1982 (lw_Z below #[Value.ref b] s) (F0 m 399 ls []) := by
  obtain ⟨hx, hb, hr, hml, hown, hts0, hX, hbl, hlocks, hgv⟩ := id C0
  have hts : ∀ w ∈ wsL_law, w.before #[Value.ref b] s = true := fun w h => hts0 w (wsL_law_in w h)
  have hown : s.vm.findClass RL = some m.cls := hown
  have hA : ∀ q : Nat, s.heap.size ≤ q → (fun q : Nat => s.heap.size ≤ q) q := fun _ h => h
  have hbA : ¬ (fun q : Nat => s.heap.size ≤ q) b := Nat.not_le.mpr hbl
  refine lv_aload_n hx hb dL_law_399 rfl (lv_at hl 2 rfl) ?_
  refine lv_aload_n hx hb dL_law_400 rfl (lv_at hl 3 rfl) ?_
  refine lv_iload_n hx hb dL_law_401 rfl (lv_at hl 0 rfl) ?_
  refine lv_iconst (v := 1) hx hb dL_law_402 (by decide) ?_
  refine lv_iadd hx hb dL_law_403 ?_
  refine lv_topi (fun x_1 ex_1 => ?_)
  obtain rfl : x_1 = 1 := ex_1.trans (by decide)
  refine va_sld hx hb hX hbl hbA hS (by unfold vp_in; decide) dL_law_404 ?_
  refine lv_topi (fun x_2 ex_2 => ?_)
  refine lv_aload_n hx hb dL_law_405 rfl (lv_at hl 3 rfl) ?_
  refine lv_iload_n hx hb dL_law_406 rfl (lv_at hl 0 rfl) ?_
  refine lv_iconst (v := 2) hx hb dL_law_407 (by decide) ?_
  refine lv_iadd hx hb dL_law_408 ?_
  refine lv_topi (fun x_3 ex_3 => ?_)
  obtain rfl : x_3 = 2 := ex_3.trans (by decide)
  refine va_sld hx hb hX hbl hbA hS (by unfold vp_in; decide) dL_law_409 ?_
  refine lv_topi (fun x_4 ex_4 => ?_)
  refine yc_i (wc := [(h0, .inr (7, [.ref h1, .ref h2, .ref h3, .null, .int 1])), (h1, .inr (1, [.int 0, .int 0, .int 0, .int 0, .ref h4, .ref h5, .ref h6]))]) (wr := [(h4, .inl (cy 1, 8, .inr (.inr (.inr (.inr f))))), (p9, .inr (3, [.int 0, .int 0])), (h5, .inl (cy 2, 4, .inr (.inr (.inr (.inr g))))), (m9, .inr (2, [.int 0, .int 0, .int 0])), (h2, .inr (4, [.int 0, .int 0, .int 0, .ref q1, .ref q2, .ref q3, .ref q4, .ref q5, .ref q6, .ref q7, .ref q8])), (q1, .inl (cy 0, 4, .inl (fun _ => 0))), (q2, .inl (cy 0, 4, .inl (fun _ => 0))), (q3, .inl (cy 0, 4, .inl (fun _ => 0))), (q4, .inl (cy 0, 4, .inl (fun _ => 0))), (q5, .inl (cy 0, 4, .inl (fun _ => 0))), (q6, .inl (cy 0, 4, .inl (fun _ => 0))), (q7, .inl (cy 0, 3, .inl (fun _ => 0))), (q8, .inl (cy 0, 3, .inl (fun _ => 0))), (g0, .inr (8, [.ref g1, .ref g2, .int 0, .int 1, .ref g3, .int 0, .ref g4, .ref g5, .ref g6, .int 0, .ref g7])), (g1, .inl (cy 0, 596, .inl (fun _ => 0))), (g2, .inl (cy 0, 596, .inl (fun _ => 0))), (g3, .inl (cy 0, 6, .inl (fun _ => 0))), (g4, .inl (cy 0, 4, .inl (fun _ => 0))), (g5, .inl (cy 0, 5, .inl (fun _ => 0))), (g6, .inl (cy 0, 4, .inl (fun _ => 0))), (g7, .inl (cy 0, 6, .inl (fun _ => 0)))]) (w1 := fun _ => []) hP hD hS hA [0, 1] [2, 3, 4, 5, 6, 7, 8, 9, 10, 11, 12, 13, 14, 15, 16, 17, 18, 19, 20, 21, 22] rfl rfl (by decide) (by decide) (va_runV (As := [.int x_2, .int x_4]) (rest := []) ⟨hx, hb, hml, hown, hts⟩ (c0_X7_of l dC dI cy _ h0 h1 h2 h3 h4 h5 h6 x_2 x_4) (cwV 2 hts gL_law_X7_of rfl rfl rfl (by decide +kernel) ⟨Nat.le_of_ble_eq_true rfl, Nat.le_of_ble_eq_true rfl⟩) (ex_preV hE hK hP hD [0, 1] (by decide) rfl (ci := 7) (q0 := 0) rfl rfl) rfl rfl hl.1 rfl (lv_room (Nat.le_of_ble_eq_true rfl)) dL_law_410 ⟨Nat.le_of_ble_eq_true rfl, Nat.le_of_ble_eq_true rfl⟩) (fun r_5 u_5 H locs hw_5 hP hD hS => ?_)
  have hP : va_P (dC, dI) vwCl [(h4, .inl (cy 1, 8, .inr (.inr (.inr (.inr f))))), (p9, .inr (3, [.int 0, .int 0])), (h5, .inl (cy 2, 4, .inr (.inr (.inr (.inr g))))), (m9, .inr (2, [.int 0, .int 0, .int 0])), (h2, .inr (4, [.int 0, .int 0, .int 0, .ref q1, .ref q2, .ref q3, .ref q4, .ref q5, .ref q6, .ref q7, .ref q8])), (q1, .inl (cy 0, 4, .inl (fun _ => 0))), (q2, .inl (cy 0, 4, .inl (fun _ => 0))), (q3, .inl (cy 0, 4, .inl (fun _ => 0))), (q4, .inl (cy 0, 4, .inl (fun _ => 0))), (q5, .inl (cy 0, 4, .inl (fun _ => 0))), (q6, .inl (cy 0, 4, .inl (fun _ => 0))), (q7, .inl (cy 0, 3, .inl (fun _ => 0))), (q8, .inl (cy 0, 3, .inl (fun _ => 0))), (g0, .inr (8, [.ref g1, .ref g2, .int 0, .int 1, .ref g3, .int 0, .ref g4, .ref g5, .ref g6, .int 0, .ref g7])), (g1, .inl (cy 0, 596, .inl (fun _ => 0))), (g2, .inl (cy 0, 596, .inl (fun _ => 0))), (g3, .inl (cy 0, 6, .inl (fun _ => 0))), (g4, .inl (cy 0, 4, .inl (fun _ => 0))), (g5, .inl (cy 0, 5, .inl (fun _ => 0))), (g6, .inl (cy 0, 4, .inl (fun _ => 0))), (g7, .inl (cy 0, 6, .inl (fun _ => 0)))] H := hP
  have hD : va_D (fun q : Nat => s.heap.size ≤ q) [(h4, .inl (cy 1, 8, .inr (.inr (.inr (.inr f))))), (p9, .inr (3, [.int 0, .int 0])), (h5, .inl (cy 2, 4, .inr (.inr (.inr (.inr g))))), (m9, .inr (2, [.int 0, .int 0, .int 0])), (h2, .inr (4, [.int 0, .int 0, .int 0, .ref q1, .ref q2, .ref q3, .ref q4, .ref q5, .ref q6, .ref q7, .ref q8])), (q1, .inl (cy 0, 4, .inl (fun _ => 0))), (q2, .inl (cy 0, 4, .inl (fun _ => 0))), (q3, .inl (cy 0, 4, .inl (fun _ => 0))), (q4, .inl (cy 0, 4, .inl (fun _ => 0))), (q5, .inl (cy 0, 4, .inl (fun _ => 0))), (q6, .inl (cy 0, 4, .inl (fun _ => 0))), (q7, .inl (cy 0, 3, .inl (fun _ => 0))), (q8, .inl (cy 0, 3, .inl (fun _ => 0))), (g0, .inr (8, [.ref g1, .ref g2, .int 0, .int 1, .ref g3, .int 0, .ref g4, .ref g5, .ref g6, .int 0, .ref g7])), (g1, .inl (cy 0, 596, .inl (fun _ => 0))), (g2, .inl (cy 0, 596, .inl (fun _ => 0))), (g3, .inl (cy 0, 6, .inl (fun _ => 0))), (g4, .inl (cy 0, 4, .inl (fun _ => 0))), (g5, .inl (cy 0, 5, .inl (fun _ => 0))), (g6, .inl (cy 0, 4, .inl (fun _ => 0))), (g7, .inl (cy 0, 6, .inl (fun _ => 0)))] := hD
  refine lv_aload_n hx hb dL_law_413 rfl (lv_at hl 1 rfl) ?_
  refine lv_aload_n hx hb dL_law_414 rfl (lv_at hl 3 rfl) ?_
  refine lv_iload_n hx hb dL_law_415 rfl (lv_at hl 0 rfl) ?_
  refine lv_iconst (v := 1) hx hb dL_law_416 (by decide) ?_
  refine lv_iadd hx hb dL_law_417 ?_
  refine lv_topi (fun x_6 ex_6 => ?_)
  obtain rfl : x_6 = 1 := ex_6.trans (by decide)
  refine va_sld hx hb hX hbl hbA hS (by unfold vp_in; decide) dL_law_418 ?_
  refine lv_topi (fun x_7 ex_7 => ?_)
  rw [← ex_2] at ex_7; replace ex_7 := ex_7.symm; subst ex_7
  refine lv_aload_n hx hb dL_law_419 rfl (lv_at hl 3 rfl) ?_
  refine lv_iload_n hx hb dL_law_420 rfl (lv_at hl 0 rfl) ?_
  refine lv_iconst (v := 2) hx hb dL_law_421 (by decide) ?_
  refine lv_iadd hx hb dL_law_422 ?_
  refine lv_topi (fun x_8 ex_8 => ?_)
  obtain rfl : x_8 = 2 := ex_8.trans (by decide)
  refine va_sld hx hb hX hbl hbA hS (by unfold vp_in; decide) dL_law_423 ?_
  refine lv_topi (fun x_9 ex_9 => ?_)
  rw [← ex_4] at ex_9; replace ex_9 := ex_9.symm; subst ex_9
  refine yc_i (wc := [(g0, .inr (8, [.ref g1, .ref g2, .int 0, .int 1, .ref g3, .int 0, .ref g4, .ref g5, .ref g6, .int 0, .ref g7])), (g1, .inl (cy 0, 596, .inl (fun _ => 0)))]) (wr := [(h4, .inl (cy 1, 8, .inr (.inr (.inr (.inr f))))), (p9, .inr (3, [.int 0, .int 0])), (h5, .inl (cy 2, 4, .inr (.inr (.inr (.inr g))))), (m9, .inr (2, [.int 0, .int 0, .int 0])), (h2, .inr (4, [.int 0, .int 0, .int 0, .ref q1, .ref q2, .ref q3, .ref q4, .ref q5, .ref q6, .ref q7, .ref q8])), (q1, .inl (cy 0, 4, .inl (fun _ => 0))), (q2, .inl (cy 0, 4, .inl (fun _ => 0))), (q3, .inl (cy 0, 4, .inl (fun _ => 0))), (q4, .inl (cy 0, 4, .inl (fun _ => 0))), (q5, .inl (cy 0, 4, .inl (fun _ => 0))), (q6, .inl (cy 0, 4, .inl (fun _ => 0))), (q7, .inl (cy 0, 3, .inl (fun _ => 0))), (q8, .inl (cy 0, 3, .inl (fun _ => 0))), (g2, .inl (cy 0, 596, .inl (fun _ => 0))), (g3, .inl (cy 0, 6, .inl (fun _ => 0))), (g4, .inl (cy 0, 4, .inl (fun _ => 0))), (g5, .inl (cy 0, 5, .inl (fun _ => 0))), (g6, .inl (cy 0, 4, .inl (fun _ => 0))), (g7, .inl (cy 0, 6, .inl (fun _ => 0)))]) (w1 := fun _ => []) hP hD hS hA [13, 14] [0, 1, 2, 3, 4, 5, 6, 7, 8, 9, 10, 11, 12, 15, 16, 17, 18, 19, 20] rfl rfl (by decide) (by decide) (va_runV (As := [.int x_2, .int x_4]) (rest := [.int r_5]) ⟨hx, hb, hml, hown, hts⟩ (c0_X8_of l dC dI cy _ g0 g1 g2 g3 g4 g5 g6 g7 x_2 x_4) (cwV 2 hts gL_law_X8_of rfl rfl rfl (by decide +kernel) ⟨Nat.le_of_ble_eq_true rfl, Nat.le_of_ble_eq_true rfl⟩) (ex_preV hE hK hP hD [13, 14] (by decide) rfl (ci := 8) (q0 := 13) rfl rfl) rfl rfl hl.1 rfl (lv_room (Nat.le_of_ble_eq_true rfl)) dL_law_424 ⟨Nat.le_of_ble_eq_true rfl, Nat.le_of_ble_eq_true rfl⟩) (fun r_10 u_10 H locs hw_10 hP hD hS => ?_)
  have hP : va_P (dC, dI) vwCl [(h4, .inl (cy 1, 8, .inr (.inr (.inr (.inr f))))), (p9, .inr (3, [.int 0, .int 0])), (h5, .inl (cy 2, 4, .inr (.inr (.inr (.inr g))))), (m9, .inr (2, [.int 0, .int 0, .int 0])), (h2, .inr (4, [.int 0, .int 0, .int 0, .ref q1, .ref q2, .ref q3, .ref q4, .ref q5, .ref q6, .ref q7, .ref q8])), (q1, .inl (cy 0, 4, .inl (fun _ => 0))), (q2, .inl (cy 0, 4, .inl (fun _ => 0))), (q3, .inl (cy 0, 4, .inl (fun _ => 0))), (q4, .inl (cy 0, 4, .inl (fun _ => 0))), (q5, .inl (cy 0, 4, .inl (fun _ => 0))), (q6, .inl (cy 0, 4, .inl (fun _ => 0))), (q7, .inl (cy 0, 3, .inl (fun _ => 0))), (q8, .inl (cy 0, 3, .inl (fun _ => 0))), (g2, .inl (cy 0, 596, .inl (fun _ => 0))), (g3, .inl (cy 0, 6, .inl (fun _ => 0))), (g4, .inl (cy 0, 4, .inl (fun _ => 0))), (g5, .inl (cy 0, 5, .inl (fun _ => 0))), (g6, .inl (cy 0, 4, .inl (fun _ => 0))), (g7, .inl (cy 0, 6, .inl (fun _ => 0)))] H := hP
  have hD : va_D (fun q : Nat => s.heap.size ≤ q) [(h4, .inl (cy 1, 8, .inr (.inr (.inr (.inr f))))), (p9, .inr (3, [.int 0, .int 0])), (h5, .inl (cy 2, 4, .inr (.inr (.inr (.inr g))))), (m9, .inr (2, [.int 0, .int 0, .int 0])), (h2, .inr (4, [.int 0, .int 0, .int 0, .ref q1, .ref q2, .ref q3, .ref q4, .ref q5, .ref q6, .ref q7, .ref q8])), (q1, .inl (cy 0, 4, .inl (fun _ => 0))), (q2, .inl (cy 0, 4, .inl (fun _ => 0))), (q3, .inl (cy 0, 4, .inl (fun _ => 0))), (q4, .inl (cy 0, 4, .inl (fun _ => 0))), (q5, .inl (cy 0, 4, .inl (fun _ => 0))), (q6, .inl (cy 0, 4, .inl (fun _ => 0))), (q7, .inl (cy 0, 3, .inl (fun _ => 0))), (q8, .inl (cy 0, 3, .inl (fun _ => 0))), (g2, .inl (cy 0, 596, .inl (fun _ => 0))), (g3, .inl (cy 0, 6, .inl (fun _ => 0))), (g4, .inl (cy 0, 4, .inl (fun _ => 0))), (g5, .inl (cy 0, 5, .inl (fun _ => 0))), (g6, .inl (cy 0, 4, .inl (fun _ => 0))), (g7, .inl (cy 0, 6, .inl (fun _ => 0)))] := hD
  refine lv_icmp_eq (tgt := 1060) hx hb dL_law_427 (by decide) (fun _ => ?_) (fun c9 => absurd (hw_5.trans hw_10.symm) c9)
  exact law_end C0 (Nat.le_of_ble_eq_true rfl) (Nat.le_of_ble_eq_true rfl) hS ls (lv_sub hl [0, 3] rfl)

set_option maxHeartbeats 4000000 in
set_option maxRecDepth 100000 in
/-- the case of offer -/
theorem lc_8 {p : Program} {l : Launch} {e : Env} {s : State} {m : MethodId} {below : List Frame} {meth : Method} {c : Code} {dC : Nat → ClassId} {dI : Nat → Nat → Nat} {cy : Nat → ClassId} {b : Nat} {xs : Nat → Int32} (C0 : lw_At p s m meth c b 7 xs) (h0 h1 h2 h3 h4 h5 h6 p9 m9 q1 q2 q3 q4 q5 q6 q7 q8 g0 g1 g2 g3 g4 g5 g6 g7 t0 : Nat) (f g : Nat → Option Nat) (hf : f 0 = some p9) (hg : g 0 = some m9) (hSt : ex_St t0 (fun q : Nat => s.heap.size ≤ q) s) (hE : ex_K s) (hK : va_K (dC, dI) vwCl (ty_L cy) s) {H : Heap} {locs : List Loc} (hP : va_P (dC, dI) vwCl [(h0, .inr (7, [.ref h1, .ref h2, .ref h3, .null, .int 1])), (h1, .inr (1, [.int 0, .int 0, .int 0, .int 0, .ref h4, .ref h5, .ref h6])), (h4, .inl (cy 1, 8, .inr (.inr (.inr (.inr f))))), (p9, .inr (3, [.int 0, .int 0])), (h5, .inl (cy 2, 4, .inr (.inr (.inr (.inr g))))), (m9, .inr (2, [.int 0, .int 0, .int 0])), (h2, .inr (4, [.int 0, .int 0, .int 0, .ref q1, .ref q2, .ref q3, .ref q4, .ref q5, .ref q6, .ref q7, .ref q8])), (q1, .inl (cy 0, 4, .inl (fun _ => 0))), (q2, .inl (cy 0, 4, .inl (fun _ => 0))), (q3, .inl (cy 0, 4, .inl (fun _ => 0))), (q4, .inl (cy 0, 4, .inl (fun _ => 0))), (q5, .inl (cy 0, 4, .inl (fun _ => 0))), (q6, .inl (cy 0, 4, .inl (fun _ => 0))), (q7, .inl (cy 0, 3, .inl (fun _ => 0))), (q8, .inl (cy 0, 3, .inl (fun _ => 0))), (g0, .inr (8, [.ref g1, .ref g2, .int 0, .int 1, .ref g3, .int 0, .ref g4, .ref g5, .ref g6, .int 0, .ref g7])), (g1, .inl (cy 0, 596, .inl (fun _ => 0))), (g2, .inl (cy 0, 596, .inl (fun _ => 0))), (g3, .inl (cy 0, 6, .inl (fun _ => 0))), (g4, .inl (cy 0, 4, .inl (fun _ => 0))), (g5, .inl (cy 0, 5, .inl (fun _ => 0))), (g6, .inl (cy 0, 4, .inl (fun _ => 0))), (g7, .inl (cy 0, 6, .inl (fun _ => 0)))] H) (hD : va_D (fun q : Nat => s.heap.size ≤ q) [(h0, .inr (7, [.ref h1, .ref h2, .ref h3, .null, .int 1])), (h1, .inr (1, [.int 0, .int 0, .int 0, .int 0, .ref h4, .ref h5, .ref h6])), (h4, .inl (cy 1, 8, .inr (.inr (.inr (.inr f))))), (p9, .inr (3, [.int 0, .int 0])), (h5, .inl (cy 2, 4, .inr (.inr (.inr (.inr g))))), (m9, .inr (2, [.int 0, .int 0, .int 0])), (h2, .inr (4, [.int 0, .int 0, .int 0, .ref q1, .ref q2, .ref q3, .ref q4, .ref q5, .ref q6, .ref q7, .ref q8])), (q1, .inl (cy 0, 4, .inl (fun _ => 0))), (q2, .inl (cy 0, 4, .inl (fun _ => 0))), (q3, .inl (cy 0, 4, .inl (fun _ => 0))), (q4, .inl (cy 0, 4, .inl (fun _ => 0))), (q5, .inl (cy 0, 4, .inl (fun _ => 0))), (q6, .inl (cy 0, 4, .inl (fun _ => 0))), (q7, .inl (cy 0, 3, .inl (fun _ => 0))), (q8, .inl (cy 0, 3, .inl (fun _ => 0))), (g0, .inr (8, [.ref g1, .ref g2, .int 0, .int 1, .ref g3, .int 0, .ref g4, .ref g5, .ref g6, .int 0, .ref g7])), (g1, .inl (cy 0, 596, .inl (fun _ => 0))), (g2, .inl (cy 0, 596, .inl (fun _ => 0))), (g3, .inl (cy 0, 6, .inl (fun _ => 0))), (g4, .inl (cy 0, 4, .inl (fun _ => 0))), (g5, .inl (cy 0, 5, .inl (fun _ => 0))), (g6, .inl (cy 0, 4, .inl (fun _ => 0))), (g7, .inl (cy 0, 6, .inl (fun _ => 0)))]) (hS : va_S (fun q : Nat => s.heap.size ≤ q) s.heap H locs) (ls : Array Slot) (hl : lv_has ls 4 [(3, .int 0), (2, .ref g0), (1, .ref h0), (0, .ref b)]) : W p l e room_1 s m #[Value.ref b] below meth c H locs 127 1982 (lw_Z below #[Value.ref b] s) (F0 m 432 ls []) := by
  obtain ⟨hx, hb, hr, hml, hown, hts0, hX, hbl, hlocks, hgv⟩ := id C0
  have hts : ∀ w ∈ wsL_law, w.before #[Value.ref b] s = true := fun w h => hts0 w (wsL_law_in w h)
  have hown : s.vm.findClass RL = some m.cls := hown
  have hA : ∀ q : Nat, s.heap.size ≤ q → (fun q : Nat => s.heap.size ≤ q) q := fun _ h => h
  have hbA : ¬ (fun q : Nat => s.heap.size ≤ q) b := Nat.not_le.mpr hbl
  refine lv_aload_n hx hb dL_law_432 rfl (lv_at hl 2 rfl) ?_
  refine lv_aload_n hx hb dL_law_433 rfl (lv_at hl 3 rfl) ?_
  refine lv_iload_n hx hb dL_law_434 rfl (lv_at hl 0 rfl) ?_
  refine lv_iconst (v := 1) hx hb dL_law_435 (by decide) ?_
  refine lv_iadd hx hb dL_law_436 ?_
  refine lv_topi (fun x_1 ex_1 => ?_)
  obtain rfl : x_1 = 1 := ex_1.trans (by decide)
  refine va_sld hx hb hX hbl hbA hS (by unfold vp_in; decide) dL_law_437 ?_
  refine lv_topi (fun x_2 ex_2 => ?_)
  refine lv_aload_n hx hb dL_law_438 rfl (lv_at hl 3 rfl) ?_
  refine lv_iload_n hx hb dL_law_439 rfl (lv_at hl 0 rfl) ?_
  refine lv_iconst (v := 2) hx hb dL_law_440 (by decide) ?_
  refine lv_iadd hx hb dL_law_441 ?_
  refine lv_topi (fun x_3 ex_3 => ?_)
  obtain rfl : x_3 = 2 := ex_3.trans (by decide)
  refine va_sld hx hb hX hbl hbA hS (by unfold vp_in; decide) dL_law_442 ?_
  refine lv_topi (fun x_4 ex_4 => ?_)
  refine lv_aload_n hx hb dL_law_443 rfl (lv_at hl 3 rfl) ?_
  refine lv_iload_n hx hb dL_law_444 rfl (lv_at hl 0 rfl) ?_
  refine lv_iconst (v := 3) hx hb dL_law_445 (by decide) ?_
  refine lv_iadd hx hb dL_law_446 ?_
  refine lv_topi (fun x_5 ex_5 => ?_)
  obtain rfl : x_5 = 3 := ex_5.trans (by decide)
  refine va_sld hx hb hX hbl hbA hS (by unfold vp_in; decide) dL_law_447 ?_
  refine lv_topi (fun x_6 ex_6 => ?_)
  refine yc_i (wc := [(h0, .inr (7, [.ref h1, .ref h2, .ref h3, .null, .int 1])), (h1, .inr (1, [.int 0, .int 0, .int 0, .int 0, .ref h4, .ref h5, .ref h6]))]) (wr := [(h4, .inl (cy 1, 8, .inr (.inr (.inr (.inr f))))), (p9, .inr (3, [.int 0, .int 0])), (h5, .inl (cy 2, 4, .inr (.inr (.inr (.inr g))))), (m9, .inr (2, [.int 0, .int 0, .int 0])), (h2, .inr (4, [.int 0, .int 0, .int 0, .ref q1, .ref q2, .ref q3, .ref q4, .ref q5, .ref q6, .ref q7, .ref q8])), (q1, .inl (cy 0, 4, .inl (fun _ => 0))), (q2, .inl (cy 0, 4, .inl (fun _ => 0))), (q3, .inl (cy 0, 4, .inl (fun _ => 0))), (q4, .inl (cy 0, 4, .inl (fun _ => 0))), (q5, .inl (cy 0, 4, .inl (fun _ => 0))), (q6, .inl (cy 0, 4, .inl (fun _ => 0))), (q7, .inl (cy 0, 3, .inl (fun _ => 0))), (q8, .inl (cy 0, 3, .inl (fun _ => 0))), (g0, .inr (8, [.ref g1, .ref g2, .int 0, .int 1, .ref g3, .int 0, .ref g4, .ref g5, .ref g6, .int 0, .ref g7])), (g1, .inl (cy 0, 596, .inl (fun _ => 0))), (g2, .inl (cy 0, 596, .inl (fun _ => 0))), (g3, .inl (cy 0, 6, .inl (fun _ => 0))), (g4, .inl (cy 0, 4, .inl (fun _ => 0))), (g5, .inl (cy 0, 5, .inl (fun _ => 0))), (g6, .inl (cy 0, 4, .inl (fun _ => 0))), (g7, .inl (cy 0, 6, .inl (fun _ => 0)))]) (w1 := fun _ => []) hP hD hS hA [0, 1] [2, 3, 4, 5, 6, 7, 8, 9, 10, 11, 12, 13, 14, 15, 16, 17, 18, 19, 20, 21, 22] rfl rfl (by decide) (by decide) (va_runV (As := [.int x_2, .int x_4, .int x_6]) (rest := []) ⟨hx, hb, hml, hown, hts⟩ (c0_X7_offer l dC dI cy _ h0 h1 h2 h3 h4 h5 h6 x_2 x_4 x_6) (cwV 3 hts gL_law_X7_offer rfl rfl rfl (by decide +kernel) ⟨Nat.le_of_ble_eq_true rfl, Nat.le_of_ble_eq_true rfl⟩) (ex_preV hE hK hP hD [0, 1] (by decide) rfl (ci := 7) (q0 := 0) rfl rfl) rfl rfl hl.1 rfl (lv_room (Nat.le_of_ble_eq_true rfl)) dL_law_448 ⟨Nat.le_of_ble_eq_true rfl, Nat.le_of_ble_eq_true rfl⟩) (fun r_7 u_7 H locs hw_7 hP hD hS => ?_)
  have hP : va_P (dC, dI) vwCl [(h4, .inl (cy 1, 8, .inr (.inr (.inr (.inr f))))), (p9, .inr (3, [.int 0, .int 0])), (h5, .inl (cy 2, 4, .inr (.inr (.inr (.inr g))))), (m9, .inr (2, [.int 0, .int 0, .int 0])), (h2, .inr (4, [.int 0, .int 0, .int 0, .ref q1, .ref q2, .ref q3, .ref q4, .ref q5, .ref q6, .ref q7, .ref q8])), (q1, .inl (cy 0, 4, .inl (fun _ => 0))), (q2, .inl (cy 0, 4, .inl (fun _ => 0))), (q3, .inl (cy 0, 4, .inl (fun _ => 0))), (q4, .inl (cy 0, 4, .inl (fun _ => 0))), (q5, .inl (cy 0, 4, .inl (fun _ => 0))), (q6, .inl (cy 0, 4, .inl (fun _ => 0))), (q7, .inl (cy 0, 3, .inl (fun _ => 0))), (q8, .inl (cy 0, 3, .inl (fun _ => 0))), (g0, .inr (8, [.ref g1, .ref g2, .int 0, .int 1, .ref g3, .int 0, .ref g4, .ref g5, .ref g6, .int 0, .ref g7])), (g1, .inl (cy 0, 596, .inl (fun _ => 0))), (g2, .inl (cy 0, 596, .inl (fun _ => 0))), (g3, .inl (cy 0, 6, .inl (fun _ => 0))), (g4, .inl (cy 0, 4, .inl (fun _ => 0))), (g5, .inl (cy 0, 5, .inl (fun _ => 0))), (g6, .inl (cy 0, 4, .inl (fun _ => 0))), (g7, .inl (cy 0, 6, .inl (fun _ => 0)))] H := hP
  have hD : va_D (fun q : Nat => s.heap.size ≤ q) [(h4, .inl (cy 1, 8, .inr (.inr (.inr (.inr f))))), (p9, .inr (3, [.int 0, .int 0])), (h5, .inl (cy 2, 4, .inr (.inr (.inr (.inr g))))), (m9, .inr (2, [.int 0, .int 0, .int 0])), (h2, .inr (4, [.int 0, .int 0, .int 0, .ref q1, .ref q2, .ref q3, .ref q4, .ref q5, .ref q6, .ref q7, .ref q8])), (q1, .inl (cy 0, 4, .inl (fun _ => 0))), (q2, .inl (cy 0, 4, .inl (fun _ => 0))), (q3, .inl (cy 0, 4, .inl (fun _ => 0))), (q4, .inl (cy 0, 4, .inl (fun _ => 0))), (q5, .inl (cy 0, 4, .inl (fun _ => 0))), (q6, .inl (cy 0, 4, .inl (fun _ => 0))), (q7, .inl (cy 0, 3, .inl (fun _ => 0))), (q8, .inl (cy 0, 3, .inl (fun _ => 0))), (g0, .inr (8, [.ref g1, .ref g2, .int 0, .int 1, .ref g3, .int 0, .ref g4, .ref g5, .ref g6, .int 0, .ref g7])), (g1, .inl (cy 0, 596, .inl (fun _ => 0))), (g2, .inl (cy 0, 596, .inl (fun _ => 0))), (g3, .inl (cy 0, 6, .inl (fun _ => 0))), (g4, .inl (cy 0, 4, .inl (fun _ => 0))), (g5, .inl (cy 0, 5, .inl (fun _ => 0))), (g6, .inl (cy 0, 4, .inl (fun _ => 0))), (g7, .inl (cy 0, 6, .inl (fun _ => 0)))] := hD
  refine lv_aload_n hx hb dL_law_451 rfl (lv_at hl 1 rfl) ?_
  refine lv_aload_n hx hb dL_law_452 rfl (lv_at hl 3 rfl) ?_
  refine lv_iload_n hx hb dL_law_453 rfl (lv_at hl 0 rfl) ?_
  refine lv_iconst (v := 1) hx hb dL_law_454 (by decide) ?_
  refine lv_iadd hx hb dL_law_455 ?_
  refine lv_topi (fun x_8 ex_8 => ?_)
  obtain rfl : x_8 = 1 := ex_8.trans (by decide)
  refine va_sld hx hb hX hbl hbA hS (by unfold vp_in; decide) dL_law_456 ?_
  refine lv_topi (fun x_9 ex_9 => ?_)
  rw [← ex_2] at ex_9; replace ex_9 := ex_9.symm; subst ex_9
  refine lv_aload_n hx hb dL_law_457 rfl (lv_at hl 3 rfl) ?_
  refine lv_iload_n hx hb dL_law_458 rfl (lv_at hl 0 rfl) ?_
  refine lv_iconst (v := 2) hx hb dL_law_459 (by decide) ?_
  refine lv_iadd hx hb dL_law_460 ?_
  refine lv_topi (fun x_10 ex_10 => ?_)
  obtain rfl : x_10 = 2 := ex_10.trans (by decide)
  refine va_sld hx hb hX hbl hbA hS (by unfold vp_in; decide) dL_law_461 ?_
  refine lv_topi (fun x_11 ex_11 => ?_)
  rw [← ex_4] at ex_11; replace ex_11 := ex_11.symm; subst ex_11
  refine lv_aload_n hx hb dL_law_462 rfl (lv_at hl 3 rfl) ?_
  refine lv_iload_n hx hb dL_law_463 rfl (lv_at hl 0 rfl) ?_
  refine lv_iconst (v := 3) hx hb dL_law_464 (by decide) ?_
  refine lv_iadd hx hb dL_law_465 ?_
  refine lv_topi (fun x_12 ex_12 => ?_)
  obtain rfl : x_12 = 3 := ex_12.trans (by decide)
  refine va_sld hx hb hX hbl hbA hS (by unfold vp_in; decide) dL_law_466 ?_
  refine lv_topi (fun x_13 ex_13 => ?_)
  rw [← ex_6] at ex_13; replace ex_13 := ex_13.symm; subst ex_13
  refine yc_i (wc := [(g0, .inr (8, [.ref g1, .ref g2, .int 0, .int 1, .ref g3, .int 0, .ref g4, .ref g5, .ref g6, .int 0, .ref g7])), (g1, .inl (cy 0, 596, .inl (fun _ => 0)))]) (wr := [(h4, .inl (cy 1, 8, .inr (.inr (.inr (.inr f))))), (p9, .inr (3, [.int 0, .int 0])), (h5, .inl (cy 2, 4, .inr (.inr (.inr (.inr g))))), (m9, .inr (2, [.int 0, .int 0, .int 0])), (h2, .inr (4, [.int 0, .int 0, .int 0, .ref q1, .ref q2, .ref q3, .ref q4, .ref q5, .ref q6, .ref q7, .ref q8])), (q1, .inl (cy 0, 4, .inl (fun _ => 0))), (q2, .inl (cy 0, 4, .inl (fun _ => 0))), (q3, .inl (cy 0, 4, .inl (fun _ => 0))), (q4, .inl (cy 0, 4, .inl (fun _ => 0))), (q5, .inl (cy 0, 4, .inl (fun _ => 0))), (q6, .inl (cy 0, 4, .inl (fun _ => 0))), (q7, .inl (cy 0, 3, .inl (fun _ => 0))), (q8, .inl (cy 0, 3, .inl (fun _ => 0))), (g2, .inl (cy 0, 596, .inl (fun _ => 0))), (g3, .inl (cy 0, 6, .inl (fun _ => 0))), (g4, .inl (cy 0, 4, .inl (fun _ => 0))), (g5, .inl (cy 0, 5, .inl (fun _ => 0))), (g6, .inl (cy 0, 4, .inl (fun _ => 0))), (g7, .inl (cy 0, 6, .inl (fun _ => 0)))]) (w1 := fun _ => []) hP hD hS hA [13, 14] [0, 1, 2, 3, 4, 5, 6, 7, 8, 9, 10, 11, 12, 15, 16, 17, 18, 19, 20] rfl rfl (by decide) (by decide) (va_runV (As := [.int x_2, .int x_4, .int x_6]) (rest := [.int r_7]) ⟨hx, hb, hml, hown, hts⟩ (c0_X8_offer l dC dI cy _ g0 g1 g2 g3 g4 g5 g6 g7 x_2 x_4 x_6) (cwV 3 hts gL_law_X8_offer rfl rfl rfl (by decide +kernel) ⟨Nat.le_of_ble_eq_true rfl, Nat.le_of_ble_eq_true rfl⟩) (ex_preV hE hK hP hD [13, 14] (by decide) rfl (ci := 8) (q0 := 13) rfl rfl) rfl rfl hl.1 rfl (lv_room (Nat.le_of_ble_eq_true rfl)) dL_law_467 ⟨Nat.le_of_ble_eq_true rfl, Nat.le_of_ble_eq_true rfl⟩) (fun r_14 u_14 H locs hw_14 hP hD hS => ?_)
  have hP : va_P (dC, dI) vwCl [(h4, .inl (cy 1, 8, .inr (.inr (.inr (.inr f))))), (p9, .inr (3, [.int 0, .int 0])), (h5, .inl (cy 2, 4, .inr (.inr (.inr (.inr g))))), (m9, .inr (2, [.int 0, .int 0, .int 0])), (h2, .inr (4, [.int 0, .int 0, .int 0, .ref q1, .ref q2, .ref q3, .ref q4, .ref q5, .ref q6, .ref q7, .ref q8])), (q1, .inl (cy 0, 4, .inl (fun _ => 0))), (q2, .inl (cy 0, 4, .inl (fun _ => 0))), (q3, .inl (cy 0, 4, .inl (fun _ => 0))), (q4, .inl (cy 0, 4, .inl (fun _ => 0))), (q5, .inl (cy 0, 4, .inl (fun _ => 0))), (q6, .inl (cy 0, 4, .inl (fun _ => 0))), (q7, .inl (cy 0, 3, .inl (fun _ => 0))), (q8, .inl (cy 0, 3, .inl (fun _ => 0))), (g2, .inl (cy 0, 596, .inl (fun _ => 0))), (g3, .inl (cy 0, 6, .inl (fun _ => 0))), (g4, .inl (cy 0, 4, .inl (fun _ => 0))), (g5, .inl (cy 0, 5, .inl (fun _ => 0))), (g6, .inl (cy 0, 4, .inl (fun _ => 0))), (g7, .inl (cy 0, 6, .inl (fun _ => 0)))] H := hP
  have hD : va_D (fun q : Nat => s.heap.size ≤ q) [(h4, .inl (cy 1, 8, .inr (.inr (.inr (.inr f))))), (p9, .inr (3, [.int 0, .int 0])), (h5, .inl (cy 2, 4, .inr (.inr (.inr (.inr g))))), (m9, .inr (2, [.int 0, .int 0, .int 0])), (h2, .inr (4, [.int 0, .int 0, .int 0, .ref q1, .ref q2, .ref q3, .ref q4, .ref q5, .ref q6, .ref q7, .ref q8])), (q1, .inl (cy 0, 4, .inl (fun _ => 0))), (q2, .inl (cy 0, 4, .inl (fun _ => 0))), (q3, .inl (cy 0, 4, .inl (fun _ => 0))), (q4, .inl (cy 0, 4, .inl (fun _ => 0))), (q5, .inl (cy 0, 4, .inl (fun _ => 0))), (q6, .inl (cy 0, 4, .inl (fun _ => 0))), (q7, .inl (cy 0, 3, .inl (fun _ => 0))), (q8, .inl (cy 0, 3, .inl (fun _ => 0))), (g2, .inl (cy 0, 596, .inl (fun _ => 0))), (g3, .inl (cy 0, 6, .inl (fun _ => 0))), (g4, .inl (cy 0, 4, .inl (fun _ => 0))), (g5, .inl (cy 0, 5, .inl (fun _ => 0))), (g6, .inl (cy 0, 4, .inl (fun _ => 0))), (g7, .inl (cy 0, 6, .inl (fun _ => 0)))] := hD
  refine lv_icmp_eq (tgt := 1060) hx hb dL_law_470 (by decide) (fun _ => ?_) (fun c9 => absurd (hw_7.trans hw_14.symm) c9)
  exact law_end C0 (Nat.le_of_ble_eq_true rfl) (Nat.le_of_ble_eq_true rfl) hS ls (lv_sub hl [0, 3] rfl)

set_option maxHeartbeats 4000000 in
set_option maxRecDepth 100000 in
/-- the case of put -/
theorem lc_9 {p : Program} {l : Launch} {e : Env} {s : State} {m : MethodId} {below : List Frame} {meth : Method} {c : Code} {dC : Nat → ClassId} {dI : Nat → Nat → Nat} {cy : Nat → ClassId} {b : Nat} {xs : Nat → Int32} (C0 : lw_At p s m meth c b 7 xs) (h0 h1 h2 h3 h4 h5 h6 p9 m9 q1 q2 q3 q4 q5 q6 q7 q8 g0 g1 g2 g3 g4 g5 g6 g7 t0 : Nat) (f g : Nat → Option Nat) (hf : f 0 = some p9) (hg : g 0 = some m9) (hSt : ex_St t0 (fun q : Nat => s.heap.size ≤ q) s) (hE : ex_K s) (hK : va_K (dC, dI) vwCl (ty_L cy) s) {H : Heap} {locs : List Loc} (hP : va_P (dC, dI) vwCl [(h0, .inr (7, [.ref h1, .ref h2, .ref h3, .null, .int 1])), (h1, .inr (1, [.int 0, .int 0, .int 0, .int 0, .ref h4, .ref h5, .ref h6])), (h4, .inl (cy 1, 8, .inr (.inr (.inr (.inr f))))), (p9, .inr (3, [.int 0, .int 0])), (h5, .inl (cy 2, 4, .inr (.inr (.inr (.inr g))))), (m9, .inr (2, [.int 0, .int 0, .int 0])), (h2, .inr (4, [.int 0, .int 0, .int 0, .ref q1, .ref q2, .ref q3, .ref q4, .ref q5, .ref q6, .ref q7, .ref q8])), (q1, .inl (cy 0, 4, .inl (fun _ => 0))), (q2, .inl (cy 0, 4, .inl (fun _ => 0))), (q3, .inl (cy 0, 4, .inl (fun _ => 0))), (q4, .inl (cy 0, 4, .inl (fun _ => 0))), (q5, .inl (cy 0, 4, .inl (fun _ => 0))), (q6, .inl (cy 0, 4, .inl (fun _ => 0))), (q7, .inl (cy 0, 3, .inl (fun _ => 0))), (q8, .inl (cy 0, 3, .inl (fun _ => 0))), (g0, .inr (8, [.ref g1, .ref g2, .int 0, .int 1, .ref g3, .int 0, .ref g4, .ref g5, .ref g6, .int 0, .ref g7])), (g1, .inl (cy 0, 596, .inl (fun _ => 0))), (g2, .inl (cy 0, 596, .inl (fun _ => 0))), (g3, .inl (cy 0, 6, .inl (fun _ => 0))), (g4, .inl (cy 0, 4, .inl (fun _ => 0))), (g5, .inl (cy 0, 5, .inl (fun _ => 0))), (g6, .inl (cy 0, 4, .inl (fun _ => 0))), (g7, .inl (cy 0, 6, .inl (fun _ => 0)))] H) (hD : va_D (fun q : Nat => s.heap.size ≤ q) [(h0, .inr (7, [.ref h1, .ref h2, .ref h3, .null, .int 1])), (h1, .inr (1, [.int 0, .int 0, .int 0, .int 0, .ref h4, .ref h5, .ref h6])), (h4, .inl (cy 1, 8, .inr (.inr (.inr (.inr f))))), (p9, .inr (3, [.int 0, .int 0])), (h5, .inl (cy 2, 4, .inr (.inr (.inr (.inr g))))), (m9, .inr (2, [.int 0, .int 0, .int 0])), (h2, .inr (4, [.int 0, .int 0, .int 0, .ref q1, .ref q2, .ref q3, .ref q4, .ref q5, .ref q6, .ref q7, .ref q8])), (q1, .inl (cy 0, 4, .inl (fun _ => 0))), (q2, .inl (cy 0, 4, .inl (fun _ => 0))), (q3, .inl (cy 0, 4, .inl (fun _ => 0))), (q4, .inl (cy 0, 4, .inl (fun _ => 0))), (q5, .inl (cy 0, 4, .inl (fun _ => 0))), (q6, .inl (cy 0, 4, .inl (fun _ => 0))), (q7, .inl (cy 0, 3, .inl (fun _ => 0))), (q8, .inl (cy 0, 3, .inl (fun _ => 0))), (g0, .inr (8, [.ref g1, .ref g2, .int 0, .int 1, .ref g3, .int 0, .ref g4, .ref g5, .ref g6, .int 0, .ref g7])), (g1, .inl (cy 0, 596, .inl (fun _ => 0))), (g2, .inl (cy 0, 596, .inl (fun _ => 0))), (g3, .inl (cy 0, 6, .inl (fun _ => 0))), (g4, .inl (cy 0, 4, .inl (fun _ => 0))), (g5, .inl (cy 0, 5, .inl (fun _ => 0))), (g6, .inl (cy 0, 4, .inl (fun _ => 0))), (g7, .inl (cy 0, 6, .inl (fun _ => 0)))]) (hS : va_S (fun q : Nat => s.heap.size ≤ q) s.heap H locs) (ls : Array Slot) (hl : lv_has ls 4 [(3, .int 0), (2, .ref g0), (1, .ref h0), (0, .ref b)]) : W p l e room_1 s m #[Value.ref b] below meth c H locs 127 1982 (lw_Z below #[Value.ref b] s) (F0 m 475 ls []) := by
  obtain ⟨hx, hb, hr, hml, hown, hts0, hX, hbl, hlocks, hgv⟩ := id C0
  have hts : ∀ w ∈ wsL_law, w.before #[Value.ref b] s = true := fun w h => hts0 w (wsL_law_in w h)
  have hown : s.vm.findClass RL = some m.cls := hown
  have hA : ∀ q : Nat, s.heap.size ≤ q → (fun q : Nat => s.heap.size ≤ q) q := fun _ h => h
  have hbA : ¬ (fun q : Nat => s.heap.size ≤ q) b := Nat.not_le.mpr hbl
  refine lv_aload_n hx hb dL_law_475 rfl (lv_at hl 2 rfl) ?_
  refine lv_aload_n hx hb dL_law_476 rfl (lv_at hl 3 rfl) ?_
  refine lv_iload_n hx hb dL_law_477 rfl (lv_at hl 0 rfl) ?_
  refine lv_iconst (v := 1) hx hb dL_law_478 (by decide) ?_
  refine lv_iadd hx hb dL_law_479 ?_
  refine lv_topi (fun x_1 ex_1 => ?_)
  obtain rfl : x_1 = 1 := ex_1.trans (by decide)
  refine va_sld hx hb hX hbl hbA hS (by unfold vp_in; decide) dL_law_480 ?_
  refine lv_topi (fun x_2 ex_2 => ?_)
  refine lv_aload_n hx hb dL_law_481 rfl (lv_at hl 3 rfl) ?_
  refine lv_iload_n hx hb dL_law_482 rfl (lv_at hl 0 rfl) ?_
  refine lv_iconst (v := 2) hx hb dL_law_483 (by decide) ?_
  refine lv_iadd hx hb dL_law_484 ?_
  refine lv_topi (fun x_3 ex_3 => ?_)
  obtain rfl : x_3 = 2 := ex_3.trans (by decide)
  refine va_sld hx hb hX hbl hbA hS (by unfold vp_in; decide) dL_law_485 ?_
  refine lv_topi (fun x_4 ex_4 => ?_)
  refine yc_i (wc := [(h0, .inr (7, [.ref h1, .ref h2, .ref h3, .null, .int 1])), (h1, .inr (1, [.int 0, .int 0, .int 0, .int 0, .ref h4, .ref h5, .ref h6]))]) (wr := [(h4, .inl (cy 1, 8, .inr (.inr (.inr (.inr f))))), (p9, .inr (3, [.int 0, .int 0])), (h5, .inl (cy 2, 4, .inr (.inr (.inr (.inr g))))), (m9, .inr (2, [.int 0, .int 0, .int 0])), (h2, .inr (4, [.int 0, .int 0, .int 0, .ref q1, .ref q2, .ref q3, .ref q4, .ref q5, .ref q6, .ref q7, .ref q8])), (q1, .inl (cy 0, 4, .inl (fun _ => 0))), (q2, .inl (cy 0, 4, .inl (fun _ => 0))), (q3, .inl (cy 0, 4, .inl (fun _ => 0))), (q4, .inl (cy 0, 4, .inl (fun _ => 0))), (q5, .inl (cy 0, 4, .inl (fun _ => 0))), (q6, .inl (cy 0, 4, .inl (fun _ => 0))), (q7, .inl (cy 0, 3, .inl (fun _ => 0))), (q8, .inl (cy 0, 3, .inl (fun _ => 0))), (g0, .inr (8, [.ref g1, .ref g2, .int 0, .int 1, .ref g3, .int 0, .ref g4, .ref g5, .ref g6, .int 0, .ref g7])), (g1, .inl (cy 0, 596, .inl (fun _ => 0))), (g2, .inl (cy 0, 596, .inl (fun _ => 0))), (g3, .inl (cy 0, 6, .inl (fun _ => 0))), (g4, .inl (cy 0, 4, .inl (fun _ => 0))), (g5, .inl (cy 0, 5, .inl (fun _ => 0))), (g6, .inl (cy 0, 4, .inl (fun _ => 0))), (g7, .inl (cy 0, 6, .inl (fun _ => 0)))]) (w1 := fun _ => []) hP hD hS hA [0, 1] [2, 3, 4, 5, 6, 7, 8, 9, 10, 11, 12, 13, 14, 15, 16, 17, 18, 19, 20, 21, 22] rfl rfl (by decide) (by decide) (va_runV (As := [.int x_2, .int x_4]) (rest := []) ⟨hx, hb, hml, hown, hts⟩ (c0_X7_put l dC dI cy _ h0 h1 h2 h3 h4 h5 h6 x_2 x_4) (cwV 2 hts gL_law_X7_put rfl rfl rfl (by decide +kernel) ⟨Nat.le_of_ble_eq_true rfl, Nat.le_of_ble_eq_true rfl⟩) (ex_preV hE hK hP hD [0, 1] (by decide) rfl (ci := 7) (q0 := 0) rfl rfl) rfl rfl hl.1 rfl (lv_room (Nat.le_of_ble_eq_true rfl)) dL_law_486 ⟨Nat.le_of_ble_eq_true rfl, Nat.le_of_ble_eq_true rfl⟩) (fun r_5 u_5 H locs hw_5 hP hD hS => ?_)
  have hP : va_P (dC, dI) vwCl [(h4, .inl (cy 1, 8, .inr (.inr (.inr (.inr f))))), (p9, .inr (3, [.int 0, .int 0])), (h5, .inl (cy 2, 4, .inr (.inr (.inr (.inr g))))), (m9, .inr (2, [.int 0, .int 0, .int 0])), (h2, .inr (4, [.int 0, .int 0, .int 0, .ref q1, .ref q2, .ref q3, .ref q4, .ref q5, .ref q6, .ref q7, .ref q8])), (q1, .inl (cy 0, 4, .inl (fun _ => 0))), (q2, .inl (cy 0, 4, .inl (fun _ => 0))), (q3, .inl (cy 0, 4, .inl (fun _ => 0))), (q4, .inl (cy 0, 4, .inl (fun _ => 0))), (q5, .inl (cy 0, 4, .inl (fun _ => 0))), (q6, .inl (cy 0, 4, .inl (fun _ => 0))), (q7, .inl (cy 0, 3, .inl (fun _ => 0))), (q8, .inl (cy 0, 3, .inl (fun _ => 0))), (g0, .inr (8, [.ref g1, .ref g2, .int 0, .int 1, .ref g3, .int 0, .ref g4, .ref g5, .ref g6, .int 0, .ref g7])), (g1, .inl (cy 0, 596, .inl (fun _ => 0))), (g2, .inl (cy 0, 596, .inl (fun _ => 0))), (g3, .inl (cy 0, 6, .inl (fun _ => 0))), (g4, .inl (cy 0, 4, .inl (fun _ => 0))), (g5, .inl (cy 0, 5, .inl (fun _ => 0))), (g6, .inl (cy 0, 4, .inl (fun _ => 0))), (g7, .inl (cy 0, 6, .inl (fun _ => 0)))] H := hP
  have hD : va_D (fun q : Nat => s.heap.size ≤ q) [(h4, .inl (cy 1, 8, .inr (.inr (.inr (.inr f))))), (p9, .inr (3, [.int 0, .int 0])), (h5, .inl (cy 2, 4, .inr (.inr (.inr (.inr g))))), (m9, .inr (2, [.int 0, .int 0, .int 0])), (h2, .inr (4, [.int 0, .int 0, .int 0, .ref q1, .ref q2, .ref q3, .ref q4, .ref q5, .ref q6, .ref q7, .ref q8])), (q1, .inl (cy 0, 4, .inl (fun _ => 0))), (q2, .inl (cy 0, 4, .inl (fun _ => 0))), (q3, .inl (cy 0, 4, .inl (fun _ => 0))), (q4, .inl (cy 0, 4, .inl (fun _ => 0))), (q5, .inl (cy 0, 4, .inl (fun _ => 0))), (q6, .inl (cy 0, 4, .inl (fun _ => 0))), (q7, .inl (cy 0, 3, .inl (fun _ => 0))), (q8, .inl (cy 0, 3, .inl (fun _ => 0))), (g0, .inr (8, [.ref g1, .ref g2, .int 0, .int 1, .ref g3, .int 0, .ref g4, .ref g5, .ref g6, .int 0, .ref g7])), (g1, .inl (cy 0, 596, .inl (fun _ => 0))), (g2, .inl (cy 0, 596, .inl (fun _ => 0))), (g3, .inl (cy 0, 6, .inl (fun _ => 0))), (g4, .inl (cy 0, 4, .inl (fun _ => 0))), (g5, .inl (cy 0, 5, .inl (fun _ => 0))), (g6, .inl (cy 0, 4, .inl (fun _ => 0))), (g7, .inl (cy 0, 6, .inl (fun _ => 0)))] := hD
  refine lv_aload_n hx hb dL_law_489 rfl (lv_at hl 1 rfl) ?_
  refine lv_aload_n hx hb dL_law_490 rfl (lv_at hl 3 rfl) ?_
  refine lv_iload_n hx hb dL_law_491 rfl (lv_at hl 0 rfl) ?_
  refine lv_iconst (v := 1) hx hb dL_law_492 (by decide) ?_
  refine lv_iadd hx hb dL_law_493 ?_
  refine lv_topi (fun x_6 ex_6 => ?_)
  obtain rfl : x_6 = 1 := ex_6.trans (by decide)
  refine va_sld hx hb hX hbl hbA hS (by unfold vp_in; decide) dL_law_494 ?_
  refine lv_topi (fun x_7 ex_7 => ?_)
  rw [← ex_2] at ex_7; replace ex_7 := ex_7.symm; subst ex_7
  refine lv_aload_n hx hb dL_law_495 rfl (lv_at hl 3 rfl) ?_
  refine lv_iload_n hx hb dL_law_496 rfl (lv_at hl 0 rfl) ?_
  refine lv_iconst (v := 2) hx hb dL_law_497 (by decide) ?_
  refine lv_iadd hx hb dL_law_498 ?_
  refine lv_topi (fun x_8 ex_8 => ?_)
  obtain rfl : x_8 = 2 := ex_8.trans (by decide)
  refine va_sld hx hb hX hbl hbA hS (by unfold vp_in; decide) dL_law_499 ?_
  refine lv_topi (fun x_9 ex_9 => ?_)
  rw [← ex_4] at ex_9; replace ex_9 := ex_9.symm; subst ex_9
  refine yc_i (wc := [(g0, .inr (8, [.ref g1, .ref g2, .int 0, .int 1, .ref g3, .int 0, .ref g4, .ref g5, .ref g6, .int 0, .ref g7])), (g1, .inl (cy 0, 596, .inl (fun _ => 0)))]) (wr := [(h4, .inl (cy 1, 8, .inr (.inr (.inr (.inr f))))), (p9, .inr (3, [.int 0, .int 0])), (h5, .inl (cy 2, 4, .inr (.inr (.inr (.inr g))))), (m9, .inr (2, [.int 0, .int 0, .int 0])), (h2, .inr (4, [.int 0, .int 0, .int 0, .ref q1, .ref q2, .ref q3, .ref q4, .ref q5, .ref q6, .ref q7, .ref q8])), (q1, .inl (cy 0, 4, .inl (fun _ => 0))), (q2, .inl (cy 0, 4, .inl (fun _ => 0))), (q3, .inl (cy 0, 4, .inl (fun _ => 0))), (q4, .inl (cy 0, 4, .inl (fun _ => 0))), (q5, .inl (cy 0, 4, .inl (fun _ => 0))), (q6, .inl (cy 0, 4, .inl (fun _ => 0))), (q7, .inl (cy 0, 3, .inl (fun _ => 0))), (q8, .inl (cy 0, 3, .inl (fun _ => 0))), (g2, .inl (cy 0, 596, .inl (fun _ => 0))), (g3, .inl (cy 0, 6, .inl (fun _ => 0))), (g4, .inl (cy 0, 4, .inl (fun _ => 0))), (g5, .inl (cy 0, 5, .inl (fun _ => 0))), (g6, .inl (cy 0, 4, .inl (fun _ => 0))), (g7, .inl (cy 0, 6, .inl (fun _ => 0)))]) (w1 := fun _ => []) hP hD hS hA [13, 14] [0, 1, 2, 3, 4, 5, 6, 7, 8, 9, 10, 11, 12, 15, 16, 17, 18, 19, 20] rfl rfl (by decide) (by decide) (va_runV (As := [.int x_2, .int x_4]) (rest := [.int r_5]) ⟨hx, hb, hml, hown, hts⟩ (c0_X8_put l dC dI cy _ g0 g1 g2 g3 g4 g5 g6 g7 x_2 x_4) (cwV 2 hts gL_law_X8_put rfl rfl rfl (by decide +kernel) ⟨Nat.le_of_ble_eq_true rfl, Nat.le_of_ble_eq_true rfl⟩) (ex_preV hE hK hP hD [13, 14] (by decide) rfl (ci := 8) (q0 := 13) rfl rfl) rfl rfl hl.1 rfl (lv_room (Nat.le_of_ble_eq_true rfl)) dL_law_500 ⟨Nat.le_of_ble_eq_true rfl, Nat.le_of_ble_eq_true rfl⟩) (fun r_10 u_10 H locs hw_10 hP hD hS => ?_)
  have hP : va_P (dC, dI) vwCl [(h4, .inl (cy 1, 8, .inr (.inr (.inr (.inr f))))), (p9, .inr (3, [.int 0, .int 0])), (h5, .inl (cy 2, 4, .inr (.inr (.inr (.inr g))))), (m9, .inr (2, [.int 0, .int 0, .int 0])), (h2, .inr (4, [.int 0, .int 0, .int 0, .ref q1, .ref q2, .ref q3, .ref q4, .ref q5, .ref q6, .ref q7, .ref q8])), (q1, .inl (cy 0, 4, .inl (fun _ => 0))), (q2, .inl (cy 0, 4, .inl (fun _ => 0))), (q3, .inl (cy 0, 4, .inl (fun _ => 0))), (q4, .inl (cy 0, 4, .inl (fun _ => 0))), (q5, .inl (cy 0, 4, .inl (fun _ => 0))), (q6, .inl (cy 0, 4, .inl (fun _ => 0))), (q7, .inl (cy 0, 3, .inl (fun _ => 0))), (q8, .inl (cy 0, 3, .inl (fun _ => 0))), (g2, .inl (cy 0, 596, .inl (fun _ => 0))), (g3, .inl (cy 0, 6, .inl (fun _ => 0))), (g4, .inl (cy 0, 4, .inl (fun _ => 0))), (g5, .inl (cy 0, 5, .inl (fun _ => 0))), (g6, .inl (cy 0, 4, .inl (fun _ => 0))), (g7, .inl (cy 0, 6, .inl (fun _ => 0)))] H := hP
  have hD : va_D (fun q : Nat => s.heap.size ≤ q) [(h4, .inl (cy 1, 8, .inr (.inr (.inr (.inr f))))), (p9, .inr (3, [.int 0, .int 0])), (h5, .inl (cy 2, 4, .inr (.inr (.inr (.inr g))))), (m9, .inr (2, [.int 0, .int 0, .int 0])), (h2, .inr (4, [.int 0, .int 0, .int 0, .ref q1, .ref q2, .ref q3, .ref q4, .ref q5, .ref q6, .ref q7, .ref q8])), (q1, .inl (cy 0, 4, .inl (fun _ => 0))), (q2, .inl (cy 0, 4, .inl (fun _ => 0))), (q3, .inl (cy 0, 4, .inl (fun _ => 0))), (q4, .inl (cy 0, 4, .inl (fun _ => 0))), (q5, .inl (cy 0, 4, .inl (fun _ => 0))), (q6, .inl (cy 0, 4, .inl (fun _ => 0))), (q7, .inl (cy 0, 3, .inl (fun _ => 0))), (q8, .inl (cy 0, 3, .inl (fun _ => 0))), (g2, .inl (cy 0, 596, .inl (fun _ => 0))), (g3, .inl (cy 0, 6, .inl (fun _ => 0))), (g4, .inl (cy 0, 4, .inl (fun _ => 0))), (g5, .inl (cy 0, 5, .inl (fun _ => 0))), (g6, .inl (cy 0, 4, .inl (fun _ => 0))), (g7, .inl (cy 0, 6, .inl (fun _ => 0)))] := hD
  refine lv_icmp_eq (tgt := 1060) hx hb dL_law_503 (by decide) (fun _ => ?_) (fun c9 => absurd (hw_5.trans hw_10.symm) c9)
  exact law_end C0 (Nat.le_of_ble_eq_true rfl) (Nat.le_of_ble_eq_true rfl) hS ls (lv_sub hl [0, 3] rfl)

set_option maxHeartbeats 4000000 in
set_option maxRecDepth 100000 in
/-- the case of learns -/
theorem lc_10 {p : Program} {l : Launch} {e : Env} {s : State} {m : MethodId} {below : List Frame} {meth : Method} {c : Code} {dC : Nat → ClassId} {dI : Nat → Nat → Nat} {cy : Nat → ClassId} {b : Nat} {xs : Nat → Int32} (C0 : lw_At p s m meth c b 7 xs) (h0 h1 h2 h3 h4 h5 h6 p9 m9 q1 q2 q3 q4 q5 q6 q7 q8 g0 g1 g2 g3 g4 g5 g6 g7 t0 : Nat) (f g : Nat → Option Nat) (hf : f 0 = some p9) (hg : g 0 = some m9) (hSt : ex_St t0 (fun q : Nat => s.heap.size ≤ q) s) (hE : ex_K s) (hK : va_K (dC, dI) vwCl (ty_L cy) s) {H : Heap} {locs : List Loc} (hP : va_P (dC, dI) vwCl [(h0, .inr (7, [.ref h1, .ref h2, .ref h3, .null, .int 1])), (h1, .inr (1, [.int 0, .int 0, .int 0, .int 0, .ref h4, .ref h5, .ref h6])), (h4, .inl (cy 1, 8, .inr (.inr (.inr (.inr f))))), (p9, .inr (3, [.int 0, .int 0])), (h5, .inl (cy 2, 4, .inr (.inr (.inr (.inr g))))), (m9, .inr (2, [.int 0, .int 0, .int 0])), (h2, .inr (4, [.int 0, .int 0, .int 0, .ref q1, .ref q2, .ref q3, .ref q4, .ref q5, .ref q6, .ref q7, .ref q8])), (q1, .inl (cy 0, 4, .inl (fun _ => 0))), (q2, .inl (cy 0, 4, .inl (fun _ => 0))), (q3, .inl (cy 0, 4, .inl (fun _ => 0))), (q4, .inl (cy 0, 4, .inl (fun _ => 0))), (q5, .inl (cy 0, 4, .inl (fun _ => 0))), (q6, .inl (cy 0, 4, .inl (fun _ => 0))), (q7, .inl (cy 0, 3, .inl (fun _ => 0))), (q8, .inl (cy 0, 3, .inl (fun _ => 0))), (g0, .inr (8, [.ref g1, .ref g2, .int 0, .int 1, .ref g3, .int 0, .ref g4, .ref g5, .ref g6, .int 0, .ref g7])), (g1, .inl (cy 0, 596, .inl (fun _ => 0))), (g2, .inl (cy 0, 596, .inl (fun _ => 0))), (g3, .inl (cy 0, 6, .inl (fun _ => 0))), (g4, .inl (cy 0, 4, .inl (fun _ => 0))), (g5, .inl (cy 0, 5, .inl (fun _ => 0))), (g6, .inl (cy 0, 4, .inl (fun _ => 0))), (g7, .inl (cy 0, 6, .inl (fun _ => 0)))] H) (hD : va_D (fun q : Nat => s.heap.size ≤ q) [(h0, .inr (7, [.ref h1, .ref h2, .ref h3, .null, .int 1])), (h1, .inr (1, [.int 0, .int 0, .int 0, .int 0, .ref h4, .ref h5, .ref h6])), (h4, .inl (cy 1, 8, .inr (.inr (.inr (.inr f))))), (p9, .inr (3, [.int 0, .int 0])), (h5, .inl (cy 2, 4, .inr (.inr (.inr (.inr g))))), (m9, .inr (2, [.int 0, .int 0, .int 0])), (h2, .inr (4, [.int 0, .int 0, .int 0, .ref q1, .ref q2, .ref q3, .ref q4, .ref q5, .ref q6, .ref q7, .ref q8])), (q1, .inl (cy 0, 4, .inl (fun _ => 0))), (q2, .inl (cy 0, 4, .inl (fun _ => 0))), (q3, .inl (cy 0, 4, .inl (fun _ => 0))), (q4, .inl (cy 0, 4, .inl (fun _ => 0))), (q5, .inl (cy 0, 4, .inl (fun _ => 0))), (q6, .inl (cy 0, 4, .inl (fun _ => 0))), (q7, .inl (cy 0, 3, .inl (fun _ => 0))), (q8, .inl (cy 0, 3, .inl (fun _ => 0))), (g0, .inr (8, [.ref g1, .ref g2, .int 0, .int 1, .ref g3, .int 0, .ref g4, .ref g5, .ref g6, .int 0, .ref g7])), (g1, .inl (cy 0, 596, .inl (fun _ => 0))), (g2, .inl (cy 0, 596, .inl (fun _ => 0))), (g3, .inl (cy 0, 6, .inl (fun _ => 0))), (g4, .inl (cy 0, 4, .inl (fun _ => 0))), (g5, .inl (cy 0, 5, .inl (fun _ => 0))), (g6, .inl (cy 0, 4, .inl (fun _ => 0))), (g7, .inl (cy 0, 6, .inl (fun _ => 0)))]) (hS : va_S (fun q : Nat => s.heap.size ≤ q) s.heap H locs) (ls : Array Slot) (hl : lv_has ls 4 [(3, .int 0), (2, .ref g0), (1, .ref h0), (0, .ref b)]) : W p l e room_1 s m #[Value.ref b] below meth c H locs 127 1982 (lw_Z below #[Value.ref b] s) (F0 m 508 ls []) := by
  obtain ⟨hx, hb, hr, hml, hown, hts0, hX, hbl, hlocks, hgv⟩ := id C0
  have hts : ∀ w ∈ wsL_law, w.before #[Value.ref b] s = true := fun w h => hts0 w (wsL_law_in w h)
  have hown : s.vm.findClass RL = some m.cls := hown
  have hA : ∀ q : Nat, s.heap.size ≤ q → (fun q : Nat => s.heap.size ≤ q) q := fun _ h => h
  have hbA : ¬ (fun q : Nat => s.heap.size ≤ q) b := Nat.not_le.mpr hbl
  refine lv_aload_n hx hb dL_law_508 rfl (lv_at hl 2 rfl) ?_
  refine lv_aload_n hx hb dL_law_509 rfl (lv_at hl 3 rfl) ?_
  refine lv_iload_n hx hb dL_law_510 rfl (lv_at hl 0 rfl) ?_
  refine lv_iconst (v := 1) hx hb dL_law_511 (by decide) ?_
  refine lv_iadd hx hb dL_law_512 ?_
  refine lv_topi (fun x_1 ex_1 => ?_)
  obtain rfl : x_1 = 1 := ex_1.trans (by decide)
  refine va_sld hx hb hX hbl hbA hS (by unfold vp_in; decide) dL_law_513 ?_
  refine lv_topi (fun x_2 ex_2 => ?_)
  refine lv_aload_n hx hb dL_law_514 rfl (lv_at hl 3 rfl) ?_
  refine lv_iload_n hx hb dL_law_515 rfl (lv_at hl 0 rfl) ?_
  refine lv_iconst (v := 2) hx hb dL_law_516 (by decide) ?_
  refine lv_iadd hx hb dL_law_517 ?_
  refine lv_topi (fun x_3 ex_3 => ?_)
  obtain rfl : x_3 = 2 := ex_3.trans (by decide)
  refine va_sld hx hb hX hbl hbA hS (by unfold vp_in; decide) dL_law_518 ?_
  refine lv_topi (fun x_4 ex_4 => ?_)
  refine lv_aload_n hx hb dL_law_519 rfl (lv_at hl 3 rfl) ?_
  refine lv_iload_n hx hb dL_law_520 rfl (lv_at hl 0 rfl) ?_
  refine lv_iconst (v := 3) hx hb dL_law_521 (by decide) ?_
  refine lv_iadd hx hb dL_law_522 ?_
  refine lv_topi (fun x_5 ex_5 => ?_)
  obtain rfl : x_5 = 3 := ex_5.trans (by decide)
  refine va_sld hx hb hX hbl hbA hS (by unfold vp_in; decide) dL_law_523 ?_
  refine lv_topi (fun x_6 ex_6 => ?_)
  refine lv_aload_n hx hb dL_law_524 rfl (lv_at hl 3 rfl) ?_
  refine lv_iload_n hx hb dL_law_525 rfl (lv_at hl 0 rfl) ?_
  refine lv_iconst (v := 4) hx hb dL_law_526 (by decide) ?_
  refine lv_iadd hx hb dL_law_527 ?_
  refine lv_topi (fun x_7 ex_7 => ?_)
  obtain rfl : x_7 = 4 := ex_7.trans (by decide)
  refine va_sld hx hb hX hbl hbA hS (by unfold vp_in; decide) dL_law_528 ?_
  refine lv_topi (fun x_8 ex_8 => ?_)
  refine lv_if_eq (tgt := 536) hx hb dL_law_529 (by decide) (fun c_9 => ?_) (fun c_9 => ?_)
  · refine lv_iconst (v := 0) hx hb dL_law_536 (by decide) ?_
    refine yc_i (wc := [(h0, .inr (7, [.ref h1, .ref h2, .ref h3, .null, .int 1])), (h1, .inr (1, [.int 0, .int 0, .int 0, .int 0, .ref h4, .ref h5, .ref h6]))]) (wr := [(h4, .inl (cy 1, 8, .inr (.inr (.inr (.inr f))))), (p9, .inr (3, [.int 0, .int 0])), (h5, .inl (cy 2, 4, .inr (.inr (.inr (.inr g))))), (m9, .inr (2, [.int 0, .int 0, .int 0])), (h2, .inr (4, [.int 0, .int 0, .int 0, .ref q1, .ref q2, .ref q3, .ref q4, .ref q5, .ref q6, .ref q7, .ref q8])), (q1, .inl (cy 0, 4, .inl (fun _ => 0))), (q2, .inl (cy 0, 4, .inl (fun _ => 0))), (q3, .inl (cy 0, 4, .inl (fun _ => 0))), (q4, .inl (cy 0, 4, .inl (fun _ => 0))), (q5, .inl (cy 0, 4, .inl (fun _ => 0))), (q6, .inl (cy 0, 4, .inl (fun _ => 0))), (q7, .inl (cy 0, 3, .inl (fun _ => 0))), (q8, .inl (cy 0, 3, .inl (fun _ => 0))), (g0, .inr (8, [.ref g1, .ref g2, .int 0, .int 1, .ref g3, .int 0, .ref g4, .ref g5, .ref g6, .int 0, .ref g7])), (g1, .inl (cy 0, 596, .inl (fun _ => 0))), (g2, .inl (cy 0, 596, .inl (fun _ => 0))), (g3, .inl (cy 0, 6, .inl (fun _ => 0))), (g4, .inl (cy 0, 4, .inl (fun _ => 0))), (g5, .inl (cy 0, 5, .inl (fun _ => 0))), (g6, .inl (cy 0, 4, .inl (fun _ => 0))), (g7, .inl (cy 0, 6, .inl (fun _ => 0)))]) (w1 := fun _ => []) hP hD hS hA [0, 1] [2, 3, 4, 5, 6, 7, 8, 9, 10, 11, 12, 13, 14, 15, 16, 17, 18, 19, 20, 21, 22] rfl rfl (by decide) (by decide) (va_runV (As := [.int x_2, .int x_4, .int x_6, .int 0]) (rest := []) ⟨hx, hb, hml, hown, hts⟩ (c0_X7_learns l dC dI cy _ h0 h1 h2 h3 h4 h5 h6 x_2 x_4 x_6 0) (cwV 4 hts gL_law_X7_learns rfl rfl rfl (by decide +kernel) ⟨Nat.le_of_ble_eq_true rfl, Nat.le_of_ble_eq_true rfl⟩) (ex_preV hE hK hP hD [0, 1] (by decide) rfl (ci := 7) (q0 := 0) rfl rfl) rfl rfl hl.1 rfl (lv_room (Nat.le_of_ble_eq_true rfl)) dL_law_537 ⟨Nat.le_of_ble_eq_true rfl, Nat.le_of_ble_eq_true rfl⟩) (fun r_10 u_10 H locs hw_10 hP hD hS => ?_)
    have hP : va_P (dC, dI) vwCl [(h4, .inl (cy 1, 8, .inr (.inr (.inr (.inr f))))), (p9, .inr (3, [.int 0, .int 0])), (h5, .inl (cy 2, 4, .inr (.inr (.inr (.inr g))))), (m9, .inr (2, [.int 0, .int 0, .int 0])), (h2, .inr (4, [.int 0, .int 0, .int 0, .ref q1, .ref q2, .ref q3, .ref q4, .ref q5, .ref q6, .ref q7, .ref q8])), (q1, .inl (cy 0, 4, .inl (fun _ => 0))), (q2, .inl (cy 0, 4, .inl (fun _ => 0))), (q3, .inl (cy 0, 4, .inl (fun _ => 0))), (q4, .inl (cy 0, 4, .inl (fun _ => 0))), (q5, .inl (cy 0, 4, .inl (fun _ => 0))), (q6, .inl (cy 0, 4, .inl (fun _ => 0))), (q7, .inl (cy 0, 3, .inl (fun _ => 0))), (q8, .inl (cy 0, 3, .inl (fun _ => 0))), (g0, .inr (8, [.ref g1, .ref g2, .int 0, .int 1, .ref g3, .int 0, .ref g4, .ref g5, .ref g6, .int 0, .ref g7])), (g1, .inl (cy 0, 596, .inl (fun _ => 0))), (g2, .inl (cy 0, 596, .inl (fun _ => 0))), (g3, .inl (cy 0, 6, .inl (fun _ => 0))), (g4, .inl (cy 0, 4, .inl (fun _ => 0))), (g5, .inl (cy 0, 5, .inl (fun _ => 0))), (g6, .inl (cy 0, 4, .inl (fun _ => 0))), (g7, .inl (cy 0, 6, .inl (fun _ => 0)))] H := hP
    have hD : va_D (fun q : Nat => s.heap.size ≤ q) [(h4, .inl (cy 1, 8, .inr (.inr (.inr (.inr f))))), (p9, .inr (3, [.int 0, .int 0])), (h5, .inl (cy 2, 4, .inr (.inr (.inr (.inr g))))), (m9, .inr (2, [.int 0, .int 0, .int 0])), (h2, .inr (4, [.int 0, .int 0, .int 0, .ref q1, .ref q2, .ref q3, .ref q4, .ref q5, .ref q6, .ref q7, .ref q8])), (q1, .inl (cy 0, 4, .inl (fun _ => 0))), (q2, .inl (cy 0, 4, .inl (fun _ => 0))), (q3, .inl (cy 0, 4, .inl (fun _ => 0))), (q4, .inl (cy 0, 4, .inl (fun _ => 0))), (q5, .inl (cy 0, 4, .inl (fun _ => 0))), (q6, .inl (cy 0, 4, .inl (fun _ => 0))), (q7, .inl (cy 0, 3, .inl (fun _ => 0))), (q8, .inl (cy 0, 3, .inl (fun _ => 0))), (g0, .inr (8, [.ref g1, .ref g2, .int 0, .int 1, .ref g3, .int 0, .ref g4, .ref g5, .ref g6, .int 0, .ref g7])), (g1, .inl (cy 0, 596, .inl (fun _ => 0))), (g2, .inl (cy 0, 596, .inl (fun _ => 0))), (g3, .inl (cy 0, 6, .inl (fun _ => 0))), (g4, .inl (cy 0, 4, .inl (fun _ => 0))), (g5, .inl (cy 0, 5, .inl (fun _ => 0))), (g6, .inl (cy 0, 4, .inl (fun _ => 0))), (g7, .inl (cy 0, 6, .inl (fun _ => 0)))] := hD
    refine lv_aload_n hx hb dL_law_540 rfl (lv_at hl 1 rfl) ?_
    refine lv_aload_n hx hb dL_law_541 rfl (lv_at hl 3 rfl) ?_
    refine lv_iload_n hx hb dL_law_542 rfl (lv_at hl 0 rfl) ?_
    refine lv_iconst (v := 1) hx hb dL_law_543 (by decide) ?_
    refine lv_iadd hx hb dL_law_544 ?_
    refine lv_topi (fun x_11 ex_11 => ?_)
    obtain rfl : x_11 = 1 := ex_11.trans (by decide)
    refine va_sld hx hb hX hbl hbA hS (by unfold vp_in; decide) dL_law_545 ?_
    refine lv_topi (fun x_12 ex_12 => ?_)
    rw [← ex_2] at ex_12; replace ex_12 := ex_12.symm; subst ex_12
    refine lv_aload_n hx hb dL_law_546 rfl (lv_at hl 3 rfl) ?_
    refine lv_iload_n hx hb dL_law_547 rfl (lv_at hl 0 rfl) ?_
    refine lv_iconst (v := 2) hx hb dL_law_548 (by decide) ?_
    refine lv_iadd hx hb dL_law_549 ?_
    refine lv_topi (fun x_13 ex_13 => ?_)
    obtain rfl : x_13 = 2 := ex_13.trans (by decide)
    refine va_sld hx hb hX hbl hbA hS (by unfold vp_in; decide) dL_law_550 ?_
    refine lv_topi (fun x_14 ex_14 => ?_)
    rw [← ex_4] at ex_14; replace ex_14 := ex_14.symm; subst ex_14
    refine lv_aload_n hx hb dL_law_551 rfl (lv_at hl 3 rfl) ?_
    refine lv_iload_n hx hb dL_law_552 rfl (lv_at hl 0 rfl) ?_
    refine lv_iconst (v := 3) hx hb dL_law_553 (by decide) ?_
    refine lv_iadd hx hb dL_law_554 ?_
    refine lv_topi (fun x_15 ex_15 => ?_)
    obtain rfl : x_15 = 3 := ex_15.trans (by decide)
    refine va_sld hx hb hX hbl hbA hS (by unfold vp_in; decide) dL_law_555 ?_
    refine lv_topi (fun x_16 ex_16 => ?_)
    rw [← ex_6] at ex_16; replace ex_16 := ex_16.symm; subst ex_16
    refine lv_aload_n hx hb dL_law_556 rfl (lv_at hl 3 rfl) ?_
    refine lv_iload_n hx hb dL_law_557 rfl (lv_at hl 0 rfl) ?_
    refine lv_iconst (v := 4) hx hb dL_law_558 (by decide) ?_
    refine lv_iadd hx hb dL_law_559 ?_
    refine lv_topi (fun x_17 ex_17 => ?_)
    obtain rfl : x_17 = 4 := ex_17.trans (by decide)
    refine va_sld hx hb hX hbl hbA hS (by unfold vp_in; decide) dL_law_560 ?_
    refine lv_topi (fun x_18 ex_18 => ?_)
    rw [← ex_8] at ex_18; replace ex_18 := ex_18.symm; subst ex_18
    refine lv_if_eq (tgt := 568) hx hb dL_law_561 (by decide) (fun _ => ?_) (fun c9 => absurd c_9 c9)
    refine lv_iconst (v := 0) hx hb dL_law_568 (by decide) ?_
    refine yc_i (wc := [(g0, .inr (8, [.ref g1, .ref g2, .int 0, .int 1, .ref g3, .int 0, .ref g4, .ref g5, .ref g6, .int 0, .ref g7])), (g1, .inl (cy 0, 596, .inl (fun _ => 0)))]) (wr := [(h4, .inl (cy 1, 8, .inr (.inr (.inr (.inr f))))), (p9, .inr (3, [.int 0, .int 0])), (h5, .inl (cy 2, 4, .inr (.inr (.inr (.inr g))))), (m9, .inr (2, [.int 0, .int 0, .int 0])), (h2, .inr (4, [.int 0, .int 0, .int 0, .ref q1, .ref q2, .ref q3, .ref q4, .ref q5, .ref q6, .ref q7, .ref q8])), (q1, .inl (cy 0, 4, .inl (fun _ => 0))), (q2, .inl (cy 0, 4, .inl (fun _ => 0))), (q3, .inl (cy 0, 4, .inl (fun _ => 0))), (q4, .inl (cy 0, 4, .inl (fun _ => 0))), (q5, .inl (cy 0, 4, .inl (fun _ => 0))), (q6, .inl (cy 0, 4, .inl (fun _ => 0))), (q7, .inl (cy 0, 3, .inl (fun _ => 0))), (q8, .inl (cy 0, 3, .inl (fun _ => 0))), (g2, .inl (cy 0, 596, .inl (fun _ => 0))), (g3, .inl (cy 0, 6, .inl (fun _ => 0))), (g4, .inl (cy 0, 4, .inl (fun _ => 0))), (g5, .inl (cy 0, 5, .inl (fun _ => 0))), (g6, .inl (cy 0, 4, .inl (fun _ => 0))), (g7, .inl (cy 0, 6, .inl (fun _ => 0)))]) (w1 := fun _ => []) hP hD hS hA [13, 14] [0, 1, 2, 3, 4, 5, 6, 7, 8, 9, 10, 11, 12, 15, 16, 17, 18, 19, 20] rfl rfl (by decide) (by decide) (va_runV (As := [.int x_2, .int x_4, .int x_6, .int 0]) (rest := [.int r_10]) ⟨hx, hb, hml, hown, hts⟩ (c0_X8_learns l dC dI cy _ g0 g1 g2 g3 g4 g5 g6 g7 x_2 x_4 x_6 0) (cwV 4 hts gL_law_X8_learns rfl rfl rfl (by decide +kernel) ⟨Nat.le_of_ble_eq_true rfl, Nat.le_of_ble_eq_true rfl⟩) (ex_preV hE hK hP hD [13, 14] (by decide) rfl (ci := 8) (q0 := 13) rfl rfl) rfl rfl hl.1 rfl (lv_room (Nat.le_of_ble_eq_true rfl)) dL_law_569 ⟨Nat.le_of_ble_eq_true rfl, Nat.le_of_ble_eq_true rfl⟩) (fun r_19 u_19 H locs hw_19 hP hD hS => ?_)
    have hP : va_P (dC, dI) vwCl [(h4, .inl (cy 1, 8, .inr (.inr (.inr (.inr f))))), (p9, .inr (3, [.int 0, .int 0])), (h5, .inl (cy 2, 4, .inr (.inr (.inr (.inr g))))), (m9, .inr (2, [.int 0, .int 0, .int 0])), (h2, .inr (4, [.int 0, .int 0, .int 0, .ref q1, .ref q2, .ref q3, .ref q4, .ref q5, .ref q6, .ref q7, .ref q8])), (q1, .inl (cy 0, 4, .inl (fun _ => 0))), (q2, .inl (cy 0, 4, .inl (fun _ => 0))), (q3, .inl (cy 0, 4, .inl (fun _ => 0))), (q4, .inl (cy 0, 4, .inl (fun _ => 0))), (q5, .inl (cy 0, 4, .inl (fun _ => 0))), (q6, .inl (cy 0, 4, .inl (fun _ => 0))), (q7, .inl (cy 0, 3, .inl (fun _ => 0))), (q8, .inl (cy 0, 3, .inl (fun _ => 0))), (g2, .inl (cy 0, 596, .inl (fun _ => 0))), (g3, .inl (cy 0, 6, .inl (fun _ => 0))), (g4, .inl (cy 0, 4, .inl (fun _ => 0))), (g5, .inl (cy 0, 5, .inl (fun _ => 0))), (g6, .inl (cy 0, 4, .inl (fun _ => 0))), (g7, .inl (cy 0, 6, .inl (fun _ => 0)))] H := hP
    have hD : va_D (fun q : Nat => s.heap.size ≤ q) [(h4, .inl (cy 1, 8, .inr (.inr (.inr (.inr f))))), (p9, .inr (3, [.int 0, .int 0])), (h5, .inl (cy 2, 4, .inr (.inr (.inr (.inr g))))), (m9, .inr (2, [.int 0, .int 0, .int 0])), (h2, .inr (4, [.int 0, .int 0, .int 0, .ref q1, .ref q2, .ref q3, .ref q4, .ref q5, .ref q6, .ref q7, .ref q8])), (q1, .inl (cy 0, 4, .inl (fun _ => 0))), (q2, .inl (cy 0, 4, .inl (fun _ => 0))), (q3, .inl (cy 0, 4, .inl (fun _ => 0))), (q4, .inl (cy 0, 4, .inl (fun _ => 0))), (q5, .inl (cy 0, 4, .inl (fun _ => 0))), (q6, .inl (cy 0, 4, .inl (fun _ => 0))), (q7, .inl (cy 0, 3, .inl (fun _ => 0))), (q8, .inl (cy 0, 3, .inl (fun _ => 0))), (g2, .inl (cy 0, 596, .inl (fun _ => 0))), (g3, .inl (cy 0, 6, .inl (fun _ => 0))), (g4, .inl (cy 0, 4, .inl (fun _ => 0))), (g5, .inl (cy 0, 5, .inl (fun _ => 0))), (g6, .inl (cy 0, 4, .inl (fun _ => 0))), (g7, .inl (cy 0, 6, .inl (fun _ => 0)))] := hD
    refine lv_icmp_eq (tgt := 1060) hx hb dL_law_572 (by decide) (fun _ => ?_) (fun c9 => absurd (hw_10.trans hw_19.symm) c9)
    exact law_end C0 (Nat.le_of_ble_eq_true rfl) (Nat.le_of_ble_eq_true rfl) hS ls (lv_sub hl [0, 3] rfl)
  · refine lv_iconst (v := 1) hx hb dL_law_532 (by decide) ?_
    refine lv_goto (tgt := 537) hx hb dL_law_533 (by decide) ?_
    refine yc_i (wc := [(h0, .inr (7, [.ref h1, .ref h2, .ref h3, .null, .int 1])), (h1, .inr (1, [.int 0, .int 0, .int 0, .int 0, .ref h4, .ref h5, .ref h6]))]) (wr := [(h4, .inl (cy 1, 8, .inr (.inr (.inr (.inr f))))), (p9, .inr (3, [.int 0, .int 0])), (h5, .inl (cy 2, 4, .inr (.inr (.inr (.inr g))))), (m9, .inr (2, [.int 0, .int 0, .int 0])), (h2, .inr (4, [.int 0, .int 0, .int 0, .ref q1, .ref q2, .ref q3, .ref q4, .ref q5, .ref q6, .ref q7, .ref q8])), (q1, .inl (cy 0, 4, .inl (fun _ => 0))), (q2, .inl (cy 0, 4, .inl (fun _ => 0))), (q3, .inl (cy 0, 4, .inl (fun _ => 0))), (q4, .inl (cy 0, 4, .inl (fun _ => 0))), (q5, .inl (cy 0, 4, .inl (fun _ => 0))), (q6, .inl (cy 0, 4, .inl (fun _ => 0))), (q7, .inl (cy 0, 3, .inl (fun _ => 0))), (q8, .inl (cy 0, 3, .inl (fun _ => 0))), (g0, .inr (8, [.ref g1, .ref g2, .int 0, .int 1, .ref g3, .int 0, .ref g4, .ref g5, .ref g6, .int 0, .ref g7])), (g1, .inl (cy 0, 596, .inl (fun _ => 0))), (g2, .inl (cy 0, 596, .inl (fun _ => 0))), (g3, .inl (cy 0, 6, .inl (fun _ => 0))), (g4, .inl (cy 0, 4, .inl (fun _ => 0))), (g5, .inl (cy 0, 5, .inl (fun _ => 0))), (g6, .inl (cy 0, 4, .inl (fun _ => 0))), (g7, .inl (cy 0, 6, .inl (fun _ => 0)))]) (w1 := fun _ => []) hP hD hS hA [0, 1] [2, 3, 4, 5, 6, 7, 8, 9, 10, 11, 12, 13, 14, 15, 16, 17, 18, 19, 20, 21, 22] rfl rfl (by decide) (by decide) (va_runV (As := [.int x_2, .int x_4, .int x_6, .int 1]) (rest := []) ⟨hx, hb, hml, hown, hts⟩ (c0_X7_learns l dC dI cy _ h0 h1 h2 h3 h4 h5 h6 x_2 x_4 x_6 1) (cwV 4 hts gL_law_X7_learns rfl rfl rfl (by decide +kernel) ⟨Nat.le_of_ble_eq_true rfl, Nat.le_of_ble_eq_true rfl⟩) (ex_preV hE hK hP hD [0, 1] (by decide) rfl (ci := 7) (q0 := 0) rfl rfl) rfl rfl hl.1 rfl (lv_room (Nat.le_of_ble_eq_true rfl)) dL_law_537 ⟨Nat.le_of_ble_eq_true rfl, Nat.le_of_ble_eq_true rfl⟩) (fun r_10 u_10 H locs hw_10 hP hD hS => ?_)
    have hP : va_P (dC, dI) vwCl [(h4, .inl (cy 1, 8, .inr (.inr (.inr (.inr f))))), (p9, .inr (3, [.int 0, .int 0])), (h5, .inl (cy 2, 4, .inr (.inr (.inr (.inr g))))), (m9, .inr (2, [.int 0, .int 0, .int 0])), (h2, .inr (4, [.int 0, .int 0, .int 0, .ref q1, .ref q2, .ref q3, .ref q4, .ref q5, .ref q6, .ref q7, .ref q8])), (q1, .inl (cy 0, 4, .inl (fun _ => 0))), (q2, .inl (cy 0, 4, .inl (fun _ => 0))), (q3, .inl (cy 0, 4, .inl (fun _ => 0))), (q4, .inl (cy 0, 4, .inl (fun _ => 0))), (q5, .inl (cy 0, 4, .inl (fun _ => 0))), (q6, .inl (cy 0, 4, .inl (fun _ => 0))), (q7, .inl (cy 0, 3, .inl (fun _ => 0))), (q8, .inl (cy 0, 3, .inl (fun _ => 0))), (g0, .inr (8, [.ref g1, .ref g2, .int 0, .int 1, .ref g3, .int 0, .ref g4, .ref g5, .ref g6, .int 0, .ref g7])), (g1, .inl (cy 0, 596, .inl (fun _ => 0))), (g2, .inl (cy 0, 596, .inl (fun _ => 0))), (g3, .inl (cy 0, 6, .inl (fun _ => 0))), (g4, .inl (cy 0, 4, .inl (fun _ => 0))), (g5, .inl (cy 0, 5, .inl (fun _ => 0))), (g6, .inl (cy 0, 4, .inl (fun _ => 0))), (g7, .inl (cy 0, 6, .inl (fun _ => 0)))] H := hP
    have hD : va_D (fun q : Nat => s.heap.size ≤ q) [(h4, .inl (cy 1, 8, .inr (.inr (.inr (.inr f))))), (p9, .inr (3, [.int 0, .int 0])), (h5, .inl (cy 2, 4, .inr (.inr (.inr (.inr g))))), (m9, .inr (2, [.int 0, .int 0, .int 0])), (h2, .inr (4, [.int 0, .int 0, .int 0, .ref q1, .ref q2, .ref q3, .ref q4, .ref q5, .ref q6, .ref q7, .ref q8])), (q1, .inl (cy 0, 4, .inl (fun _ => 0))), (q2, .inl (cy 0, 4, .inl (fun _ => 0))), (q3, .inl (cy 0, 4, .inl (fun _ => 0))), (q4, .inl (cy 0, 4, .inl (fun _ => 0))), (q5, .inl (cy 0, 4, .inl (fun _ => 0))), (q6, .inl (cy 0, 4, .inl (fun _ => 0))), (q7, .inl (cy 0, 3, .inl (fun _ => 0))), (q8, .inl (cy 0, 3, .inl (fun _ => 0))), (g0, .inr (8, [.ref g1, .ref g2, .int 0, .int 1, .ref g3, .int 0, .ref g4, .ref g5, .ref g6, .int 0, .ref g7])), (g1, .inl (cy 0, 596, .inl (fun _ => 0))), (g2, .inl (cy 0, 596, .inl (fun _ => 0))), (g3, .inl (cy 0, 6, .inl (fun _ => 0))), (g4, .inl (cy 0, 4, .inl (fun _ => 0))), (g5, .inl (cy 0, 5, .inl (fun _ => 0))), (g6, .inl (cy 0, 4, .inl (fun _ => 0))), (g7, .inl (cy 0, 6, .inl (fun _ => 0)))] := hD
    refine lv_aload_n hx hb dL_law_540 rfl (lv_at hl 1 rfl) ?_
    refine lv_aload_n hx hb dL_law_541 rfl (lv_at hl 3 rfl) ?_
    refine lv_iload_n hx hb dL_law_542 rfl (lv_at hl 0 rfl) ?_
    refine lv_iconst (v := 1) hx hb dL_law_543 (by decide) ?_
    refine lv_iadd hx hb dL_law_544 ?_
    refine lv_topi (fun x_11 ex_11 => ?_)
    obtain rfl : x_11 = 1 := ex_11.trans (by decide)
    refine va_sld hx hb hX hbl hbA hS (by unfold vp_in; decide) dL_law_545 ?_
    refine lv_topi (fun x_12 ex_12 => ?_)
    rw [← ex_2] at ex_12; replace ex_12 := ex_12.symm; subst ex_12
    refine lv_aload_n hx hb dL_law_546 rfl (lv_at hl 3 rfl) ?_
    refine lv_iload_n hx hb dL_law_547 rfl (lv_at hl 0 rfl) ?_
    refine lv_iconst (v := 2) hx hb dL_law_548 (by decide) ?_
    refine lv_iadd hx hb dL_law_549 ?_
    refine lv_topi (fun x_13 ex_13 => ?_)
    obtain rfl : x_13 = 2 := ex_13.trans (by decide)
    refine va_sld hx hb hX hbl hbA hS (by unfold vp_in; decide) dL_law_550 ?_
    refine lv_topi (fun x_14 ex_14 => ?_)
    rw [← ex_4] at ex_14; replace ex_14 := ex_14.symm; subst ex_14
    refine lv_aload_n hx hb dL_law_551 rfl (lv_at hl 3 rfl) ?_
    refine lv_iload_n hx hb dL_law_552 rfl (lv_at hl 0 rfl) ?_
    refine lv_iconst (v := 3) hx hb dL_law_553 (by decide) ?_
    refine lv_iadd hx hb dL_law_554 ?_
    refine lv_topi (fun x_15 ex_15 => ?_)
    obtain rfl : x_15 = 3 := ex_15.trans (by decide)
    refine va_sld hx hb hX hbl hbA hS (by unfold vp_in; decide) dL_law_555 ?_
    refine lv_topi (fun x_16 ex_16 => ?_)
    rw [← ex_6] at ex_16; replace ex_16 := ex_16.symm; subst ex_16
    refine lv_aload_n hx hb dL_law_556 rfl (lv_at hl 3 rfl) ?_
    refine lv_iload_n hx hb dL_law_557 rfl (lv_at hl 0 rfl) ?_
    refine lv_iconst (v := 4) hx hb dL_law_558 (by decide) ?_
    refine lv_iadd hx hb dL_law_559 ?_
    refine lv_topi (fun x_17 ex_17 => ?_)
    obtain rfl : x_17 = 4 := ex_17.trans (by decide)
    refine va_sld hx hb hX hbl hbA hS (by unfold vp_in; decide) dL_law_560 ?_
    refine lv_topi (fun x_18 ex_18 => ?_)
    rw [← ex_8] at ex_18; replace ex_18 := ex_18.symm; subst ex_18
    refine lv_if_eq (tgt := 568) hx hb dL_law_561 (by decide) (fun c9 => absurd c9 c_9) (fun _ => ?_)
    refine lv_iconst (v := 1) hx hb dL_law_564 (by decide) ?_
    refine lv_goto (tgt := 569) hx hb dL_law_565 (by decide) ?_
    refine yc_i (wc := [(g0, .inr (8, [.ref g1, .ref g2, .int 0, .int 1, .ref g3, .int 0, .ref g4, .ref g5, .ref g6, .int 0, .ref g7])), (g1, .inl (cy 0, 596, .inl (fun _ => 0)))]) (wr := [(h4, .inl (cy 1, 8, .inr (.inr (.inr (.inr f))))), (p9, .inr (3, [.int 0, .int 0])), (h5, .inl (cy 2, 4, .inr (.inr (.inr (.inr g))))), (m9, .inr (2, [.int 0, .int 0, .int 0])), (h2, .inr (4, [.int 0, .int 0, .int 0, .ref q1, .ref q2, .ref q3, .ref q4, .ref q5, .ref q6, .ref q7, .ref q8])), (q1, .inl (cy 0, 4, .inl (fun _ => 0))), (q2, .inl (cy 0, 4, .inl (fun _ => 0))), (q3, .inl (cy 0, 4, .inl (fun _ => 0))), (q4, .inl (cy 0, 4, .inl (fun _ => 0))), (q5, .inl (cy 0, 4, .inl (fun _ => 0))), (q6, .inl (cy 0, 4, .inl (fun _ => 0))), (q7, .inl (cy 0, 3, .inl (fun _ => 0))), (q8, .inl (cy 0, 3, .inl (fun _ => 0))), (g2, .inl (cy 0, 596, .inl (fun _ => 0))), (g3, .inl (cy 0, 6, .inl (fun _ => 0))), (g4, .inl (cy 0, 4, .inl (fun _ => 0))), (g5, .inl (cy 0, 5, .inl (fun _ => 0))), (g6, .inl (cy 0, 4, .inl (fun _ => 0))), (g7, .inl (cy 0, 6, .inl (fun _ => 0)))]) (w1 := fun _ => []) hP hD hS hA [13, 14] [0, 1, 2, 3, 4, 5, 6, 7, 8, 9, 10, 11, 12, 15, 16, 17, 18, 19, 20] rfl rfl (by decide) (by decide) (va_runV (As := [.int x_2, .int x_4, .int x_6, .int 1]) (rest := [.int r_10]) ⟨hx, hb, hml, hown, hts⟩ (c0_X8_learns l dC dI cy _ g0 g1 g2 g3 g4 g5 g6 g7 x_2 x_4 x_6 1) (cwV 4 hts gL_law_X8_learns rfl rfl rfl (by decide +kernel) ⟨Nat.le_of_ble_eq_true rfl, Nat.le_of_ble_eq_true rfl⟩) (ex_preV hE hK hP hD [13, 14] (by decide) rfl (ci := 8) (q0 := 13) rfl rfl) rfl rfl hl.1 rfl (lv_room (Nat.le_of_ble_eq_true rfl)) dL_law_569 ⟨Nat.le_of_ble_eq_true rfl, Nat.le_of_ble_eq_true rfl⟩) (fun r_19 u_19 H locs hw_19 hP hD hS => ?_)
    have hP : va_P (dC, dI) vwCl [(h4, .inl (cy 1, 8, .inr (.inr (.inr (.inr f))))), (p9, .inr (3, [.int 0, .int 0])), (h5, .inl (cy 2, 4, .inr (.inr (.inr (.inr g))))), (m9, .inr (2, [.int 0, .int 0, .int 0])), (h2, .inr (4, [.int 0, .int 0, .int 0, .ref q1, .ref q2, .ref q3, .ref q4, .ref q5, .ref q6, .ref q7, .ref q8])), (q1, .inl (cy 0, 4, .inl (fun _ => 0))), (q2, .inl (cy 0, 4, .inl (fun _ => 0))), (q3, .inl (cy 0, 4, .inl (fun _ => 0))), (q4, .inl (cy 0, 4, .inl (fun _ => 0))), (q5, .inl (cy 0, 4, .inl (fun _ => 0))), (q6, .inl (cy 0, 4, .inl (fun _ => 0))), (q7, .inl (cy 0, 3, .inl (fun _ => 0))), (q8, .inl (cy 0, 3, .inl (fun _ => 0))), (g2, .inl (cy 0, 596, .inl (fun _ => 0))), (g3, .inl (cy 0, 6, .inl (fun _ => 0))), (g4, .inl (cy 0, 4, .inl (fun _ => 0))), (g5, .inl (cy 0, 5, .inl (fun _ => 0))), (g6, .inl (cy 0, 4, .inl (fun _ => 0))), (g7, .inl (cy 0, 6, .inl (fun _ => 0)))] H := hP
    have hD : va_D (fun q : Nat => s.heap.size ≤ q) [(h4, .inl (cy 1, 8, .inr (.inr (.inr (.inr f))))), (p9, .inr (3, [.int 0, .int 0])), (h5, .inl (cy 2, 4, .inr (.inr (.inr (.inr g))))), (m9, .inr (2, [.int 0, .int 0, .int 0])), (h2, .inr (4, [.int 0, .int 0, .int 0, .ref q1, .ref q2, .ref q3, .ref q4, .ref q5, .ref q6, .ref q7, .ref q8])), (q1, .inl (cy 0, 4, .inl (fun _ => 0))), (q2, .inl (cy 0, 4, .inl (fun _ => 0))), (q3, .inl (cy 0, 4, .inl (fun _ => 0))), (q4, .inl (cy 0, 4, .inl (fun _ => 0))), (q5, .inl (cy 0, 4, .inl (fun _ => 0))), (q6, .inl (cy 0, 4, .inl (fun _ => 0))), (q7, .inl (cy 0, 3, .inl (fun _ => 0))), (q8, .inl (cy 0, 3, .inl (fun _ => 0))), (g2, .inl (cy 0, 596, .inl (fun _ => 0))), (g3, .inl (cy 0, 6, .inl (fun _ => 0))), (g4, .inl (cy 0, 4, .inl (fun _ => 0))), (g5, .inl (cy 0, 5, .inl (fun _ => 0))), (g6, .inl (cy 0, 4, .inl (fun _ => 0))), (g7, .inl (cy 0, 6, .inl (fun _ => 0)))] := hD
    refine lv_icmp_eq (tgt := 1060) hx hb dL_law_572 (by decide) (fun _ => ?_) (fun c9 => absurd (hw_10.trans hw_19.symm) c9)
    exact law_end C0 (Nat.le_of_ble_eq_true rfl) (Nat.le_of_ble_eq_true rfl) hS ls (lv_sub hl [0, 3] rfl)

set_option maxHeartbeats 4000000 in
set_option maxRecDepth 100000 in
/-- the case of maySit -/
theorem lc_11 {p : Program} {l : Launch} {e : Env} {s : State} {m : MethodId} {below : List Frame} {meth : Method} {c : Code} {dC : Nat → ClassId} {dI : Nat → Nat → Nat} {cy : Nat → ClassId} {b : Nat} {xs : Nat → Int32} (C0 : lw_At p s m meth c b 7 xs) (h0 h1 h2 h3 h4 h5 h6 p9 m9 q1 q2 q3 q4 q5 q6 q7 q8 g0 g1 g2 g3 g4 g5 g6 g7 t0 : Nat) (f g : Nat → Option Nat) (hf : f 0 = some p9) (hg : g 0 = some m9) (hSt : ex_St t0 (fun q : Nat => s.heap.size ≤ q) s) (hE : ex_K s) (hK : va_K (dC, dI) vwCl (ty_L cy) s) {H : Heap} {locs : List Loc} (hP : va_P (dC, dI) vwCl [(h0, .inr (7, [.ref h1, .ref h2, .ref h3, .null, .int 1])), (h1, .inr (1, [.int 0, .int 0, .int 0, .int 0, .ref h4, .ref h5, .ref h6])), (h4, .inl (cy 1, 8, .inr (.inr (.inr (.inr f))))), (p9, .inr (3, [.int 0, .int 0])), (h5, .inl (cy 2, 4, .inr (.inr (.inr (.inr g))))), (m9, .inr (2, [.int 0, .int 0, .int 0])), (h2, .inr (4, [.int 0, .int 0, .int 0, .ref q1, .ref q2, .ref q3, .ref q4, .ref q5, .ref q6, .ref q7, .ref q8])), (q1, .inl (cy 0, 4, .inl (fun _ => 0))), (q2, .inl (cy 0, 4, .inl (fun _ => 0))), (q3, .inl (cy 0, 4, .inl (fun _ => 0))), (q4, .inl (cy 0, 4, .inl (fun _ => 0))), (q5, .inl (cy 0, 4, .inl (fun _ => 0))), (q6, .inl (cy 0, 4, .inl (fun _ => 0))), (q7, .inl (cy 0, 3, .inl (fun _ => 0))), (q8, .inl (cy 0, 3, .inl (fun _ => 0))), (g0, .inr (8, [.ref g1, .ref g2, .int 0, .int 1, .ref g3, .int 0, .ref g4, .ref g5, .ref g6, .int 0, .ref g7])), (g1, .inl (cy 0, 596, .inl (fun _ => 0))), (g2, .inl (cy 0, 596, .inl (fun _ => 0))), (g3, .inl (cy 0, 6, .inl (fun _ => 0))), (g4, .inl (cy 0, 4, .inl (fun _ => 0))), (g5, .inl (cy 0, 5, .inl (fun _ => 0))), (g6, .inl (cy 0, 4, .inl (fun _ => 0))), (g7, .inl (cy 0, 6, .inl (fun _ => 0)))] H) (hD : va_D (fun q : Nat => s.heap.size ≤ q) [(h0, .inr (7, [.ref h1, .ref h2, .ref h3, .null, .int 1])), (h1, .inr (1, [.int 0, .int 0, .int 0, .int 0, .ref h4, .ref h5, .ref h6])), (h4, .inl (cy 1, 8, .inr (.inr (.inr (.inr f))))), (p9, .inr (3, [.int 0, .int 0])), (h5, .inl (cy 2, 4, .inr (.inr (.inr (.inr g))))), (m9, .inr (2, [.int 0, .int 0, .int 0])), (h2, .inr (4, [.int 0, .int 0, .int 0, .ref q1, .ref q2, .ref q3, .ref q4, .ref q5, .ref q6, .ref q7, .ref q8])), (q1, .inl (cy 0, 4, .inl (fun _ => 0))), (q2, .inl (cy 0, 4, .inl (fun _ => 0))), (q3, .inl (cy 0, 4, .inl (fun _ => 0))), (q4, .inl (cy 0, 4, .inl (fun _ => 0))), (q5, .inl (cy 0, 4, .inl (fun _ => 0))), (q6, .inl (cy 0, 4, .inl (fun _ => 0))), (q7, .inl (cy 0, 3, .inl (fun _ => 0))), (q8, .inl (cy 0, 3, .inl (fun _ => 0))), (g0, .inr (8, [.ref g1, .ref g2, .int 0, .int 1, .ref g3, .int 0, .ref g4, .ref g5, .ref g6, .int 0, .ref g7])), (g1, .inl (cy 0, 596, .inl (fun _ => 0))), (g2, .inl (cy 0, 596, .inl (fun _ => 0))), (g3, .inl (cy 0, 6, .inl (fun _ => 0))), (g4, .inl (cy 0, 4, .inl (fun _ => 0))), (g5, .inl (cy 0, 5, .inl (fun _ => 0))), (g6, .inl (cy 0, 4, .inl (fun _ => 0))), (g7, .inl (cy 0, 6, .inl (fun _ => 0)))]) (hS : va_S (fun q : Nat => s.heap.size ≤ q) s.heap H locs) (ls : Array Slot) (hl : lv_has ls 4 [(3, .int 0), (2, .ref g0), (1, .ref h0), (0, .ref b)]) : W p l e room_1 s m #[Value.ref b] below meth c H locs 127 1982 (lw_Z below #[Value.ref b] s) (F0 m 577 ls []) := by
  obtain ⟨hx, hb, hr, hml, hown, hts0, hX, hbl, hlocks, hgv⟩ := id C0
  have hts : ∀ w ∈ wsL_law, w.before #[Value.ref b] s = true := fun w h => hts0 w (wsL_law_in w h)
  have hown : s.vm.findClass RL = some m.cls := hown
  have hA : ∀ q : Nat, s.heap.size ≤ q → (fun q : Nat => s.heap.size ≤ q) q := fun _ h => h
  have hbA : ¬ (fun q : Nat => s.heap.size ≤ q) b := Nat.not_le.mpr hbl
  refine lv_aload_n hx hb dL_law_577 rfl (lv_at hl 2 rfl) ?_
  refine lv_aload_n hx hb dL_law_578 rfl (lv_at hl 3 rfl) ?_
  refine lv_iload_n hx hb dL_law_579 rfl (lv_at hl 0 rfl) ?_
  refine lv_iconst (v := 1) hx hb dL_law_580 (by decide) ?_
  refine lv_iadd hx hb dL_law_581 ?_
  refine lv_topi (fun x_1 ex_1 => ?_)
  obtain rfl : x_1 = 1 := ex_1.trans (by decide)
  refine va_sld hx hb hX hbl hbA hS (by unfold vp_in; decide) dL_law_582 ?_
  refine lv_topi (fun x_2 ex_2 => ?_)
  refine lv_aload_n hx hb dL_law_583 rfl (lv_at hl 3 rfl) ?_
  refine lv_iload_n hx hb dL_law_584 rfl (lv_at hl 0 rfl) ?_
  refine lv_iconst (v := 2) hx hb dL_law_585 (by decide) ?_
  refine lv_iadd hx hb dL_law_586 ?_
  refine lv_topi (fun x_3 ex_3 => ?_)
  obtain rfl : x_3 = 2 := ex_3.trans (by decide)
  refine va_sld hx hb hX hbl hbA hS (by unfold vp_in; decide) dL_law_587 ?_
  refine lv_topi (fun x_4 ex_4 => ?_)
  refine yc_i (wc := [(h0, .inr (7, [.ref h1, .ref h2, .ref h3, .null, .int 1])), (h1, .inr (1, [.int 0, .int 0, .int 0, .int 0, .ref h4, .ref h5, .ref h6]))]) (wr := [(h4, .inl (cy 1, 8, .inr (.inr (.inr (.inr f))))), (p9, .inr (3, [.int 0, .int 0])), (h5, .inl (cy 2, 4, .inr (.inr (.inr (.inr g))))), (m9, .inr (2, [.int 0, .int 0, .int 0])), (h2, .inr (4, [.int 0, .int 0, .int 0, .ref q1, .ref q2, .ref q3, .ref q4, .ref q5, .ref q6, .ref q7, .ref q8])), (q1, .inl (cy 0, 4, .inl (fun _ => 0))), (q2, .inl (cy 0, 4, .inl (fun _ => 0))), (q3, .inl (cy 0, 4, .inl (fun _ => 0))), (q4, .inl (cy 0, 4, .inl (fun _ => 0))), (q5, .inl (cy 0, 4, .inl (fun _ => 0))), (q6, .inl (cy 0, 4, .inl (fun _ => 0))), (q7, .inl (cy 0, 3, .inl (fun _ => 0))), (q8, .inl (cy 0, 3, .inl (fun _ => 0))), (g0, .inr (8, [.ref g1, .ref g2, .int 0, .int 1, .ref g3, .int 0, .ref g4, .ref g5, .ref g6, .int 0, .ref g7])), (g1, .inl (cy 0, 596, .inl (fun _ => 0))), (g2, .inl (cy 0, 596, .inl (fun _ => 0))), (g3, .inl (cy 0, 6, .inl (fun _ => 0))), (g4, .inl (cy 0, 4, .inl (fun _ => 0))), (g5, .inl (cy 0, 5, .inl (fun _ => 0))), (g6, .inl (cy 0, 4, .inl (fun _ => 0))), (g7, .inl (cy 0, 6, .inl (fun _ => 0)))]) (w1 := fun _ => []) hP hD hS hA [0, 1] [2, 3, 4, 5, 6, 7, 8, 9, 10, 11, 12, 13, 14, 15, 16, 17, 18, 19, 20, 21, 22] rfl rfl (by decide) (by decide) (va_runV (As := [.int x_2, .int x_4]) (rest := []) ⟨hx, hb, hml, hown, hts⟩ (c0_X7_maySit l dC dI cy _ h0 h1 h2 h3 h4 h5 h6 t0 x_2 x_4) (cwV 2 hts gL_law_X7_maySit rfl rfl rfl (by decide +kernel) ⟨Nat.le_of_ble_eq_true rfl, Nat.le_of_ble_eq_true rfl⟩) ⟨ex_blindT, va_recv hK hP (ci := 7) (q0 := 0) rfl rfl, fun U hU hW => ⟨rfl, ((ex_preS (As := [.ref h0, .int x_2, .int x_4]) hE hK hP hD [0, 1] (by decide) rfl).2 U hU hW).2, hSt.go hS (va_free hD hS hA [0, 1] rfl) hU hW⟩⟩ rfl rfl hl.1 rfl (lv_room (Nat.le_of_ble_eq_true rfl)) dL_law_588 ⟨Nat.le_of_ble_eq_true rfl, Nat.le_of_ble_eq_true rfl⟩) (fun r_5 u_5 H locs hw_5 hP hD hS => ?_)
  have hP : va_P (dC, dI) vwCl [(h4, .inl (cy 1, 8, .inr (.inr (.inr (.inr f))))), (p9, .inr (3, [.int 0, .int 0])), (h5, .inl (cy 2, 4, .inr (.inr (.inr (.inr g))))), (m9, .inr (2, [.int 0, .int 0, .int 0])), (h2, .inr (4, [.int 0, .int 0, .int 0, .ref q1, .ref q2, .ref q3, .ref q4, .ref q5, .ref q6, .ref q7, .ref q8])), (q1, .inl (cy 0, 4, .inl (fun _ => 0))), (q2, .inl (cy 0, 4, .inl (fun _ => 0))), (q3, .inl (cy 0, 4, .inl (fun _ => 0))), (q4, .inl (cy 0, 4, .inl (fun _ => 0))), (q5, .inl (cy 0, 4, .inl (fun _ => 0))), (q6, .inl (cy 0, 4, .inl (fun _ => 0))), (q7, .inl (cy 0, 3, .inl (fun _ => 0))), (q8, .inl (cy 0, 3, .inl (fun _ => 0))), (g0, .inr (8, [.ref g1, .ref g2, .int 0, .int 1, .ref g3, .int 0, .ref g4, .ref g5, .ref g6, .int 0, .ref g7])), (g1, .inl (cy 0, 596, .inl (fun _ => 0))), (g2, .inl (cy 0, 596, .inl (fun _ => 0))), (g3, .inl (cy 0, 6, .inl (fun _ => 0))), (g4, .inl (cy 0, 4, .inl (fun _ => 0))), (g5, .inl (cy 0, 5, .inl (fun _ => 0))), (g6, .inl (cy 0, 4, .inl (fun _ => 0))), (g7, .inl (cy 0, 6, .inl (fun _ => 0)))] H := hP
  have hD : va_D (fun q : Nat => s.heap.size ≤ q) [(h4, .inl (cy 1, 8, .inr (.inr (.inr (.inr f))))), (p9, .inr (3, [.int 0, .int 0])), (h5, .inl (cy 2, 4, .inr (.inr (.inr (.inr g))))), (m9, .inr (2, [.int 0, .int 0, .int 0])), (h2, .inr (4, [.int 0, .int 0, .int 0, .ref q1, .ref q2, .ref q3, .ref q4, .ref q5, .ref q6, .ref q7, .ref q8])), (q1, .inl (cy 0, 4, .inl (fun _ => 0))), (q2, .inl (cy 0, 4, .inl (fun _ => 0))), (q3, .inl (cy 0, 4, .inl (fun _ => 0))), (q4, .inl (cy 0, 4, .inl (fun _ => 0))), (q5, .inl (cy 0, 4, .inl (fun _ => 0))), (q6, .inl (cy 0, 4, .inl (fun _ => 0))), (q7, .inl (cy 0, 3, .inl (fun _ => 0))), (q8, .inl (cy 0, 3, .inl (fun _ => 0))), (g0, .inr (8, [.ref g1, .ref g2, .int 0, .int 1, .ref g3, .int 0, .ref g4, .ref g5, .ref g6, .int 0, .ref g7])), (g1, .inl (cy 0, 596, .inl (fun _ => 0))), (g2, .inl (cy 0, 596, .inl (fun _ => 0))), (g3, .inl (cy 0, 6, .inl (fun _ => 0))), (g4, .inl (cy 0, 4, .inl (fun _ => 0))), (g5, .inl (cy 0, 5, .inl (fun _ => 0))), (g6, .inl (cy 0, 4, .inl (fun _ => 0))), (g7, .inl (cy 0, 6, .inl (fun _ => 0)))] := hD
  refine lv_aload_n hx hb dL_law_591 rfl (lv_at hl 1 rfl) ?_
  refine lv_aload_n hx hb dL_law_592 rfl (lv_at hl 3 rfl) ?_
  refine lv_iload_n hx hb dL_law_593 rfl (lv_at hl 0 rfl) ?_
  refine lv_iconst (v := 1) hx hb dL_law_594 (by decide) ?_
  refine lv_iadd hx hb dL_law_595 ?_
  refine lv_topi (fun x_6 ex_6 => ?_)
  obtain rfl : x_6 = 1 := ex_6.trans (by decide)
  refine va_sld hx hb hX hbl hbA hS (by unfold vp_in; decide) dL_law_596 ?_
  refine lv_topi (fun x_7 ex_7 => ?_)
  rw [← ex_2] at ex_7; replace ex_7 := ex_7.symm; subst ex_7
  refine lv_aload_n hx hb dL_law_597 rfl (lv_at hl 3 rfl) ?_
  refine lv_iload_n hx hb dL_law_598 rfl (lv_at hl 0 rfl) ?_
  refine lv_iconst (v := 2) hx hb dL_law_599 (by decide) ?_
  refine lv_iadd hx hb dL_law_600 ?_
  refine lv_topi (fun x_8 ex_8 => ?_)
  obtain rfl : x_8 = 2 := ex_8.trans (by decide)
  refine va_sld hx hb hX hbl hbA hS (by unfold vp_in; decide) dL_law_601 ?_
  refine lv_topi (fun x_9 ex_9 => ?_)
  rw [← ex_4] at ex_9; replace ex_9 := ex_9.symm; subst ex_9
  refine yc_i (wc := [(g0, .inr (8, [.ref g1, .ref g2, .int 0, .int 1, .ref g3, .int 0, .ref g4, .ref g5, .ref g6, .int 0, .ref g7])), (g1, .inl (cy 0, 596, .inl (fun _ => 0)))]) (wr := [(h4, .inl (cy 1, 8, .inr (.inr (.inr (.inr f))))), (p9, .inr (3, [.int 0, .int 0])), (h5, .inl (cy 2, 4, .inr (.inr (.inr (.inr g))))), (m9, .inr (2, [.int 0, .int 0, .int 0])), (h2, .inr (4, [.int 0, .int 0, .int 0, .ref q1, .ref q2, .ref q3, .ref q4, .ref q5, .ref q6, .ref q7, .ref q8])), (q1, .inl (cy 0, 4, .inl (fun _ => 0))), (q2, .inl (cy 0, 4, .inl (fun _ => 0))), (q3, .inl (cy 0, 4, .inl (fun _ => 0))), (q4, .inl (cy 0, 4, .inl (fun _ => 0))), (q5, .inl (cy 0, 4, .inl (fun _ => 0))), (q6, .inl (cy 0, 4, .inl (fun _ => 0))), (q7, .inl (cy 0, 3, .inl (fun _ => 0))), (q8, .inl (cy 0, 3, .inl (fun _ => 0))), (g2, .inl (cy 0, 596, .inl (fun _ => 0))), (g3, .inl (cy 0, 6, .inl (fun _ => 0))), (g4, .inl (cy 0, 4, .inl (fun _ => 0))), (g5, .inl (cy 0, 5, .inl (fun _ => 0))), (g6, .inl (cy 0, 4, .inl (fun _ => 0))), (g7, .inl (cy 0, 6, .inl (fun _ => 0)))]) (w1 := fun _ => []) hP hD hS hA [13, 14] [0, 1, 2, 3, 4, 5, 6, 7, 8, 9, 10, 11, 12, 15, 16, 17, 18, 19, 20] rfl rfl (by decide) (by decide) (va_runV (As := [.int x_2, .int x_4]) (rest := [.int r_5]) ⟨hx, hb, hml, hown, hts⟩ (c0_X8_maySit l dC dI cy _ g0 g1 g2 g3 g4 g5 g6 g7 x_2 x_4) (cwV 2 hts gL_law_X8_maySit rfl rfl rfl (by decide +kernel) ⟨Nat.le_of_ble_eq_true rfl, Nat.le_of_ble_eq_true rfl⟩) (ex_preV hE hK hP hD [13, 14] (by decide) rfl (ci := 8) (q0 := 13) rfl rfl) rfl rfl hl.1 rfl (lv_room (Nat.le_of_ble_eq_true rfl)) dL_law_602 ⟨Nat.le_of_ble_eq_true rfl, Nat.le_of_ble_eq_true rfl⟩) (fun r_10 u_10 H locs hw_10 hP hD hS => ?_)
  have hP : va_P (dC, dI) vwCl [(h4, .inl (cy 1, 8, .inr (.inr (.inr (.inr f))))), (p9, .inr (3, [.int 0, .int 0])), (h5, .inl (cy 2, 4, .inr (.inr (.inr (.inr g))))), (m9, .inr (2, [.int 0, .int 0, .int 0])), (h2, .inr (4, [.int 0, .int 0, .int 0, .ref q1, .ref q2, .ref q3, .ref q4, .ref q5, .ref q6, .ref q7, .ref q8])), (q1, .inl (cy 0, 4, .inl (fun _ => 0))), (q2, .inl (cy 0, 4, .inl (fun _ => 0))), (q3, .inl (cy 0, 4, .inl (fun _ => 0))), (q4, .inl (cy 0, 4, .inl (fun _ => 0))), (q5, .inl (cy 0, 4, .inl (fun _ => 0))), (q6, .inl (cy 0, 4, .inl (fun _ => 0))), (q7, .inl (cy 0, 3, .inl (fun _ => 0))), (q8, .inl (cy 0, 3, .inl (fun _ => 0))), (g2, .inl (cy 0, 596, .inl (fun _ => 0))), (g3, .inl (cy 0, 6, .inl (fun _ => 0))), (g4, .inl (cy 0, 4, .inl (fun _ => 0))), (g5, .inl (cy 0, 5, .inl (fun _ => 0))), (g6, .inl (cy 0, 4, .inl (fun _ => 0))), (g7, .inl (cy 0, 6, .inl (fun _ => 0)))] H := hP
  have hD : va_D (fun q : Nat => s.heap.size ≤ q) [(h4, .inl (cy 1, 8, .inr (.inr (.inr (.inr f))))), (p9, .inr (3, [.int 0, .int 0])), (h5, .inl (cy 2, 4, .inr (.inr (.inr (.inr g))))), (m9, .inr (2, [.int 0, .int 0, .int 0])), (h2, .inr (4, [.int 0, .int 0, .int 0, .ref q1, .ref q2, .ref q3, .ref q4, .ref q5, .ref q6, .ref q7, .ref q8])), (q1, .inl (cy 0, 4, .inl (fun _ => 0))), (q2, .inl (cy 0, 4, .inl (fun _ => 0))), (q3, .inl (cy 0, 4, .inl (fun _ => 0))), (q4, .inl (cy 0, 4, .inl (fun _ => 0))), (q5, .inl (cy 0, 4, .inl (fun _ => 0))), (q6, .inl (cy 0, 4, .inl (fun _ => 0))), (q7, .inl (cy 0, 3, .inl (fun _ => 0))), (q8, .inl (cy 0, 3, .inl (fun _ => 0))), (g2, .inl (cy 0, 596, .inl (fun _ => 0))), (g3, .inl (cy 0, 6, .inl (fun _ => 0))), (g4, .inl (cy 0, 4, .inl (fun _ => 0))), (g5, .inl (cy 0, 5, .inl (fun _ => 0))), (g6, .inl (cy 0, 4, .inl (fun _ => 0))), (g7, .inl (cy 0, 6, .inl (fun _ => 0)))] := hD
  refine lv_icmp_eq (tgt := 1060) hx hb dL_law_605 (by decide) (fun _ => ?_) (fun c9 => absurd (hw_5.trans hw_10.symm) c9)
  exact law_end C0 (Nat.le_of_ble_eq_true rfl) (Nat.le_of_ble_eq_true rfl) hS ls (lv_sub hl [0, 3] rfl)

set_option maxHeartbeats 4000000 in
set_option maxRecDepth 100000 in
/-- the case of rooms -/
theorem lc_12 {p : Program} {l : Launch} {e : Env} {s : State} {m : MethodId} {below : List Frame} {meth : Method} {c : Code} {dC : Nat → ClassId} {dI : Nat → Nat → Nat} {cy : Nat → ClassId} {b : Nat} {xs : Nat → Int32} (C0 : lw_At p s m meth c b 7 xs) (h0 h1 h2 h3 h4 h5 h6 p9 m9 q1 q2 q3 q4 q5 q6 q7 q8 g0 g1 g2 g3 g4 g5 g6 g7 t0 : Nat) (f g : Nat → Option Nat) (hf : f 0 = some p9) (hg : g 0 = some m9) (hSt : ex_St t0 (fun q : Nat => s.heap.size ≤ q) s) (hE : ex_K s) (hK : va_K (dC, dI) vwCl (ty_L cy) s) {H : Heap} {locs : List Loc} (hP : va_P (dC, dI) vwCl [(h0, .inr (7, [.ref h1, .ref h2, .ref h3, .null, .int 1])), (h1, .inr (1, [.int 0, .int 0, .int 0, .int 0, .ref h4, .ref h5, .ref h6])), (h4, .inl (cy 1, 8, .inr (.inr (.inr (.inr f))))), (p9, .inr (3, [.int 0, .int 0])), (h5, .inl (cy 2, 4, .inr (.inr (.inr (.inr g))))), (m9, .inr (2, [.int 0, .int 0, .int 0])), (h2, .inr (4, [.int 0, .int 0, .int 0, .ref q1, .ref q2, .ref q3, .ref q4, .ref q5, .ref q6, .ref q7, .ref q8])), (q1, .inl (cy 0, 4, .inl (fun _ => 0))), (q2, .inl (cy 0, 4, .inl (fun _ => 0))), (q3, .inl (cy 0, 4, .inl (fun _ => 0))), (q4, .inl (cy 0, 4, .inl (fun _ => 0))), (q5, .inl (cy 0, 4, .inl (fun _ => 0))), (q6, .inl (cy 0, 4, .inl (fun _ => 0))), (q7, .inl (cy 0, 3, .inl (fun _ => 0))), (q8, .inl (cy 0, 3, .inl (fun _ => 0))), (g0, .inr (8, [.ref g1, .ref g2, .int 0, .int 1, .ref g3, .int 0, .ref g4, .ref g5, .ref g6, .int 0, .ref g7])), (g1, .inl (cy 0, 596, .inl (fun _ => 0))), (g2, .inl (cy 0, 596, .inl (fun _ => 0))), (g3, .inl (cy 0, 6, .inl (fun _ => 0))), (g4, .inl (cy 0, 4, .inl (fun _ => 0))), (g5, .inl (cy 0, 5, .inl (fun _ => 0))), (g6, .inl (cy 0, 4, .inl (fun _ => 0))), (g7, .inl (cy 0, 6, .inl (fun _ => 0)))] H) (hD : va_D (fun q : Nat => s.heap.size ≤ q) [(h0, .inr (7, [.ref h1, .ref h2, .ref h3, .null, .int 1])), (h1, .inr (1, [.int 0, .int 0, .int 0, .int 0, .ref h4, .ref h5, .ref h6])), (h4, .inl (cy 1, 8, .inr (.inr (.inr (.inr f))))), (p9, .inr (3, [.int 0, .int 0])), (h5, .inl (cy 2, 4, .inr (.inr (.inr (.inr g))))), (m9, .inr (2, [.int 0, .int 0, .int 0])), (h2, .inr (4, [.int 0, .int 0, .int 0, .ref q1, .ref q2, .ref q3, .ref q4, .ref q5, .ref q6, .ref q7, .ref q8])), (q1, .inl (cy 0, 4, .inl (fun _ => 0))), (q2, .inl (cy 0, 4, .inl (fun _ => 0))), (q3, .inl (cy 0, 4, .inl (fun _ => 0))), (q4, .inl (cy 0, 4, .inl (fun _ => 0))), (q5, .inl (cy 0, 4, .inl (fun _ => 0))), (q6, .inl (cy 0, 4, .inl (fun _ => 0))), (q7, .inl (cy 0, 3, .inl (fun _ => 0))), (q8, .inl (cy 0, 3, .inl (fun _ => 0))), (g0, .inr (8, [.ref g1, .ref g2, .int 0, .int 1, .ref g3, .int 0, .ref g4, .ref g5, .ref g6, .int 0, .ref g7])), (g1, .inl (cy 0, 596, .inl (fun _ => 0))), (g2, .inl (cy 0, 596, .inl (fun _ => 0))), (g3, .inl (cy 0, 6, .inl (fun _ => 0))), (g4, .inl (cy 0, 4, .inl (fun _ => 0))), (g5, .inl (cy 0, 5, .inl (fun _ => 0))), (g6, .inl (cy 0, 4, .inl (fun _ => 0))), (g7, .inl (cy 0, 6, .inl (fun _ => 0)))]) (hS : va_S (fun q : Nat => s.heap.size ≤ q) s.heap H locs) (ls : Array Slot) (hl : lv_has ls 4 [(3, .int 0), (2, .ref g0), (1, .ref h0), (0, .ref b)]) : W p l e room_1 s m #[Value.ref b] below meth c H locs 127 1982 (lw_Z below #[Value.ref b] s) (F0 m 610 ls []) := by
  obtain ⟨hx, hb, hr, hml, hown, hts0, hX, hbl, hlocks, hgv⟩ := id C0
  have hts : ∀ w ∈ wsL_law, w.before #[Value.ref b] s = true := fun w h => hts0 w (wsL_law_in w h)
  have hown : s.vm.findClass RL = some m.cls := hown
  have hA : ∀ q : Nat, s.heap.size ≤ q → (fun q : Nat => s.heap.size ≤ q) q := fun _ h => h
  have hbA : ¬ (fun q : Nat => s.heap.size ≤ q) b := Nat.not_le.mpr hbl
  refine lv_aload_n hx hb dL_law_610 rfl (lv_at hl 2 rfl) ?_
  refine lv_aload_n hx hb dL_law_611 rfl (lv_at hl 3 rfl) ?_
  refine lv_iload_n hx hb dL_law_612 rfl (lv_at hl 0 rfl) ?_
  refine lv_iconst (v := 1) hx hb dL_law_613 (by decide) ?_
  refine lv_iadd hx hb dL_law_614 ?_
  refine lv_topi (fun x_1 ex_1 => ?_)
  obtain rfl : x_1 = 1 := ex_1.trans (by decide)
  refine va_sld hx hb hX hbl hbA hS (by unfold vp_in; decide) dL_law_615 ?_
  refine lv_topi (fun x_2 ex_2 => ?_)
  refine yc_i (wc := [(h0, .inr (7, [.ref h1, .ref h2, .ref h3, .null, .int 1]))]) (wr := [(h1, .inr (1, [.int 0, .int 0, .int 0, .int 0, .ref h4, .ref h5, .ref h6])), (h4, .inl (cy 1, 8, .inr (.inr (.inr (.inr f))))), (p9, .inr (3, [.int 0, .int 0])), (h5, .inl (cy 2, 4, .inr (.inr (.inr (.inr g))))), (m9, .inr (2, [.int 0, .int 0, .int 0])), (h2, .inr (4, [.int 0, .int 0, .int 0, .ref q1, .ref q2, .ref q3, .ref q4, .ref q5, .ref q6, .ref q7, .ref q8])), (q1, .inl (cy 0, 4, .inl (fun _ => 0))), (q2, .inl (cy 0, 4, .inl (fun _ => 0))), (q3, .inl (cy 0, 4, .inl (fun _ => 0))), (q4, .inl (cy 0, 4, .inl (fun _ => 0))), (q5, .inl (cy 0, 4, .inl (fun _ => 0))), (q6, .inl (cy 0, 4, .inl (fun _ => 0))), (q7, .inl (cy 0, 3, .inl (fun _ => 0))), (q8, .inl (cy 0, 3, .inl (fun _ => 0))), (g0, .inr (8, [.ref g1, .ref g2, .int 0, .int 1, .ref g3, .int 0, .ref g4, .ref g5, .ref g6, .int 0, .ref g7])), (g1, .inl (cy 0, 596, .inl (fun _ => 0))), (g2, .inl (cy 0, 596, .inl (fun _ => 0))), (g3, .inl (cy 0, 6, .inl (fun _ => 0))), (g4, .inl (cy 0, 4, .inl (fun _ => 0))), (g5, .inl (cy 0, 5, .inl (fun _ => 0))), (g6, .inl (cy 0, 4, .inl (fun _ => 0))), (g7, .inl (cy 0, 6, .inl (fun _ => 0)))]) (w1 := fun _ => []) hP hD hS hA [0] [1, 2, 3, 4, 5, 6, 7, 8, 9, 10, 11, 12, 13, 14, 15, 16, 17, 18, 19, 20, 21, 22] rfl rfl (by decide) (by decide) (va_runV (As := [.int x_2]) (rest := []) ⟨hx, hb, hml, hown, hts⟩ (c0_X7_rooms l dC dI cy _ h0 h1 h2 h3 x_2) (cwV 1 hts gL_law_X7_rooms rfl rfl rfl (by decide +kernel) ⟨Nat.le_of_ble_eq_true rfl, Nat.le_of_ble_eq_true rfl⟩) (ex_preV hE hK hP hD [0] (by decide) rfl (ci := 7) (q0 := 0) rfl rfl) rfl rfl hl.1 rfl (lv_room (Nat.le_of_ble_eq_true rfl)) dL_law_616 ⟨Nat.le_of_ble_eq_true rfl, Nat.le_of_ble_eq_true rfl⟩) (fun r_3 u_3 H locs hw_3 hP hD hS => ?_)
  have hP : va_P (dC, dI) vwCl [(h1, .inr (1, [.int 0, .int 0, .int 0, .int 0, .ref h4, .ref h5, .ref h6])), (h4, .inl (cy 1, 8, .inr (.inr (.inr (.inr f))))), (p9, .inr (3, [.int 0, .int 0])), (h5, .inl (cy 2, 4, .inr (.inr (.inr (.inr g))))), (m9, .inr (2, [.int 0, .int 0, .int 0])), (h2, .inr (4, [.int 0, .int 0, .int 0, .ref q1, .ref q2, .ref q3, .ref q4, .ref q5, .ref q6, .ref q7, .ref q8])), (q1, .inl (cy 0, 4, .inl (fun _ => 0))), (q2, .inl (cy 0, 4, .inl (fun _ => 0))), (q3, .inl (cy 0, 4, .inl (fun _ => 0))), (q4, .inl (cy 0, 4, .inl (fun _ => 0))), (q5, .inl (cy 0, 4, .inl (fun _ => 0))), (q6, .inl (cy 0, 4, .inl (fun _ => 0))), (q7, .inl (cy 0, 3, .inl (fun _ => 0))), (q8, .inl (cy 0, 3, .inl (fun _ => 0))), (g0, .inr (8, [.ref g1, .ref g2, .int 0, .int 1, .ref g3, .int 0, .ref g4, .ref g5, .ref g6, .int 0, .ref g7])), (g1, .inl (cy 0, 596, .inl (fun _ => 0))), (g2, .inl (cy 0, 596, .inl (fun _ => 0))), (g3, .inl (cy 0, 6, .inl (fun _ => 0))), (g4, .inl (cy 0, 4, .inl (fun _ => 0))), (g5, .inl (cy 0, 5, .inl (fun _ => 0))), (g6, .inl (cy 0, 4, .inl (fun _ => 0))), (g7, .inl (cy 0, 6, .inl (fun _ => 0)))] H := hP
  have hD : va_D (fun q : Nat => s.heap.size ≤ q) [(h1, .inr (1, [.int 0, .int 0, .int 0, .int 0, .ref h4, .ref h5, .ref h6])), (h4, .inl (cy 1, 8, .inr (.inr (.inr (.inr f))))), (p9, .inr (3, [.int 0, .int 0])), (h5, .inl (cy 2, 4, .inr (.inr (.inr (.inr g))))), (m9, .inr (2, [.int 0, .int 0, .int 0])), (h2, .inr (4, [.int 0, .int 0, .int 0, .ref q1, .ref q2, .ref q3, .ref q4, .ref q5, .ref q6, .ref q7, .ref q8])), (q1, .inl (cy 0, 4, .inl (fun _ => 0))), (q2, .inl (cy 0, 4, .inl (fun _ => 0))), (q3, .inl (cy 0, 4, .inl (fun _ => 0))), (q4, .inl (cy 0, 4, .inl (fun _ => 0))), (q5, .inl (cy 0, 4, .inl (fun _ => 0))), (q6, .inl (cy 0, 4, .inl (fun _ => 0))), (q7, .inl (cy 0, 3, .inl (fun _ => 0))), (q8, .inl (cy 0, 3, .inl (fun _ => 0))), (g0, .inr (8, [.ref g1, .ref g2, .int 0, .int 1, .ref g3, .int 0, .ref g4, .ref g5, .ref g6, .int 0, .ref g7])), (g1, .inl (cy 0, 596, .inl (fun _ => 0))), (g2, .inl (cy 0, 596, .inl (fun _ => 0))), (g3, .inl (cy 0, 6, .inl (fun _ => 0))), (g4, .inl (cy 0, 4, .inl (fun _ => 0))), (g5, .inl (cy 0, 5, .inl (fun _ => 0))), (g6, .inl (cy 0, 4, .inl (fun _ => 0))), (g7, .inl (cy 0, 6, .inl (fun _ => 0)))] := hD
  refine lv_aload_n hx hb dL_law_619 rfl (lv_at hl 1 rfl) ?_
  refine lv_aload_n hx hb dL_law_620 rfl (lv_at hl 3 rfl) ?_
  refine lv_iload_n hx hb dL_law_621 rfl (lv_at hl 0 rfl) ?_
  refine lv_iconst (v := 1) hx hb dL_law_622 (by decide) ?_
  refine lv_iadd hx hb dL_law_623 ?_
  refine lv_topi (fun x_4 ex_4 => ?_)
  obtain rfl : x_4 = 1 := ex_4.trans (by decide)
  refine va_sld hx hb hX hbl hbA hS (by unfold vp_in; decide) dL_law_624 ?_
  refine lv_topi (fun x_5 ex_5 => ?_)
  rw [← ex_2] at ex_5; replace ex_5 := ex_5.symm; subst ex_5
  refine yc_i (wc := [(g0, .inr (8, [.ref g1, .ref g2, .int 0, .int 1, .ref g3, .int 0, .ref g4, .ref g5, .ref g6, .int 0, .ref g7]))]) (wr := [(h1, .inr (1, [.int 0, .int 0, .int 0, .int 0, .ref h4, .ref h5, .ref h6])), (h4, .inl (cy 1, 8, .inr (.inr (.inr (.inr f))))), (p9, .inr (3, [.int 0, .int 0])), (h5, .inl (cy 2, 4, .inr (.inr (.inr (.inr g))))), (m9, .inr (2, [.int 0, .int 0, .int 0])), (h2, .inr (4, [.int 0, .int 0, .int 0, .ref q1, .ref q2, .ref q3, .ref q4, .ref q5, .ref q6, .ref q7, .ref q8])), (q1, .inl (cy 0, 4, .inl (fun _ => 0))), (q2, .inl (cy 0, 4, .inl (fun _ => 0))), (q3, .inl (cy 0, 4, .inl (fun _ => 0))), (q4, .inl (cy 0, 4, .inl (fun _ => 0))), (q5, .inl (cy 0, 4, .inl (fun _ => 0))), (q6, .inl (cy 0, 4, .inl (fun _ => 0))), (q7, .inl (cy 0, 3, .inl (fun _ => 0))), (q8, .inl (cy 0, 3, .inl (fun _ => 0))), (g1, .inl (cy 0, 596, .inl (fun _ => 0))), (g2, .inl (cy 0, 596, .inl (fun _ => 0))), (g3, .inl (cy 0, 6, .inl (fun _ => 0))), (g4, .inl (cy 0, 4, .inl (fun _ => 0))), (g5, .inl (cy 0, 5, .inl (fun _ => 0))), (g6, .inl (cy 0, 4, .inl (fun _ => 0))), (g7, .inl (cy 0, 6, .inl (fun _ => 0)))]) (w1 := fun _ => []) hP hD hS hA [14] [0, 1, 2, 3, 4, 5, 6, 7, 8, 9, 10, 11, 12, 13, 15, 16, 17, 18, 19, 20, 21] rfl rfl (by decide) (by decide) (va_runV (As := [.int x_2]) (rest := [.int r_3]) ⟨hx, hb, hml, hown, hts⟩ (c0_X8_rooms l dC dI cy _ g0 g1 g2 g3 g4 g5 g6 g7 x_2) (cwV 1 hts gL_law_X8_rooms rfl rfl rfl (by decide +kernel) ⟨Nat.le_of_ble_eq_true rfl, Nat.le_of_ble_eq_true rfl⟩) (ex_preV hE hK hP hD [14] (by decide) rfl (ci := 8) (q0 := 14) rfl rfl) rfl rfl hl.1 rfl (lv_room (Nat.le_of_ble_eq_true rfl)) dL_law_625 ⟨Nat.le_of_ble_eq_true rfl, Nat.le_of_ble_eq_true rfl⟩) (fun r_6 u_6 H locs hw_6 hP hD hS => ?_)
  have hP : va_P (dC, dI) vwCl [(h1, .inr (1, [.int 0, .int 0, .int 0, .int 0, .ref h4, .ref h5, .ref h6])), (h4, .inl (cy 1, 8, .inr (.inr (.inr (.inr f))))), (p9, .inr (3, [.int 0, .int 0])), (h5, .inl (cy 2, 4, .inr (.inr (.inr (.inr g))))), (m9, .inr (2, [.int 0, .int 0, .int 0])), (h2, .inr (4, [.int 0, .int 0, .int 0, .ref q1, .ref q2, .ref q3, .ref q4, .ref q5, .ref q6, .ref q7, .ref q8])), (q1, .inl (cy 0, 4, .inl (fun _ => 0))), (q2, .inl (cy 0, 4, .inl (fun _ => 0))), (q3, .inl (cy 0, 4, .inl (fun _ => 0))), (q4, .inl (cy 0, 4, .inl (fun _ => 0))), (q5, .inl (cy 0, 4, .inl (fun _ => 0))), (q6, .inl (cy 0, 4, .inl (fun _ => 0))), (q7, .inl (cy 0, 3, .inl (fun _ => 0))), (q8, .inl (cy 0, 3, .inl (fun _ => 0))), (g1, .inl (cy 0, 596, .inl (fun _ => 0))), (g2, .inl (cy 0, 596, .inl (fun _ => 0))), (g3, .inl (cy 0, 6, .inl (fun _ => 0))), (g4, .inl (cy 0, 4, .inl (fun _ => 0))), (g5, .inl (cy 0, 5, .inl (fun _ => 0))), (g6, .inl (cy 0, 4, .inl (fun _ => 0))), (g7, .inl (cy 0, 6, .inl (fun _ => 0)))] H := hP
  have hD : va_D (fun q : Nat => s.heap.size ≤ q) [(h1, .inr (1, [.int 0, .int 0, .int 0, .int 0, .ref h4, .ref h5, .ref h6])), (h4, .inl (cy 1, 8, .inr (.inr (.inr (.inr f))))), (p9, .inr (3, [.int 0, .int 0])), (h5, .inl (cy 2, 4, .inr (.inr (.inr (.inr g))))), (m9, .inr (2, [.int 0, .int 0, .int 0])), (h2, .inr (4, [.int 0, .int 0, .int 0, .ref q1, .ref q2, .ref q3, .ref q4, .ref q5, .ref q6, .ref q7, .ref q8])), (q1, .inl (cy 0, 4, .inl (fun _ => 0))), (q2, .inl (cy 0, 4, .inl (fun _ => 0))), (q3, .inl (cy 0, 4, .inl (fun _ => 0))), (q4, .inl (cy 0, 4, .inl (fun _ => 0))), (q5, .inl (cy 0, 4, .inl (fun _ => 0))), (q6, .inl (cy 0, 4, .inl (fun _ => 0))), (q7, .inl (cy 0, 3, .inl (fun _ => 0))), (q8, .inl (cy 0, 3, .inl (fun _ => 0))), (g1, .inl (cy 0, 596, .inl (fun _ => 0))), (g2, .inl (cy 0, 596, .inl (fun _ => 0))), (g3, .inl (cy 0, 6, .inl (fun _ => 0))), (g4, .inl (cy 0, 4, .inl (fun _ => 0))), (g5, .inl (cy 0, 5, .inl (fun _ => 0))), (g6, .inl (cy 0, 4, .inl (fun _ => 0))), (g7, .inl (cy 0, 6, .inl (fun _ => 0)))] := hD
  refine lv_icmp_eq (tgt := 1060) hx hb dL_law_628 (by decide) (fun _ => ?_) (fun c9 => absurd (hw_3.trans hw_6.symm) c9)
  exact law_end C0 (Nat.le_of_ble_eq_true rfl) (Nat.le_of_ble_eq_true rfl) hS ls (lv_sub hl [0, 3] rfl)
