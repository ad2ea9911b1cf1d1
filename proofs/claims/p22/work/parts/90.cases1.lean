set_option maxRecDepth 20000 in
theorem db_L_law_152 : (decode cL_law 152 = .ok (.aload_n 1, 1)) ∧ (decode cL_law 153 = .ok (.aload_n 0, 1)) ∧ (decode cL_law 154 = .ok (.iload_n 3, 1)) ∧ (decode cL_law 155 = .ok (.iconst 1, 1)) ∧ (decode cL_law 156 = .ok (.iadd, 1)) ∧ (decode cL_law 157 = .ok (.iaload, 1)) ∧ (decode cL_law 158 = .ok (.aload_n 0, 1)) ∧ (decode cL_law 159 = .ok (.iload_n 3, 1)) := by decide +kernel
theorem dL_law_152 : decode cL_law 152 = .ok (.aload_n 1, 1) := db_L_law_152.1
theorem dL_law_153 : decode cL_law 153 = .ok (.aload_n 0, 1) := db_L_law_152.2.1
theorem dL_law_154 : decode cL_law 154 = .ok (.iload_n 3, 1) := db_L_law_152.2.2.1
theorem dL_law_155 : decode cL_law 155 = .ok (.iconst 1, 1) := db_L_law_152.2.2.2.1
theorem dL_law_156 : decode cL_law 156 = .ok (.iadd, 1) := db_L_law_152.2.2.2.2.1
theorem dL_law_157 : decode cL_law 157 = .ok (.iaload, 1) := db_L_law_152.2.2.2.2.2.1
theorem dL_law_158 : decode cL_law 158 = .ok (.aload_n 0, 1) := db_L_law_152.2.2.2.2.2.2.1
theorem dL_law_159 : decode cL_law 159 = .ok (.iload_n 3, 1) := db_L_law_152.2.2.2.2.2.2.2
set_option maxRecDepth 20000 in
theorem db_L_law_160 : (decode cL_law 160 = .ok (.iconst 2, 1)) ∧ (decode cL_law 161 = .ok (.iadd, 1)) ∧ (decode cL_law 162 = .ok (.iaload, 1)) ∧ (decode cL_law 163 = .ok (.invokevirtual 13, 3)) ∧ (decode cL_law 166 = .ok (.pop, 1)) ∧ (decode cL_law 167 = .ok (.aload_n 2, 1)) ∧ (decode cL_law 168 = .ok (.aload_n 0, 1)) ∧ (decode cL_law 169 = .ok (.iload_n 3, 1)) := by decide +kernel
theorem dL_law_160 : decode cL_law 160 = .ok (.iconst 2, 1) := db_L_law_160.1
theorem dL_law_161 : decode cL_law 161 = .ok (.iadd, 1) := db_L_law_160.2.1
theorem dL_law_162 : decode cL_law 162 = .ok (.iaload, 1) := db_L_law_160.2.2.1
set_option maxRecDepth 20000 in
theorem ggL_law_X7_party : GoodIn wsL_law wsX7_party := goodIn_ch _ [(4, 0), (0, 15), (4, 1), (4, 2), (4, 3), (4, 4), (4, 5), (4, 6), (0, 2), (4, 7), (29, 0), (29, 1), (29, 2), (29, 3), (29, 4), (31, 0), (31, 1), (31, 2), (31, 3), (31, 4), (31, 5), (31, 6), (34, 0), (34, 1)] rfl (by decide +kernel)
set_option maxRecDepth 20000 in
theorem gL_law_X7_party : GoodIn wsL_law (wsV RL 13 RX7 yX7_party wsX7_party) := goodIn_app (goodIn_ch _ [(3, 21), (3, 22), (3, 23), (0, 2)] rfl (by decide +kernel)) ggL_law_X7_party
theorem dL_law_163 : decode cL_law 163 = .ok (.invokevirtual 13, 3) := db_L_law_160.2.2.2.1
theorem dL_law_166 : decode cL_law 166 = .ok (.pop, 1) := db_L_law_160.2.2.2.2.1
theorem dL_law_167 : decode cL_law 167 = .ok (.aload_n 2, 1) := db_L_law_160.2.2.2.2.2.1
theorem dL_law_168 : decode cL_law 168 = .ok (.aload_n 0, 1) := db_L_law_160.2.2.2.2.2.2.1
theorem dL_law_169 : decode cL_law 169 = .ok (.iload_n 3, 1) := db_L_law_160.2.2.2.2.2.2.2
set_option maxRecDepth 20000 in
theorem db_L_law_170 : (decode cL_law 170 = .ok (.iconst 1, 1)) ∧ (decode cL_law 171 = .ok (.iadd, 1)) ∧ (decode cL_law 172 = .ok (.iaload, 1)) ∧ (decode cL_law 173 = .ok (.aload_n 0, 1)) ∧ (decode cL_law 174 = .ok (.iload_n 3, 1)) ∧ (decode cL_law 175 = .ok (.iconst 2, 1)) ∧ (decode cL_law 176 = .ok (.iadd, 1)) ∧ (decode cL_law 177 = .ok (.iaload, 1)) := by decide +kernel
theorem dL_law_170 : decode cL_law 170 = .ok (.iconst 1, 1) := db_L_law_170.1
theorem dL_law_171 : decode cL_law 171 = .ok (.iadd, 1) := db_L_law_170.2.1
theorem dL_law_172 : decode cL_law 172 = .ok (.iaload, 1) := db_L_law_170.2.2.1
theorem dL_law_173 : decode cL_law 173 = .ok (.aload_n 0, 1) := db_L_law_170.2.2.2.1
theorem dL_law_174 : decode cL_law 174 = .ok (.iload_n 3, 1) := db_L_law_170.2.2.2.2.1
theorem dL_law_175 : decode cL_law 175 = .ok (.iconst 2, 1) := db_L_law_170.2.2.2.2.2.1
theorem dL_law_176 : decode cL_law 176 = .ok (.iadd, 1) := db_L_law_170.2.2.2.2.2.2.1
theorem dL_law_177 : decode cL_law 177 = .ok (.iaload, 1) := db_L_law_170.2.2.2.2.2.2.2
set_option maxRecDepth 20000 in
theorem ggL_law_X8_party : GoodIn wsL_law wsX8_party := goodIn_ch _ [(4, 11), (3, 13), (4, 12), (4, 13), (0, 5), (4, 14), (30, 0), (30, 1), (30, 2), (30, 3), (30, 4), (30, 5), (30, 6), (30, 7), (30, 8), (30, 9), (30, 10)] rfl (by decide +kernel)
set_option maxRecDepth 20000 in
theorem gL_law_X8_party : GoodIn wsL_law (wsV RL 17 RX8 yX8_party wsX8_party) := goodIn_app (goodIn_ch _ [(4, 8), (4, 9), (4, 10), (0, 5)] rfl (by decide +kernel)) ggL_law_X8_party
set_option maxRecDepth 20000 in
theorem db_L_law_178 : (decode cL_law 178 = .ok (.invokevirtual 17, 3)) ∧ (decode cL_law 181 = .ok (.pop, 1)) ∧ (decode cL_law 182 = .ok (.goto 878, 3)) ∧ (decode cL_law 185 = .ok (.aload_n 1, 1)) ∧ (decode cL_law 186 = .ok (.aload_n 0, 1)) ∧ (decode cL_law 187 = .ok (.iload_n 3, 1)) ∧ (decode cL_law 188 = .ok (.iconst 1, 1)) ∧ (decode cL_law 189 = .ok (.iadd, 1)) := by decide +kernel
theorem dL_law_178 : decode cL_law 178 = .ok (.invokevirtual 17, 3) := db_L_law_178.1
theorem dL_law_181 : decode cL_law 181 = .ok (.pop, 1) := db_L_law_178.2.1
theorem dL_law_182 : decode cL_law 182 = .ok (.goto 878, 3) := db_L_law_178.2.2.1
theorem dL_law_185 : decode cL_law 185 = .ok (.aload_n 1, 1) := db_L_law_178.2.2.2.1
theorem dL_law_186 : decode cL_law 186 = .ok (.aload_n 0, 1) := db_L_law_178.2.2.2.2.1
theorem dL_law_187 : decode cL_law 187 = .ok (.iload_n 3, 1) := db_L_law_178.2.2.2.2.2.1
theorem dL_law_188 : decode cL_law 188 = .ok (.iconst 1, 1) := db_L_law_178.2.2.2.2.2.2.1
theorem dL_law_189 : decode cL_law 189 = .ok (.iadd, 1) := db_L_law_178.2.2.2.2.2.2.2
set_option maxRecDepth 20000 in
theorem db_L_law_190 : (decode cL_law 190 = .ok (.iaload, 1)) ∧ (decode cL_law 191 = .ok (.aload_n 0, 1)) ∧ (decode cL_law 192 = .ok (.iload_n 3, 1)) ∧ (decode cL_law 193 = .ok (.iconst 2, 1)) ∧ (decode cL_law 194 = .ok (.iadd, 1)) ∧ (decode cL_law 195 = .ok (.iaload, 1)) ∧ (decode cL_law 196 = .ok (.invokevirtual 18, 3)) ∧ (decode cL_law 199 = .ok (.pop, 1)) := by decide +kernel
theorem dL_law_190 : decode cL_law 190 = .ok (.iaload, 1) := db_L_law_190.1
theorem dL_law_191 : decode cL_law 191 = .ok (.aload_n 0, 1) := db_L_law_190.2.1
theorem dL_law_192 : decode cL_law 192 = .ok (.iload_n 3, 1) := db_L_law_190.2.2.1
theorem dL_law_193 : decode cL_law 193 = .ok (.iconst 2, 1) := db_L_law_190.2.2.2.1
theorem dL_law_194 : decode cL_law 194 = .ok (.iadd, 1) := db_L_law_190.2.2.2.2.1
theorem dL_law_195 : decode cL_law 195 = .ok (.iaload, 1) := db_L_law_190.2.2.2.2.2.1
set_option maxRecDepth 20000 in
theorem ggL_law_X7_mediator : GoodIn wsL_law wsX7_mediator := goodIn_ch _ [(4, 18), (0, 15), (4, 19), (4, 20), (4, 21), (4, 22), (4, 23), (4, 5), (4, 6), (0, 2), (4, 7), (29, 0), (29, 1), (29, 2), (29, 3), (29, 4), (31, 0), (31, 1), (31, 2), (31, 3), (31, 4), (31, 5), (31, 6), (35, 0), (35, 1), (35, 2)] rfl (by decide +kernel)
set_option maxRecDepth 20000 in
theorem gL_law_X7_mediator : GoodIn wsL_law (wsV RL 18 RX7 yX7_mediator wsX7_mediator) := goodIn_app (goodIn_ch _ [(4, 15), (4, 16), (4, 17), (0, 2)] rfl (by decide +kernel)) ggL_law_X7_mediator
theorem dL_law_196 : decode cL_law 196 = .ok (.invokevirtual 18, 3) := db_L_law_190.2.2.2.2.2.2.1
theorem dL_law_199 : decode cL_law 199 = .ok (.pop, 1) := db_L_law_190.2.2.2.2.2.2.2
set_option maxRecDepth 20000 in
theorem db_L_law_200 : (decode cL_law 200 = .ok (.aload_n 2, 1)) ∧ (decode cL_law 201 = .ok (.aload_n 0, 1)) ∧ (decode cL_law 202 = .ok (.iload_n 3, 1)) ∧ (decode cL_law 203 = .ok (.iconst 1, 1)) ∧ (decode cL_law 204 = .ok (.iadd, 1)) ∧ (decode cL_law 205 = .ok (.iaload, 1)) ∧ (decode cL_law 206 = .ok (.aload_n 0, 1)) ∧ (decode cL_law 207 = .ok (.iload_n 3, 1)) := by decide +kernel
theorem dL_law_200 : decode cL_law 200 = .ok (.aload_n 2, 1) := db_L_law_200.1
theorem dL_law_201 : decode cL_law 201 = .ok (.aload_n 0, 1) := db_L_law_200.2.1
theorem dL_law_202 : decode cL_law 202 = .ok (.iload_n 3, 1) := db_L_law_200.2.2.1
theorem dL_law_203 : decode cL_law 203 = .ok (.iconst 1, 1) := db_L_law_200.2.2.2.1
theorem dL_law_204 : decode cL_law 204 = .ok (.iadd, 1) := db_L_law_200.2.2.2.2.1
theorem dL_law_205 : decode cL_law 205 = .ok (.iaload, 1) := db_L_law_200.2.2.2.2.2.1
theorem dL_law_206 : decode cL_law 206 = .ok (.aload_n 0, 1) := db_L_law_200.2.2.2.2.2.2.1
theorem dL_law_207 : decode cL_law 207 = .ok (.iload_n 3, 1) := db_L_law_200.2.2.2.2.2.2.2
set_option maxRecDepth 20000 in
theorem db_L_law_208 : (decode cL_law 208 = .ok (.iconst 2, 1)) ∧ (decode cL_law 209 = .ok (.iadd, 1)) ∧ (decode cL_law 210 = .ok (.iaload, 1)) ∧ (decode cL_law 211 = .ok (.invokevirtual 21, 3)) ∧ (decode cL_law 214 = .ok (.pop, 1)) ∧ (decode cL_law 215 = .ok (.goto 845, 3)) ∧ (decode cL_law 218 = .ok (.aload_n 1, 1)) ∧ (decode cL_law 219 = .ok (.aload_n 0, 1)) := by decide +kernel
theorem dL_law_208 : decode cL_law 208 = .ok (.iconst 2, 1) := db_L_law_208.1
theorem dL_law_209 : decode cL_law 209 = .ok (.iadd, 1) := db_L_law_208.2.1
theorem dL_law_210 : decode cL_law 210 = .ok (.iaload, 1) := db_L_law_208.2.2.1
set_option maxRecDepth 20000 in
theorem ggL_law_X8_mediator : GoodIn wsL_law wsX8_mediator := goodIn_ch _ [(5, 3), (3, 13), (4, 12), (4, 13), (0, 5), (4, 14), (30, 0), (30, 1), (30, 2), (30, 3), (30, 4), (30, 5), (30, 6), (30, 7), (30, 8), (30, 9), (30, 10)] rfl (by decide +kernel)
set_option maxRecDepth 20000 in
theorem gL_law_X8_mediator : GoodIn wsL_law (wsV RL 21 RX8 yX8_mediator wsX8_mediator) := goodIn_app (goodIn_ch _ [(5, 0), (5, 1), (5, 2), (0, 5)] rfl (by decide +kernel)) ggL_law_X8_mediator
theorem dL_law_211 : decode cL_law 211 = .ok (.invokevirtual 21, 3) := db_L_law_208.2.2.2.1
theorem dL_law_214 : decode cL_law 214 = .ok (.pop, 1) := db_L_law_208.2.2.2.2.1
theorem dL_law_215 : decode cL_law 215 = .ok (.goto 845, 3) := db_L_law_208.2.2.2.2.2.1
theorem dL_law_218 : decode cL_law 218 = .ok (.aload_n 1, 1) := db_L_law_208.2.2.2.2.2.2.1
theorem dL_law_219 : decode cL_law 219 = .ok (.aload_n 0, 1) := db_L_law_208.2.2.2.2.2.2.2
set_option maxRecDepth 20000 in
theorem db_L_law_220 : (decode cL_law 220 = .ok (.iload_n 3, 1)) ∧ (decode cL_law 221 = .ok (.iconst 1, 1)) ∧ (decode cL_law 222 = .ok (.iadd, 1)) ∧ (decode cL_law 223 = .ok (.iaload, 1)) ∧ (decode cL_law 224 = .ok (.aload_n 0, 1)) ∧ (decode cL_law 225 = .ok (.iload_n 3, 1)) ∧ (decode cL_law 226 = .ok (.iconst 2, 1)) ∧ (decode cL_law 227 = .ok (.iadd, 1)) := by decide +kernel
theorem dL_law_220 : decode cL_law 220 = .ok (.iload_n 3, 1) := db_L_law_220.1
theorem dL_law_221 : decode cL_law 221 = .ok (.iconst 1, 1) := db_L_law_220.2.1
theorem dL_law_222 : decode cL_law 222 = .ok (.iadd, 1) := db_L_law_220.2.2.1
theorem dL_law_223 : decode cL_law 223 = .ok (.iaload, 1) := db_L_law_220.2.2.2.1
theorem dL_law_224 : decode cL_law 224 = .ok (.aload_n 0, 1) := db_L_law_220.2.2.2.2.1
theorem dL_law_225 : decode cL_law 225 = .ok (.iload_n 3, 1) := db_L_law_220.2.2.2.2.2.1
theorem dL_law_226 : decode cL_law 226 = .ok (.iconst 2, 1) := db_L_law_220.2.2.2.2.2.2.1
theorem dL_law_227 : decode cL_law 227 = .ok (.iadd, 1) := db_L_law_220.2.2.2.2.2.2.2
set_option maxRecDepth 20000 in
theorem db_L_law_228 : (decode cL_law 228 = .ok (.iaload, 1)) ∧ (decode cL_law 229 = .ok (.aload_n 0, 1)) ∧ (decode cL_law 230 = .ok (.iload_n 3, 1)) ∧ (decode cL_law 231 = .ok (.iconst 3, 1)) ∧ (decode cL_law 232 = .ok (.iadd, 1)) ∧ (decode cL_law 233 = .ok (.iaload, 1)) ∧ (decode cL_law 234 = .ok (.ifCond .eq 7, 3)) ∧ (decode cL_law 241 = .ok (.iconst 0, 1)) := by decide +kernel
theorem dL_law_228 : decode cL_law 228 = .ok (.iaload, 1) := db_L_law_228.1
theorem dL_law_229 : decode cL_law 229 = .ok (.aload_n 0, 1) := db_L_law_228.2.1
theorem dL_law_230 : decode cL_law 230 = .ok (.iload_n 3, 1) := db_L_law_228.2.2.1
theorem dL_law_231 : decode cL_law 231 = .ok (.iconst 3, 1) := db_L_law_228.2.2.2.1
theorem dL_law_232 : decode cL_law 232 = .ok (.iadd, 1) := db_L_law_228.2.2.2.2.1
theorem dL_law_233 : decode cL_law 233 = .ok (.iaload, 1) := db_L_law_228.2.2.2.2.2.1
theorem dL_law_234 : decode cL_law 234 = .ok (.ifCond .eq 7, 3) := db_L_law_228.2.2.2.2.2.2.1
theorem dL_law_241 : decode cL_law 241 = .ok (.iconst 0, 1) := db_L_law_228.2.2.2.2.2.2.2
set_option maxRecDepth 20000 in
theorem ggL_law_X7_kin : GoodIn wsL_law wsX7_kin := goodIn_ch _ [(5, 7), (0, 15), (4, 20), (4, 23), (5, 8), (5, 9), (5, 10), (0, 2), (5, 11), (4, 19), (4, 5), (4, 6), (4, 7), (5, 12), (5, 13), (5, 14), (5, 15), (4, 1), (5, 16), (5, 17), (5, 18), (29, 0), (29, 1), (29, 2), (29, 3), (29, 4), (31, 0), (31, 1), (31, 2), (31, 3), (31, 4), (31, 5), (31, 6), (35, 0), (35, 1), (35, 2)] rfl (by decide +kernel)
set_option maxRecDepth 20000 in
theorem gL_law_X7_kin : GoodIn wsL_law (wsV RL 22 RX7 yX7_kin wsX7_kin) := goodIn_app (goodIn_ch _ [(5, 4), (5, 5), (5, 6), (0, 2)] rfl (by decide +kernel)) ggL_law_X7_kin
set_option maxRecDepth 20000 in
theorem db_L_law_242 : (decode cL_law 242 = .ok (.invokevirtual 22, 3)) ∧ (decode cL_law 245 = .ok (.pop, 1)) ∧ (decode cL_law 246 = .ok (.aload_n 2, 1)) ∧ (decode cL_law 247 = .ok (.aload_n 0, 1)) ∧ (decode cL_law 248 = .ok (.iload_n 3, 1)) ∧ (decode cL_law 249 = .ok (.iconst 1, 1)) ∧ (decode cL_law 250 = .ok (.iadd, 1)) ∧ (decode cL_law 251 = .ok (.iaload, 1)) := by decide +kernel
theorem dL_law_242 : decode cL_law 242 = .ok (.invokevirtual 22, 3) := db_L_law_242.1
theorem dL_law_245 : decode cL_law 245 = .ok (.pop, 1) := db_L_law_242.2.1
theorem dL_law_246 : decode cL_law 246 = .ok (.aload_n 2, 1) := db_L_law_242.2.2.1
theorem dL_law_247 : decode cL_law 247 = .ok (.aload_n 0, 1) := db_L_law_242.2.2.2.1
theorem dL_law_248 : decode cL_law 248 = .ok (.iload_n 3, 1) := db_L_law_242.2.2.2.2.1
theorem dL_law_249 : decode cL_law 249 = .ok (.iconst 1, 1) := db_L_law_242.2.2.2.2.2.1
theorem dL_law_250 : decode cL_law 250 = .ok (.iadd, 1) := db_L_law_242.2.2.2.2.2.2.1
theorem dL_law_251 : decode cL_law 251 = .ok (.iaload, 1) := db_L_law_242.2.2.2.2.2.2.2
set_option maxRecDepth 20000 in
theorem db_L_law_252 : (decode cL_law 252 = .ok (.aload_n 0, 1)) ∧ (decode cL_law 253 = .ok (.iload_n 3, 1)) ∧ (decode cL_law 254 = .ok (.iconst 2, 1)) ∧ (decode cL_law 255 = .ok (.iadd, 1)) ∧ (decode cL_law 256 = .ok (.iaload, 1)) ∧ (decode cL_law 257 = .ok (.aload_n 0, 1)) ∧ (decode cL_law 258 = .ok (.iload_n 3, 1)) ∧ (decode cL_law 259 = .ok (.iconst 3, 1)) := by decide +kernel
theorem dL_law_252 : decode cL_law 252 = .ok (.aload_n 0, 1) := db_L_law_252.1
theorem dL_law_253 : decode cL_law 253 = .ok (.iload_n 3, 1) := db_L_law_252.2.1
theorem dL_law_254 : decode cL_law 254 = .ok (.iconst 2, 1) := db_L_law_252.2.2.1
theorem dL_law_255 : decode cL_law 255 = .ok (.iadd, 1) := db_L_law_252.2.2.2.1
theorem dL_law_256 : decode cL_law 256 = .ok (.iaload, 1) := db_L_law_252.2.2.2.2.1
theorem dL_law_257 : decode cL_law 257 = .ok (.aload_n 0, 1) := db_L_law_252.2.2.2.2.2.1
theorem dL_law_258 : decode cL_law 258 = .ok (.iload_n 3, 1) := db_L_law_252.2.2.2.2.2.2.1
theorem dL_law_259 : decode cL_law 259 = .ok (.iconst 3, 1) := db_L_law_252.2.2.2.2.2.2.2
set_option maxRecDepth 20000 in
theorem db_L_law_260 : (decode cL_law 260 = .ok (.iadd, 1)) ∧ (decode cL_law 261 = .ok (.iaload, 1)) ∧ (decode cL_law 262 = .ok (.ifCond .eq 7, 3)) ∧ (decode cL_law 269 = .ok (.iconst 0, 1)) ∧ (decode cL_law 270 = .ok (.invokevirtual 26, 3)) ∧ (decode cL_law 273 = .ok (.pop, 1)) ∧ (decode cL_law 274 = .ok (.goto 786, 3)) ∧ (decode cL_law 237 = .ok (.iconst 1, 1)) := by decide +kernel
theorem dL_law_260 : decode cL_law 260 = .ok (.iadd, 1) := db_L_law_260.1
theorem dL_law_261 : decode cL_law 261 = .ok (.iaload, 1) := db_L_law_260.2.1
theorem dL_law_262 : decode cL_law 262 = .ok (.ifCond .eq 7, 3) := db_L_law_260.2.2.1
theorem dL_law_269 : decode cL_law 269 = .ok (.iconst 0, 1) := db_L_law_260.2.2.2.1
set_option maxRecDepth 20000 in
theorem ggL_law_X8_kin : GoodIn wsL_law wsX8_kin := goodIn_ch _ [(5, 22), (3, 13), (5, 23), (6, 0), (6, 1), (0, 5), (6, 2), (4, 12), (4, 13), (4, 14), (6, 3), (6, 4), (6, 5), (6, 6), (30, 0), (30, 1), (30, 2), (30, 3), (30, 4), (30, 5), (30, 6), (30, 7), (30, 8), (30, 9), (30, 10)] rfl (by decide +kernel)
set_option maxRecDepth 20000 in
theorem gL_law_X8_kin : GoodIn wsL_law (wsV RL 26 RX8 yX8_kin wsX8_kin) := goodIn_app (goodIn_ch _ [(5, 19), (5, 20), (5, 21), (0, 5)] rfl (by decide +kernel)) ggL_law_X8_kin
theorem dL_law_270 : decode cL_law 270 = .ok (.invokevirtual 26, 3) := db_L_law_260.2.2.2.2.1
theorem dL_law_273 : decode cL_law 273 = .ok (.pop, 1) := db_L_law_260.2.2.2.2.2.1
theorem dL_law_274 : decode cL_law 274 = .ok (.goto 786, 3) := db_L_law_260.2.2.2.2.2.2.1
theorem dL_law_237 : decode cL_law 237 = .ok (.iconst 1, 1) := db_L_law_260.2.2.2.2.2.2.2
set_option maxRecDepth 20000 in
theorem db_L_law_238 : (decode cL_law 238 = .ok (.goto 4, 3)) ∧ (decode cL_law 265 = .ok (.iconst 1, 1)) ∧ (decode cL_law 266 = .ok (.goto 4, 3)) ∧ (decode cL_law 277 = .ok (.aload_n 1, 1)) ∧ (decode cL_law 278 = .ok (.aload_n 0, 1)) ∧ (decode cL_law 279 = .ok (.iload_n 3, 1)) ∧ (decode cL_law 280 = .ok (.iconst 1, 1)) ∧ (decode cL_law 281 = .ok (.iadd, 1)) := by decide +kernel
theorem dL_law_238 : decode cL_law 238 = .ok (.goto 4, 3) := db_L_law_238.1
theorem dL_law_265 : decode cL_law 265 = .ok (.iconst 1, 1) := db_L_law_238.2.1
theorem dL_law_266 : decode cL_law 266 = .ok (.goto 4, 3) := db_L_law_238.2.2.1
theorem dL_law_277 : decode cL_law 277 = .ok (.aload_n 1, 1) := db_L_law_238.2.2.2.1
theorem dL_law_278 : decode cL_law 278 = .ok (.aload_n 0, 1) := db_L_law_238.2.2.2.2.1
theorem dL_law_279 : decode cL_law 279 = .ok (.iload_n 3, 1) := db_L_law_238.2.2.2.2.2.1
theorem dL_law_280 : decode cL_law 280 = .ok (.iconst 1, 1) := db_L_law_238.2.2.2.2.2.2.1
theorem dL_law_281 : decode cL_law 281 = .ok (.iadd, 1) := db_L_law_238.2.2.2.2.2.2.2
set_option maxRecDepth 20000 in
theorem db_L_law_282 : (decode cL_law 282 = .ok (.iaload, 1)) ∧ (decode cL_law 283 = .ok (.aload_n 0, 1)) ∧ (decode cL_law 284 = .ok (.iload_n 3, 1)) ∧ (decode cL_law 285 = .ok (.iconst 2, 1)) ∧ (decode cL_law 286 = .ok (.iadd, 1)) ∧ (decode cL_law 287 = .ok (.iaload, 1)) ∧ (decode cL_law 288 = .ok (.invokevirtual 27, 3)) ∧ (decode cL_law 291 = .ok (.pop, 1)) := by decide +kernel
theorem dL_law_282 : decode cL_law 282 = .ok (.iaload, 1) := db_L_law_282.1
theorem dL_law_283 : decode cL_law 283 = .ok (.aload_n 0, 1) := db_L_law_282.2.1
theorem dL_law_284 : decode cL_law 284 = .ok (.iload_n 3, 1) := db_L_law_282.2.2.1
theorem dL_law_285 : decode cL_law 285 = .ok (.iconst 2, 1) := db_L_law_282.2.2.2.1
theorem dL_law_286 : decode cL_law 286 = .ok (.iadd, 1) := db_L_law_282.2.2.2.2.1
theorem dL_law_287 : decode cL_law 287 = .ok (.iaload, 1) := db_L_law_282.2.2.2.2.2.1
set_option maxRecDepth 20000 in
theorem ggL_law_X7_open : GoodIn wsL_law wsX7_open := goodIn_ch _ [(6, 10), (0, 15), (6, 11), (6, 12), (5, 12), (5, 13), (5, 14), (0, 2), (5, 15), (4, 1), (4, 5), (4, 6), (4, 7), (6, 13), (6, 14), (6, 15), (1, 17), (6, 16), (6, 17), (6, 18), (6, 19), (6, 20), (6, 21), (6, 22), (2, 5), (2, 6), (2, 9), (29, 0), (29, 1), (29, 2), (29, 3), (29, 4), (31, 0), (31, 1), (31, 2), (31, 3), (31, 4), (31, 5), (31, 6), (36, 0), (36, 1), (36, 2), (36, 3), (36, 4), (36, 5), (36, 6), (36, 7), (36, 8), (36, 9), (36, 10)] rfl (by decide +kernel)
set_option maxRecDepth 20000 in
theorem gL_law_X7_open : GoodIn wsL_law (wsV RL 27 RX7 yX7_open wsX7_open) := goodIn_app (goodIn_ch _ [(6, 7), (6, 8), (6, 9), (0, 2)] rfl (by decide +kernel)) ggL_law_X7_open
theorem dL_law_288 : decode cL_law 288 = .ok (.invokevirtual 27, 3) := db_L_law_282.2.2.2.2.2.2.1
theorem dL_law_291 : decode cL_law 291 = .ok (.pop, 1) := db_L_law_282.2.2.2.2.2.2.2
set_option maxRecDepth 20000 in
theorem db_L_law_292 : (decode cL_law 292 = .ok (.aload_n 2, 1)) ∧ (decode cL_law 293 = .ok (.aload_n 0, 1)) ∧ (decode cL_law 294 = .ok (.iload_n 3, 1)) ∧ (decode cL_law 295 = .ok (.iconst 1, 1)) ∧ (decode cL_law 296 = .ok (.iadd, 1)) ∧ (decode cL_law 297 = .ok (.iaload, 1)) ∧ (decode cL_law 298 = .ok (.aload_n 0, 1)) ∧ (decode cL_law 299 = .ok (.iload_n 3, 1)) := by decide +kernel
theorem dL_law_292 : decode cL_law 292 = .ok (.aload_n 2, 1) := db_L_law_292.1
theorem dL_law_293 : decode cL_law 293 = .ok (.aload_n 0, 1) := db_L_law_292.2.1
theorem dL_law_294 : decode cL_law 294 = .ok (.iload_n 3, 1) := db_L_law_292.2.2.1
theorem dL_law_295 : decode cL_law 295 = .ok (.iconst 1, 1) := db_L_law_292.2.2.2.1
theorem dL_law_296 : decode cL_law 296 = .ok (.iadd, 1) := db_L_law_292.2.2.2.2.1
theorem dL_law_297 : decode cL_law 297 = .ok (.iaload, 1) := db_L_law_292.2.2.2.2.2.1
theorem dL_law_298 : decode cL_law 298 = .ok (.aload_n 0, 1) := db_L_law_292.2.2.2.2.2.2.1
theorem dL_law_299 : decode cL_law 299 = .ok (.iload_n 3, 1) := db_L_law_292.2.2.2.2.2.2.2
set_option maxRecDepth 20000 in
theorem db_L_law_300 : (decode cL_law 300 = .ok (.iconst 2, 1)) ∧ (decode cL_law 301 = .ok (.iadd, 1)) ∧ (decode cL_law 302 = .ok (.iaload, 1)) ∧ (decode cL_law 303 = .ok (.invokevirtual 30, 3)) ∧ (decode cL_law 306 = .ok (.pop, 1)) ∧ (decode cL_law 307 = .ok (.goto 753, 3)) ∧ (decode cL_law 310 = .ok (.aload_n 1, 1)) ∧ (decode cL_law 311 = .ok (.aload_n 0, 1)) := by decide +kernel
theorem dL_law_300 : decode cL_law 300 = .ok (.iconst 2, 1) := db_L_law_300.1
theorem dL_law_301 : decode cL_law 301 = .ok (.iadd, 1) := db_L_law_300.2.1
theorem dL_law_302 : decode cL_law 302 = .ok (.iaload, 1) := db_L_law_300.2.2.1
set_option maxRecDepth 20000 in
theorem ggL_law_X8_open : GoodIn wsL_law wsX8_open := goodIn_ch _ [(7, 2), (3, 13), (6, 3), (6, 4), (6, 5), (0, 5), (6, 6), (4, 12), (4, 13), (4, 14), (7, 3), (7, 4), (7, 5), (30, 0), (30, 1), (30, 2), (30, 3), (30, 4), (30, 5), (30, 6), (30, 7), (30, 8), (30, 9), (30, 10)] rfl (by decide +kernel)
set_option maxRecDepth 20000 in
theorem gL_law_X8_open : GoodIn wsL_law (wsV RL 30 RX8 yX8_open wsX8_open) := goodIn_app (goodIn_ch _ [(6, 23), (7, 0), (7, 1), (0, 5)] rfl (by decide +kernel)) ggL_law_X8_open
theorem dL_law_303 : decode cL_law 303 = .ok (.invokevirtual 30, 3) := db_L_law_300.2.2.2.1
theorem dL_law_306 : decode cL_law 306 = .ok (.pop, 1) := db_L_law_300.2.2.2.2.1
theorem dL_law_307 : decode cL_law 307 = .ok (.goto 753, 3) := db_L_law_300.2.2.2.2.2.1
theorem dL_law_310 : decode cL_law 310 = .ok (.aload_n 1, 1) := db_L_law_300.2.2.2.2.2.2.1
theorem dL_law_311 : decode cL_law 311 = .ok (.aload_n 0, 1) := db_L_law_300.2.2.2.2.2.2.2
set_option maxRecDepth 20000 in
theorem db_L_law_312 : (decode cL_law 312 = .ok (.iload_n 3, 1)) ∧ (decode cL_law 313 = .ok (.iconst 1, 1)) ∧ (decode cL_law 314 = .ok (.iadd, 1)) ∧ (decode cL_law 315 = .ok (.iaload, 1)) ∧ (decode cL_law 316 = .ok (.invokevirtual 31, 3)) ∧ (decode cL_law 319 = .ok (.pop, 1)) ∧ (decode cL_law 320 = .ok (.aload_n 2, 1)) ∧ (decode cL_law 321 = .ok (.aload_n 0, 1)) := by decide +kernel
theorem dL_law_312 : decode cL_law 312 = .ok (.iload_n 3, 1) := db_L_law_312.1
theorem dL_law_313 : decode cL_law 313 = .ok (.iconst 1, 1) := db_L_law_312.2.1
theorem dL_law_314 : decode cL_law 314 = .ok (.iadd, 1) := db_L_law_312.2.2.1
theorem dL_law_315 : decode cL_law 315 = .ok (.iaload, 1) := db_L_law_312.2.2.2.1
set_option maxRecDepth 20000 in
theorem ggL_law_X7_close : GoodIn wsL_law wsX7_close := goodIn_ch _ [(7, 9), (0, 15), (6, 12), (7, 10), (7, 11), (7, 12), (7, 13), (0, 2), (7, 14), (6, 11), (4, 5), (4, 6), (4, 7), (29, 0), (29, 1), (29, 2), (29, 3), (29, 4), (31, 0), (31, 1), (31, 2), (31, 3), (31, 4), (31, 5), (31, 6), (36, 0), (36, 1), (36, 2), (36, 3), (36, 4), (36, 5), (36, 6), (36, 7), (36, 8), (36, 9), (36, 10)] rfl (by decide +kernel)
set_option maxRecDepth 20000 in
theorem gL_law_X7_close : GoodIn wsL_law (wsV RL 31 RX7 yX7_close wsX7_close) := goodIn_app (goodIn_ch _ [(7, 6), (7, 7), (7, 8), (0, 2)] rfl (by decide +kernel)) ggL_law_X7_close
theorem dL_law_316 : decode cL_law 316 = .ok (.invokevirtual 31, 3) := db_L_law_312.2.2.2.2.1
theorem dL_law_319 : decode cL_law 319 = .ok (.pop, 1) := db_L_law_312.2.2.2.2.2.1
theorem dL_law_320 : decode cL_law 320 = .ok (.aload_n 2, 1) := db_L_law_312.2.2.2.2.2.2.1
theorem dL_law_321 : decode cL_law 321 = .ok (.aload_n 0, 1) := db_L_law_312.2.2.2.2.2.2.2
set_option maxRecDepth 20000 in
theorem db_L_law_322 : (decode cL_law 322 = .ok (.iload_n 3, 1)) ∧ (decode cL_law 323 = .ok (.iconst 1, 1)) ∧ (decode cL_law 324 = .ok (.iadd, 1)) ∧ (decode cL_law 325 = .ok (.iaload, 1)) ∧ (decode cL_law 326 = .ok (.invokevirtual 35, 3)) ∧ (decode cL_law 329 = .ok (.pop, 1)) ∧ (decode cL_law 330 = .ok (.goto 730, 3)) ∧ (decode cL_law 333 = .ok (.aload_n 1, 1)) := by decide +kernel
theorem dL_law_322 : decode cL_law 322 = .ok (.iload_n 3, 1) := db_L_law_322.1
theorem dL_law_323 : decode cL_law 323 = .ok (.iconst 1, 1) := db_L_law_322.2.1
theorem dL_law_324 : decode cL_law 324 = .ok (.iadd, 1) := db_L_law_322.2.2.1
theorem dL_law_325 : decode cL_law 325 = .ok (.iaload, 1) := db_L_law_322.2.2.2.1
set_option maxRecDepth 20000 in
theorem ggL_law_X8_close : GoodIn wsL_law wsX8_close := goodIn_ch _ [(7, 18), (3, 13), (7, 19), (7, 20), (7, 21), (0, 5), (7, 22), (4, 12), (4, 13), (4, 14), (7, 3), (7, 4), (7, 5), (30, 0), (30, 1), (30, 2), (30, 3), (30, 4), (30, 5), (30, 6), (30, 7), (30, 8), (30, 9), (30, 10)] rfl (by decide +kernel)
set_option maxRecDepth 20000 in
theorem gL_law_X8_close : GoodIn wsL_law (wsV RL 35 RX8 yX8_close wsX8_close) := goodIn_app (goodIn_ch _ [(7, 15), (7, 16), (7, 17), (0, 5)] rfl (by decide +kernel)) ggL_law_X8_close
theorem dL_law_326 : decode cL_law 326 = .ok (.invokevirtual 35, 3) := db_L_law_322.2.2.2.2.1
theorem dL_law_329 : decode cL_law 329 = .ok (.pop, 1) := db_L_law_322.2.2.2.2.2.1
theorem dL_law_330 : decode cL_law 330 = .ok (.goto 730, 3) := db_L_law_322.2.2.2.2.2.2.1
theorem dL_law_333 : decode cL_law 333 = .ok (.aload_n 1, 1) := db_L_law_322.2.2.2.2.2.2.2
set_option maxRecDepth 20000 in
theorem db_L_law_334 : (decode cL_law 334 = .ok (.aload_n 0, 1)) ∧ (decode cL_law 335 = .ok (.iload_n 3, 1)) ∧ (decode cL_law 336 = .ok (.iconst 1, 1)) ∧ (decode cL_law 337 = .ok (.iadd, 1)) ∧ (decode cL_law 338 = .ok (.iaload, 1)) ∧ (decode cL_law 339 = .ok (.aload_n 0, 1)) ∧ (decode cL_law 340 = .ok (.iload_n 3, 1)) ∧ (decode cL_law 341 = .ok (.iconst 2, 1)) := by decide +kernel
theorem dL_law_334 : decode cL_law 334 = .ok (.aload_n 0, 1) := db_L_law_334.1
theorem dL_law_335 : decode cL_law 335 = .ok (.iload_n 3, 1) := db_L_law_334.2.1
theorem dL_law_336 : decode cL_law 336 = .ok (.iconst 1, 1) := db_L_law_334.2.2.1
theorem dL_law_337 : decode cL_law 337 = .ok (.iadd, 1) := db_L_law_334.2.2.2.1
theorem dL_law_338 : decode cL_law 338 = .ok (.iaload, 1) := db_L_law_334.2.2.2.2.1
theorem dL_law_339 : decode cL_law 339 = .ok (.aload_n 0, 1) := db_L_law_334.2.2.2.2.2.1
theorem dL_law_340 : decode cL_law 340 = .ok (.iload_n 3, 1) := db_L_law_334.2.2.2.2.2.2.1
theorem dL_law_341 : decode cL_law 341 = .ok (.iconst 2, 1) := db_L_law_334.2.2.2.2.2.2.2
set_option maxRecDepth 20000 in
theorem db_L_law_342 : (decode cL_law 342 = .ok (.iadd, 1)) ∧ (decode cL_law 343 = .ok (.iaload, 1)) ∧ (decode cL_law 344 = .ok (.invokevirtual 36, 3)) ∧ (decode cL_law 347 = .ok (.pop, 1)) ∧ (decode cL_law 348 = .ok (.aload_n 2, 1)) ∧ (decode cL_law 349 = .ok (.aload_n 0, 1)) ∧ (decode cL_law 350 = .ok (.iload_n 3, 1)) ∧ (decode cL_law 351 = .ok (.iconst 1, 1)) := by decide +kernel
theorem dL_law_342 : decode cL_law 342 = .ok (.iadd, 1) := db_L_law_342.1
theorem dL_law_343 : decode cL_law 343 = .ok (.iaload, 1) := db_L_law_342.2.1
set_option maxRecDepth 20000 in
theorem ggL_law_X7_weight : GoodIn wsL_law wsX7_weight := goodIn_ch _ [(8, 2), (0, 15), (6, 12), (8, 3), (7, 11), (7, 12), (7, 13), (0, 2), (7, 14), (6, 11), (4, 5), (4, 6), (4, 7), (29, 0), (29, 1), (29, 2), (29, 3), (29, 4), (31, 0), (31, 1), (31, 2), (31, 3), (31, 4), (31, 5), (31, 6), (36, 0), (36, 1), (36, 2), (36, 3), (36, 4), (36, 5), (36, 6), (36, 7), (36, 8), (36, 9), (36, 10)] rfl (by decide +kernel)
set_option maxRecDepth 20000 in
theorem gL_law_X7_weight : GoodIn wsL_law (wsV RL 36 RX7 yX7_weight wsX7_weight) := goodIn_app (goodIn_ch _ [(7, 23), (8, 0), (8, 1), (0, 2)] rfl (by decide +kernel)) ggL_law_X7_weight
theorem dL_law_344 : decode cL_law 344 = .ok (.invokevirtual 36, 3) := db_L_law_342.2.2.1
theorem dL_law_347 : decode cL_law 347 = .ok (.pop, 1) := db_L_law_342.2.2.2.1
theorem dL_law_348 : decode cL_law 348 = .ok (.aload_n 2, 1) := db_L_law_342.2.2.2.2.1
theorem dL_law_349 : decode cL_law 349 = .ok (.aload_n 0, 1) := db_L_law_342.2.2.2.2.2.1
theorem dL_law_350 : decode cL_law 350 = .ok (.iload_n 3, 1) := db_L_law_342.2.2.2.2.2.2.1
theorem dL_law_351 : decode cL_law 351 = .ok (.iconst 1, 1) := db_L_law_342.2.2.2.2.2.2.2
set_option maxRecDepth 20000 in
theorem db_L_law_352 : (decode cL_law 352 = .ok (.iadd, 1)) ∧ (decode cL_law 353 = .ok (.iaload, 1)) ∧ (decode cL_law 354 = .ok (.aload_n 0, 1)) ∧ (decode cL_law 355 = .ok (.iload_n 3, 1)) ∧ (decode cL_law 356 = .ok (.iconst 2, 1)) ∧ (decode cL_law 357 = .ok (.iadd, 1)) ∧ (decode cL_law 358 = .ok (.iaload, 1)) ∧ (decode cL_law 359 = .ok (.invokevirtual 39, 3)) := by decide +kernel
theorem dL_law_352 : decode cL_law 352 = .ok (.iadd, 1) := db_L_law_352.1
theorem dL_law_353 : decode cL_law 353 = .ok (.iaload, 1) := db_L_law_352.2.1
theorem dL_law_354 : decode cL_law 354 = .ok (.aload_n 0, 1) := db_L_law_352.2.2.1
theorem dL_law_355 : decode cL_law 355 = .ok (.iload_n 3, 1) := db_L_law_352.2.2.2.1
theorem dL_law_356 : decode cL_law 356 = .ok (.iconst 2, 1) := db_L_law_352.2.2.2.2.1
theorem dL_law_357 : decode cL_law 357 = .ok (.iadd, 1) := db_L_law_352.2.2.2.2.2.1
theorem dL_law_358 : decode cL_law 358 = .ok (.iaload, 1) := db_L_law_352.2.2.2.2.2.2.1
set_option maxRecDepth 20000 in
theorem ggL_law_X8_weight : GoodIn wsL_law wsX8_weight := goodIn_ch _ [(8, 7), (3, 13), (7, 19), (7, 20), (7, 21), (0, 5), (7, 22), (4, 12), (4, 13), (4, 14), (7, 3), (7, 4), (7, 5), (30, 0), (30, 1), (30, 2), (30, 3), (30, 4), (30, 5), (30, 6), (30, 7), (30, 8), (30, 9), (30, 10)] rfl (by decide +kernel)
set_option maxRecDepth 20000 in
theorem gL_law_X8_weight : GoodIn wsL_law (wsV RL 39 RX8 yX8_weight wsX8_weight) := goodIn_app (goodIn_ch _ [(8, 4), (8, 5), (8, 6), (0, 5)] rfl (by decide +kernel)) ggL_law_X8_weight
theorem dL_law_359 : decode cL_law 359 = .ok (.invokevirtual 39, 3) := db_L_law_352.2.2.2.2.2.2.2
set_option maxRecDepth 20000 in
theorem db_L_law_362 : (decode cL_law 362 = .ok (.pop, 1)) ∧ (decode cL_law 363 = .ok (.goto 697, 3)) ∧ (decode cL_law 366 = .ok (.aload_n 1, 1)) ∧ (decode cL_law 367 = .ok (.aload_n 0, 1)) ∧ (decode cL_law 368 = .ok (.iload_n 3, 1)) ∧ (decode cL_law 369 = .ok (.iconst 1, 1)) ∧ (decode cL_law 370 = .ok (.iadd, 1)) ∧ (decode cL_law 371 = .ok (.iaload, 1)) := by decide +kernel
theorem dL_law_362 : decode cL_law 362 = .ok (.pop, 1) := db_L_law_362.1
theorem dL_law_363 : decode cL_law 363 = .ok (.goto 697, 3) := db_L_law_362.2.1
theorem dL_law_366 : decode cL_law 366 = .ok (.aload_n 1, 1) := db_L_law_362.2.2.1
theorem dL_law_367 : decode cL_law 367 = .ok (.aload_n 0, 1) := db_L_law_362.2.2.2.1
theorem dL_law_368 : decode cL_law 368 = .ok (.iload_n 3, 1) := db_L_law_362.2.2.2.2.1
theorem dL_law_369 : decode cL_law 369 = .ok (.iconst 1, 1) := db_L_law_362.2.2.2.2.2.1
theorem dL_law_370 : decode cL_law 370 = .ok (.iadd, 1) := db_L_law_362.2.2.2.2.2.2.1
theorem dL_law_371 : decode cL_law 371 = .ok (.iaload, 1) := db_L_law_362.2.2.2.2.2.2.2
set_option maxRecDepth 20000 in
theorem db_L_law_372 : (decode cL_law 372 = .ok (.aload_n 0, 1)) ∧ (decode cL_law 373 = .ok (.iload_n 3, 1)) ∧ (decode cL_law 374 = .ok (.iconst 2, 1)) ∧ (decode cL_law 375 = .ok (.iadd, 1)) ∧ (decode cL_law 376 = .ok (.iaload, 1)) ∧ (decode cL_law 377 = .ok (.invokevirtual 40, 3)) ∧ (decode cL_law 380 = .ok (.pop, 1)) ∧ (decode cL_law 381 = .ok (.aload_n 2, 1)) := by decide +kernel
theorem dL_law_372 : decode cL_law 372 = .ok (.aload_n 0, 1) := db_L_law_372.1
theorem dL_law_373 : decode cL_law 373 = .ok (.iload_n 3, 1) := db_L_law_372.2.1
theorem dL_law_374 : decode cL_law 374 = .ok (.iconst 2, 1) := db_L_law_372.2.2.1
theorem dL_law_375 : decode cL_law 375 = .ok (.iadd, 1) := db_L_law_372.2.2.2.1
theorem dL_law_376 : decode cL_law 376 = .ok (.iaload, 1) := db_L_law_372.2.2.2.2.1
set_option maxRecDepth 20000 in
theorem ggL_law_X7_mark : GoodIn wsL_law wsX7_mark := goodIn_ch _ [(8, 11), (0, 15), (6, 12), (8, 12), (8, 13), (7, 11), (7, 12), (7, 13), (0, 2), (7, 14), (6, 11), (4, 5), (4, 6), (4, 7), (5, 16), (5, 17), (5, 18), (29, 0), (29, 1), (29, 2), (29, 3), (29, 4), (31, 0), (31, 1), (31, 2), (31, 3), (31, 4), (31, 5), (31, 6), (36, 0), (36, 1), (36, 2), (36, 3), (36, 4), (36, 5), (36, 6), (36, 7), (36, 8), (36, 9), (36, 10)] rfl (by decide +kernel)
set_option maxRecDepth 20000 in
theorem gL_law_X7_mark : GoodIn wsL_law (wsV RL 40 RX7 yX7_mark wsX7_mark) := goodIn_app (goodIn_ch _ [(8, 8), (8, 9), (8, 10), (0, 2)] rfl (by decide +kernel)) ggL_law_X7_mark
theorem dL_law_377 : decode cL_law 377 = .ok (.invokevirtual 40, 3) := db_L_law_372.2.2.2.2.2.1
theorem dL_law_380 : decode cL_law 380 = .ok (.pop, 1) := db_L_law_372.2.2.2.2.2.2.1
theorem dL_law_381 : decode cL_law 381 = .ok (.aload_n 2, 1) := db_L_law_372.2.2.2.2.2.2.2
set_option maxRecDepth 20000 in
theorem db_L_law_382 : (decode cL_law 382 = .ok (.aload_n 0, 1)) ∧ (decode cL_law 383 = .ok (.iload_n 3, 1)) ∧ (decode cL_law 384 = .ok (.iconst 1, 1)) ∧ (decode cL_law 385 = .ok (.iadd, 1)) ∧ (decode cL_law 386 = .ok (.iaload, 1)) ∧ (decode cL_law 387 = .ok (.aload_n 0, 1)) ∧ (decode cL_law 388 = .ok (.iload_n 3, 1)) ∧ (decode cL_law 389 = .ok (.iconst 2, 1)) := by decide +kernel
theorem dL_law_382 : decode cL_law 382 = .ok (.aload_n 0, 1) := db_L_law_382.1
theorem dL_law_383 : decode cL_law 383 = .ok (.iload_n 3, 1) := db_L_law_382.2.1
theorem dL_law_384 : decode cL_law 384 = .ok (.iconst 1, 1) := db_L_law_382.2.2.1
theorem dL_law_385 : decode cL_law 385 = .ok (.iadd, 1) := db_L_law_382.2.2.2.1
theorem dL_law_386 : decode cL_law 386 = .ok (.iaload, 1) := db_L_law_382.2.2.2.2.1
theorem dL_law_387 : decode cL_law 387 = .ok (.aload_n 0, 1) := db_L_law_382.2.2.2.2.2.1
theorem dL_law_388 : decode cL_law 388 = .ok (.iload_n 3, 1) := db_L_law_382.2.2.2.2.2.2.1
theorem dL_law_389 : decode cL_law 389 = .ok (.iconst 2, 1) := db_L_law_382.2.2.2.2.2.2.2
set_option maxRecDepth 20000 in
theorem db_L_law_390 : (decode cL_law 390 = .ok (.iadd, 1)) ∧ (decode cL_law 391 = .ok (.iaload, 1)) ∧ (decode cL_law 392 = .ok (.invokevirtual 43, 3)) ∧ (decode cL_law 395 = .ok (.pop, 1)) ∧ (decode cL_law 396 = .ok (.goto 664, 3)) ∧ (decode cL_law 399 = .ok (.aload_n 1, 1)) ∧ (decode cL_law 400 = .ok (.aload_n 0, 1)) ∧ (decode cL_law 401 = .ok (.iload_n 3, 1)) := by decide +kernel
theorem dL_law_390 : decode cL_law 390 = .ok (.iadd, 1) := db_L_law_390.1
theorem dL_law_391 : decode cL_law 391 = .ok (.iaload, 1) := db_L_law_390.2.1
set_option maxRecDepth 20000 in
theorem ggL_law_X8_mark : GoodIn wsL_law wsX8_mark := goodIn_ch _ [(8, 17), (3, 13), (7, 19), (7, 20), (7, 21), (0, 5), (7, 22), (4, 12), (4, 13), (4, 14), (30, 0), (30, 1), (30, 2), (30, 3), (30, 4), (30, 5), (30, 6), (30, 7), (30, 8), (30, 9), (30, 10)] rfl (by decide +kernel)
set_option maxRecDepth 20000 in
theorem gL_law_X8_mark : GoodIn wsL_law (wsV RL 43 RX8 yX8_mark wsX8_mark) := goodIn_app (goodIn_ch _ [(8, 14), (8, 15), (8, 16), (0, 5)] rfl (by decide +kernel)) ggL_law_X8_mark
theorem dL_law_392 : decode cL_law 392 = .ok (.invokevirtual 43, 3) := db_L_law_390.2.2.1
theorem dL_law_395 : decode cL_law 395 = .ok (.pop, 1) := db_L_law_390.2.2.2.1
theorem dL_law_396 : decode cL_law 396 = .ok (.goto 664, 3) := db_L_law_390.2.2.2.2.1
theorem dL_law_399 : decode cL_law 399 = .ok (.aload_n 1, 1) := db_L_law_390.2.2.2.2.2.1
theorem dL_law_400 : decode cL_law 400 = .ok (.aload_n 0, 1) := db_L_law_390.2.2.2.2.2.2.1
theorem dL_law_401 : decode cL_law 401 = .ok (.iload_n 3, 1) := db_L_law_390.2.2.2.2.2.2.2
set_option maxRecDepth 20000 in
theorem db_L_law_402 : (decode cL_law 402 = .ok (.iconst 1, 1)) ∧ (decode cL_law 403 = .ok (.iadd, 1)) ∧ (decode cL_law 404 = .ok (.iaload, 1)) ∧ (decode cL_law 405 = .ok (.aload_n 0, 1)) ∧ (decode cL_law 406 = .ok (.iload_n 3, 1)) ∧ (decode cL_law 407 = .ok (.iconst 2, 1)) ∧ (decode cL_law 408 = .ok (.iadd, 1)) ∧ (decode cL_law 409 = .ok (.iaload, 1)) := by decide +kernel
theorem dL_law_402 : decode cL_law 402 = .ok (.iconst 1, 1) := db_L_law_402.1
theorem dL_law_403 : decode cL_law 403 = .ok (.iadd, 1) := db_L_law_402.2.1
theorem dL_law_404 : decode cL_law 404 = .ok (.iaload, 1) := db_L_law_402.2.2.1
theorem dL_law_405 : decode cL_law 405 = .ok (.aload_n 0, 1) := db_L_law_402.2.2.2.1
theorem dL_law_406 : decode cL_law 406 = .ok (.iload_n 3, 1) := db_L_law_402.2.2.2.2.1
theorem dL_law_407 : decode cL_law 407 = .ok (.iconst 2, 1) := db_L_law_402.2.2.2.2.2.1
theorem dL_law_408 : decode cL_law 408 = .ok (.iadd, 1) := db_L_law_402.2.2.2.2.2.2.1
theorem dL_law_409 : decode cL_law 409 = .ok (.iaload, 1) := db_L_law_402.2.2.2.2.2.2.2
set_option maxRecDepth 20000 in
theorem ggL_law_X7_of : GoodIn wsL_law wsX7_of := goodIn_ch _ [(8, 21), (0, 15), (6, 12), (8, 22), (7, 10), (8, 23), (9, 0), (8, 3), (7, 11), (7, 12), (7, 13), (0, 2), (7, 14), (6, 11), (4, 5), (4, 6), (4, 7), (9, 1), (9, 2), (9, 3), (0, 14), (9, 4), (9, 5), (9, 6), (9, 7), (9, 8), (9, 9), (1, 11), (9, 10), (5, 17), (5, 18), (9, 11), (9, 12), (9, 13), (9, 14), (9, 15), (9, 16), (9, 17), (9, 18), (29, 0), (29, 1), (29, 2), (29, 3), (29, 4), (31, 0), (31, 1), (31, 2), (31, 3), (31, 4), (31, 5), (31, 6), (36, 0), (36, 1), (36, 2), (36, 3), (36, 4), (36, 5), (36, 6), (36, 7), (36, 8), (36, 9), (36, 10)] rfl (by decide +kernel)
set_option maxRecDepth 20000 in
theorem gL_law_X7_of : GoodIn wsL_law (wsV RL 44 RX7 yX7_of wsX7_of) := goodIn_app (goodIn_ch _ [(8, 18), (8, 19), (8, 20), (0, 2)] rfl (by decide +kernel)) ggL_law_X7_of
set_option maxRecDepth 20000 in
theorem db_L_law_410 : (decode cL_law 410 = .ok (.invokevirtual 44, 3)) ∧ (decode cL_law 413 = .ok (.pop, 1)) ∧ (decode cL_law 414 = .ok (.aload_n 2, 1)) ∧ (decode cL_law 415 = .ok (.aload_n 0, 1)) ∧ (decode cL_law 416 = .ok (.iload_n 3, 1)) ∧ (decode cL_law 417 = .ok (.iconst 1, 1)) ∧ (decode cL_law 418 = .ok (.iadd, 1)) ∧ (decode cL_law 419 = .ok (.iaload, 1)) := by decide +kernel
theorem dL_law_410 : decode cL_law 410 = .ok (.invokevirtual 44, 3) := db_L_law_410.1
theorem dL_law_413 : decode cL_law 413 = .ok (.pop, 1) := db_L_law_410.2.1
theorem dL_law_414 : decode cL_law 414 = .ok (.aload_n 2, 1) := db_L_law_410.2.2.1
theorem dL_law_415 : decode cL_law 415 = .ok (.aload_n 0, 1) := db_L_law_410.2.2.2.1
theorem dL_law_416 : decode cL_law 416 = .ok (.iload_n 3, 1) := db_L_law_410.2.2.2.2.1
theorem dL_law_417 : decode cL_law 417 = .ok (.iconst 1, 1) := db_L_law_410.2.2.2.2.2.1
theorem dL_law_418 : decode cL_law 418 = .ok (.iadd, 1) := db_L_law_410.2.2.2.2.2.2.1
theorem dL_law_419 : decode cL_law 419 = .ok (.iaload, 1) := db_L_law_410.2.2.2.2.2.2.2
set_option maxRecDepth 20000 in
theorem db_L_law_420 : (decode cL_law 420 = .ok (.aload_n 0, 1)) ∧ (decode cL_law 421 = .ok (.iload_n 3, 1)) ∧ (decode cL_law 422 = .ok (.iconst 2, 1)) ∧ (decode cL_law 423 = .ok (.iadd, 1)) ∧ (decode cL_law 424 = .ok (.iaload, 1)) ∧ (decode cL_law 425 = .ok (.invokevirtual 47, 3)) ∧ (decode cL_law 428 = .ok (.pop, 1)) ∧ (decode cL_law 429 = .ok (.goto 631, 3)) := by decide +kernel
theorem dL_law_420 : decode cL_law 420 = .ok (.aload_n 0, 1) := db_L_law_420.1
theorem dL_law_421 : decode cL_law 421 = .ok (.iload_n 3, 1) := db_L_law_420.2.1
theorem dL_law_422 : decode cL_law 422 = .ok (.iconst 2, 1) := db_L_law_420.2.2.1
theorem dL_law_423 : decode cL_law 423 = .ok (.iadd, 1) := db_L_law_420.2.2.2.1
theorem dL_law_424 : decode cL_law 424 = .ok (.iaload, 1) := db_L_law_420.2.2.2.2.1
set_option maxRecDepth 20000 in
theorem ggL_law_X8_of : GoodIn wsL_law wsX8_of := goodIn_ch _ [(9, 22), (3, 16), (3, 13), (7, 19), (7, 20), (7, 21), (0, 5), (7, 22), (4, 12), (4, 13), (4, 14), (9, 23), (10, 0), (10, 1), (10, 2), (10, 3), (10, 4), (10, 5), (10, 6), (7, 3), (7, 4), (7, 5), (30, 0), (30, 1), (30, 2), (30, 3), (30, 4), (30, 5), (30, 6), (30, 7), (30, 8), (30, 9), (30, 10)] rfl (by decide +kernel)
set_option maxRecDepth 20000 in
theorem gL_law_X8_of : GoodIn wsL_law (wsV RL 47 RX8 yX8_of wsX8_of) := goodIn_app (goodIn_ch _ [(9, 19), (9, 20), (9, 21), (0, 5)] rfl (by decide +kernel)) ggL_law_X8_of
theorem dL_law_425 : decode cL_law 425 = .ok (.invokevirtual 47, 3) := db_L_law_420.2.2.2.2.2.1
theorem dL_law_428 : decode cL_law 428 = .ok (.pop, 1) := db_L_law_420.2.2.2.2.2.2.1
theorem dL_law_429 : decode cL_law 429 = .ok (.goto 631, 3) := db_L_law_420.2.2.2.2.2.2.2
set_option maxRecDepth 20000 in
theorem db_L_law_432 : (decode cL_law 432 = .ok (.aload_n 1, 1)) ∧ (decode cL_law 433 = .ok (.aload_n 0, 1)) ∧ (decode cL_law 434 = .ok (.iload_n 3, 1)) ∧ (decode cL_law 435 = .ok (.iconst 1, 1)) ∧ (decode cL_law 436 = .ok (.iadd, 1)) ∧ (decode cL_law 437 = .ok (.iaload, 1)) ∧ (decode cL_law 438 = .ok (.aload_n 0, 1)) ∧ (decode cL_law 439 = .ok (.iload_n 3, 1)) := by decide +kernel
theorem dL_law_432 : decode cL_law 432 = .ok (.aload_n 1, 1) := db_L_law_432.1
theorem dL_law_433 : decode cL_law 433 = .ok (.aload_n 0, 1) := db_L_law_432.2.1
theorem dL_law_434 : decode cL_law 434 = .ok (.iload_n 3, 1) := db_L_law_432.2.2.1
theorem dL_law_435 : decode cL_law 435 = .ok (.iconst 1, 1) := db_L_law_432.2.2.2.1
theorem dL_law_436 : decode cL_law 436 = .ok (.iadd, 1) := db_L_law_432.2.2.2.2.1
theorem dL_law_437 : decode cL_law 437 = .ok (.iaload, 1) := db_L_law_432.2.2.2.2.2.1
theorem dL_law_438 : decode cL_law 438 = .ok (.aload_n 0, 1) := db_L_law_432.2.2.2.2.2.2.1
theorem dL_law_439 : decode cL_law 439 = .ok (.iload_n 3, 1) := db_L_law_432.2.2.2.2.2.2.2
set_option maxRecDepth 20000 in
theorem db_L_law_440 : (decode cL_law 440 = .ok (.iconst 2, 1)) ∧ (decode cL_law 441 = .ok (.iadd, 1)) ∧ (decode cL_law 442 = .ok (.iaload, 1)) ∧ (decode cL_law 443 = .ok (.aload_n 0, 1)) ∧ (decode cL_law 444 = .ok (.iload_n 3, 1)) ∧ (decode cL_law 445 = .ok (.iconst 3, 1)) ∧ (decode cL_law 446 = .ok (.iadd, 1)) ∧ (decode cL_law 447 = .ok (.iaload, 1)) := by decide +kernel
theorem dL_law_440 : decode cL_law 440 = .ok (.iconst 2, 1) := db_L_law_440.1
theorem dL_law_441 : decode cL_law 441 = .ok (.iadd, 1) := db_L_law_440.2.1
theorem dL_law_442 : decode cL_law 442 = .ok (.iaload, 1) := db_L_law_440.2.2.1
theorem dL_law_443 : decode cL_law 443 = .ok (.aload_n 0, 1) := db_L_law_440.2.2.2.1
theorem dL_law_444 : decode cL_law 444 = .ok (.iload_n 3, 1) := db_L_law_440.2.2.2.2.1
theorem dL_law_445 : decode cL_law 445 = .ok (.iconst 3, 1) := db_L_law_440.2.2.2.2.2.1
theorem dL_law_446 : decode cL_law 446 = .ok (.iadd, 1) := db_L_law_440.2.2.2.2.2.2.1
theorem dL_law_447 : decode cL_law 447 = .ok (.iaload, 1) := db_L_law_440.2.2.2.2.2.2.2
set_option maxRecDepth 20000 in
theorem ggL_law_X7_offer : GoodIn wsL_law wsX7_offer := goodIn_ch _ [(10, 10), (0, 15), (6, 12), (7, 10), (10, 11), (9, 0), (7, 11), (7, 12), (7, 13), (0, 2), (7, 14), (6, 11), (4, 5), (4, 6), (4, 7), (10, 12), (10, 13), (10, 14), (10, 15), (10, 16), (10, 17), (1, 17), (10, 18), (2, 6), (6, 19), (2, 8), (6, 17), (6, 18), (29, 0), (29, 1), (29, 2), (29, 3), (29, 4), (31, 0), (31, 1), (31, 2), (31, 3), (31, 4), (31, 5), (31, 6), (36, 0), (36, 1), (36, 2), (36, 3), (36, 4), (36, 5), (36, 6), (36, 7), (36, 8), (36, 9), (36, 10)] rfl (by decide +kernel)
set_option maxRecDepth 20000 in
theorem gL_law_X7_offer : GoodIn wsL_law (wsV RL 48 RX7 yX7_offer wsX7_offer) := goodIn_app (goodIn_ch _ [(10, 7), (10, 8), (10, 9), (0, 2)] rfl (by decide +kernel)) ggL_law_X7_offer
set_option maxRecDepth 20000 in
theorem db_L_law_448 : (decode cL_law 448 = .ok (.invokevirtual 48, 3)) ∧ (decode cL_law 451 = .ok (.pop, 1)) ∧ (decode cL_law 452 = .ok (.aload_n 2, 1)) ∧ (decode cL_law 453 = .ok (.aload_n 0, 1)) ∧ (decode cL_law 454 = .ok (.iload_n 3, 1)) ∧ (decode cL_law 455 = .ok (.iconst 1, 1)) ∧ (decode cL_law 456 = .ok (.iadd, 1)) ∧ (decode cL_law 457 = .ok (.iaload, 1)) := by decide +kernel
theorem dL_law_448 : decode cL_law 448 = .ok (.invokevirtual 48, 3) := db_L_law_448.1
theorem dL_law_451 : decode cL_law 451 = .ok (.pop, 1) := db_L_law_448.2.1
theorem dL_law_452 : decode cL_law 452 = .ok (.aload_n 2, 1) := db_L_law_448.2.2.1
theorem dL_law_453 : decode cL_law 453 = .ok (.aload_n 0, 1) := db_L_law_448.2.2.2.1
theorem dL_law_454 : decode cL_law 454 = .ok (.iload_n 3, 1) := db_L_law_448.2.2.2.2.1
theorem dL_law_455 : decode cL_law 455 = .ok (.iconst 1, 1) := db_L_law_448.2.2.2.2.2.1
theorem dL_law_456 : decode cL_law 456 = .ok (.iadd, 1) := db_L_law_448.2.2.2.2.2.2.1
theorem dL_law_457 : decode cL_law 457 = .ok (.iaload, 1) := db_L_law_448.2.2.2.2.2.2.2
set_option maxRecDepth 20000 in
theorem db_L_law_458 : (decode cL_law 458 = .ok (.aload_n 0, 1)) ∧ (decode cL_law 459 = .ok (.iload_n 3, 1)) ∧ (decode cL_law 460 = .ok (.iconst 2, 1)) ∧ (decode cL_law 461 = .ok (.iadd, 1)) ∧ (decode cL_law 462 = .ok (.iaload, 1)) ∧ (decode cL_law 463 = .ok (.aload_n 0, 1)) ∧ (decode cL_law 464 = .ok (.iload_n 3, 1)) ∧ (decode cL_law 465 = .ok (.iconst 3, 1)) := by decide +kernel
theorem dL_law_458 : decode cL_law 458 = .ok (.aload_n 0, 1) := db_L_law_458.1
theorem dL_law_459 : decode cL_law 459 = .ok (.iload_n 3, 1) := db_L_law_458.2.1
theorem dL_law_460 : decode cL_law 460 = .ok (.iconst 2, 1) := db_L_law_458.2.2.1
theorem dL_law_461 : decode cL_law 461 = .ok (.iadd, 1) := db_L_law_458.2.2.2.1
theorem dL_law_462 : decode cL_law 462 = .ok (.iaload, 1) := db_L_law_458.2.2.2.2.1
theorem dL_law_463 : decode cL_law 463 = .ok (.aload_n 0, 1) := db_L_law_458.2.2.2.2.2.1
theorem dL_law_464 : decode cL_law 464 = .ok (.iload_n 3, 1) := db_L_law_458.2.2.2.2.2.2.1
theorem dL_law_465 : decode cL_law 465 = .ok (.iconst 3, 1) := db_L_law_458.2.2.2.2.2.2.2
set_option maxRecDepth 20000 in
theorem db_L_law_466 : (decode cL_law 466 = .ok (.iadd, 1)) ∧ (decode cL_law 467 = .ok (.iaload, 1)) ∧ (decode cL_law 468 = .ok (.invokevirtual 52, 3)) ∧ (decode cL_law 471 = .ok (.pop, 1)) ∧ (decode cL_law 472 = .ok (.goto 588, 3)) ∧ (decode cL_law 475 = .ok (.aload_n 1, 1)) ∧ (decode cL_law 476 = .ok (.aload_n 0, 1)) ∧ (decode cL_law 477 = .ok (.iload_n 3, 1)) := by decide +kernel
theorem dL_law_466 : decode cL_law 466 = .ok (.iadd, 1) := db_L_law_466.1
theorem dL_law_467 : decode cL_law 467 = .ok (.iaload, 1) := db_L_law_466.2.1
set_option maxRecDepth 20000 in
theorem ggL_law_X8_offer : GoodIn wsL_law wsX8_offer := goodIn_ch _ [(10, 22), (3, 13), (7, 19), (7, 20), (7, 21), (0, 5), (7, 22), (4, 12), (4, 13), (4, 14), (10, 23), (11, 0), (11, 1), (7, 3), (7, 4), (7, 5), (30, 0), (30, 1), (30, 2), (30, 3), (30, 4), (30, 5), (30, 6), (30, 7), (30, 8), (30, 9), (30, 10)] rfl (by decide +kernel)
set_option maxRecDepth 20000 in
theorem gL_law_X8_offer : GoodIn wsL_law (wsV RL 52 RX8 yX8_offer wsX8_offer) := goodIn_app (goodIn_ch _ [(10, 19), (10, 20), (10, 21), (0, 5)] rfl (by decide +kernel)) ggL_law_X8_offer
theorem dL_law_468 : decode cL_law 468 = .ok (.invokevirtual 52, 3) := db_L_law_466.2.2.1
theorem dL_law_471 : decode cL_law 471 = .ok (.pop, 1) := db_L_law_466.2.2.2.1
theorem dL_law_472 : decode cL_law 472 = .ok (.goto 588, 3) := db_L_law_466.2.2.2.2.1
theorem dL_law_475 : decode cL_law 475 = .ok (.aload_n 1, 1) := db_L_law_466.2.2.2.2.2.1
theorem dL_law_476 : decode cL_law 476 = .ok (.aload_n 0, 1) := db_L_law_466.2.2.2.2.2.2.1
theorem dL_law_477 : decode cL_law 477 = .ok (.iload_n 3, 1) := db_L_law_466.2.2.2.2.2.2.2
set_option maxRecDepth 20000 in
theorem db_L_law_478 : (decode cL_law 478 = .ok (.iconst 1, 1)) ∧ (decode cL_law 479 = .ok (.iadd, 1)) ∧ (decode cL_law 480 = .ok (.iaload, 1)) ∧ (decode cL_law 481 = .ok (.aload_n 0, 1)) ∧ (decode cL_law 482 = .ok (.iload_n 3, 1)) ∧ (decode cL_law 483 = .ok (.iconst 2, 1)) ∧ (decode cL_law 484 = .ok (.iadd, 1)) ∧ (decode cL_law 485 = .ok (.iaload, 1)) := by decide +kernel
theorem dL_law_478 : decode cL_law 478 = .ok (.iconst 1, 1) := db_L_law_478.1
theorem dL_law_479 : decode cL_law 479 = .ok (.iadd, 1) := db_L_law_478.2.1
theorem dL_law_480 : decode cL_law 480 = .ok (.iaload, 1) := db_L_law_478.2.2.1
theorem dL_law_481 : decode cL_law 481 = .ok (.aload_n 0, 1) := db_L_law_478.2.2.2.1
theorem dL_law_482 : decode cL_law 482 = .ok (.iload_n 3, 1) := db_L_law_478.2.2.2.2.1
theorem dL_law_483 : decode cL_law 483 = .ok (.iconst 2, 1) := db_L_law_478.2.2.2.2.2.1
theorem dL_law_484 : decode cL_law 484 = .ok (.iadd, 1) := db_L_law_478.2.2.2.2.2.2.1
theorem dL_law_485 : decode cL_law 485 = .ok (.iaload, 1) := db_L_law_478.2.2.2.2.2.2.2
set_option maxRecDepth 20000 in
theorem ggL_law_X7_put : GoodIn wsL_law wsX7_put := goodIn_ch _ [(11, 5), (0, 15), (6, 12), (10, 11), (7, 11), (7, 12), (7, 13), (0, 2), (7, 14), (6, 11), (4, 5), (4, 6), (4, 7), (10, 12), (10, 13), (10, 14), (29, 0), (29, 1), (29, 2), (29, 3), (29, 4), (31, 0), (31, 1), (31, 2), (31, 3), (31, 4), (31, 5), (31, 6), (36, 0), (36, 1), (36, 2), (36, 3), (36, 4), (36, 5), (36, 6), (36, 7), (36, 8), (36, 9), (36, 10)] rfl (by decide +kernel)
set_option maxRecDepth 20000 in
theorem gL_law_X7_put : GoodIn wsL_law (wsV RL 53 RX7 yX7_put wsX7_put) := goodIn_app (goodIn_ch _ [(11, 2), (11, 3), (11, 4), (0, 2)] rfl (by decide +kernel)) ggL_law_X7_put
set_option maxRecDepth 20000 in
theorem db_L_law_486 : (decode cL_law 486 = .ok (.invokevirtual 53, 3)) ∧ (decode cL_law 489 = .ok (.pop, 1)) ∧ (decode cL_law 490 = .ok (.aload_n 2, 1)) ∧ (decode cL_law 491 = .ok (.aload_n 0, 1)) ∧ (decode cL_law 492 = .ok (.iload_n 3, 1)) ∧ (decode cL_law 493 = .ok (.iconst 1, 1)) ∧ (decode cL_law 494 = .ok (.iadd, 1)) ∧ (decode cL_law 495 = .ok (.iaload, 1)) := by decide +kernel
theorem dL_law_486 : decode cL_law 486 = .ok (.invokevirtual 53, 3) := db_L_law_486.1
theorem dL_law_489 : decode cL_law 489 = .ok (.pop, 1) := db_L_law_486.2.1
theorem dL_law_490 : decode cL_law 490 = .ok (.aload_n 2, 1) := db_L_law_486.2.2.1
theorem dL_law_491 : decode cL_law 491 = .ok (.aload_n 0, 1) := db_L_law_486.2.2.2.1
theorem dL_law_492 : decode cL_law 492 = .ok (.iload_n 3, 1) := db_L_law_486.2.2.2.2.1
theorem dL_law_493 : decode cL_law 493 = .ok (.iconst 1, 1) := db_L_law_486.2.2.2.2.2.1
theorem dL_law_494 : decode cL_law 494 = .ok (.iadd, 1) := db_L_law_486.2.2.2.2.2.2.1
theorem dL_law_495 : decode cL_law 495 = .ok (.iaload, 1) := db_L_law_486.2.2.2.2.2.2.2
set_option maxRecDepth 20000 in
theorem db_L_law_496 : (decode cL_law 496 = .ok (.aload_n 0, 1)) ∧ (decode cL_law 497 = .ok (.iload_n 3, 1)) ∧ (decode cL_law 498 = .ok (.iconst 2, 1)) ∧ (decode cL_law 499 = .ok (.iadd, 1)) ∧ (decode cL_law 500 = .ok (.iaload, 1)) ∧ (decode cL_law 501 = .ok (.invokevirtual 56, 3)) ∧ (decode cL_law 504 = .ok (.pop, 1)) ∧ (decode cL_law 505 = .ok (.goto 555, 3)) := by decide +kernel
theorem dL_law_496 : decode cL_law 496 = .ok (.aload_n 0, 1) := db_L_law_496.1
theorem dL_law_497 : decode cL_law 497 = .ok (.iload_n 3, 1) := db_L_law_496.2.1
theorem dL_law_498 : decode cL_law 498 = .ok (.iconst 2, 1) := db_L_law_496.2.2.1
theorem dL_law_499 : decode cL_law 499 = .ok (.iadd, 1) := db_L_law_496.2.2.2.1
theorem dL_law_500 : decode cL_law 500 = .ok (.iaload, 1) := db_L_law_496.2.2.2.2.1
set_option maxRecDepth 20000 in
theorem ggL_law_X8_put : GoodIn wsL_law wsX8_put := goodIn_ch _ [(11, 9), (3, 13), (7, 19), (7, 20), (7, 21), (0, 5), (7, 22), (4, 12), (4, 13), (4, 14), (10, 23), (11, 0), (11, 1), (30, 0), (30, 1), (30, 2), (30, 3), (30, 4), (30, 5), (30, 6), (30, 7), (30, 8), (30, 9), (30, 10)] rfl (by decide +kernel)
set_option maxRecDepth 20000 in
theorem gL_law_X8_put : GoodIn wsL_law (wsV RL 56 RX8 yX8_put wsX8_put) := goodIn_app (goodIn_ch _ [(11, 6), (11, 7), (11, 8), (0, 5)] rfl (by decide +kernel)) ggL_law_X8_put
theorem dL_law_501 : decode cL_law 501 = .ok (.invokevirtual 56, 3) := db_L_law_496.2.2.2.2.2.1
theorem dL_law_504 : decode cL_law 504 = .ok (.pop, 1) := db_L_law_496.2.2.2.2.2.2.1
theorem dL_law_505 : decode cL_law 505 = .ok (.goto 555, 3) := db_L_law_496.2.2.2.2.2.2.2
set_option maxRecDepth 20000 in
theorem db_L_law_508 : (decode cL_law 508 = .ok (.aload_n 1, 1)) ∧ (decode cL_law 509 = .ok (.aload_n 0, 1)) ∧ (decode cL_law 510 = .ok (.iload_n 3, 1)) ∧ (decode cL_law 511 = .ok (.iconst 1, 1)) ∧ (decode cL_law 512 = .ok (.iadd, 1)) ∧ (decode cL_law 513 = .ok (.iaload, 1)) ∧ (decode cL_law 514 = .ok (.aload_n 0, 1)) ∧ (decode cL_law 515 = .ok (.iload_n 3, 1)) := by decide +kernel
theorem dL_law_508 : decode cL_law 508 = .ok (.aload_n 1, 1) := db_L_law_508.1
theorem dL_law_509 : decode cL_law 509 = .ok (.aload_n 0, 1) := db_L_law_508.2.1
theorem dL_law_510 : decode cL_law 510 = .ok (.iload_n 3, 1) := db_L_law_508.2.2.1
theorem dL_law_511 : decode cL_law 511 = .ok (.iconst 1, 1) := db_L_law_508.2.2.2.1
theorem dL_law_512 : decode cL_law 512 = .ok (.iadd, 1) := db_L_law_508.2.2.2.2.1
theorem dL_law_513 : decode cL_law 513 = .ok (.iaload, 1) := db_L_law_508.2.2.2.2.2.1
theorem dL_law_514 : decode cL_law 514 = .ok (.aload_n 0, 1) := db_L_law_508.2.2.2.2.2.2.1
theorem dL_law_515 : decode cL_law 515 = .ok (.iload_n 3, 1) := db_L_law_508.2.2.2.2.2.2.2
set_option maxRecDepth 20000 in
theorem db_L_law_516 : (decode cL_law 516 = .ok (.iconst 2, 1)) ∧ (decode cL_law 517 = .ok (.iadd, 1)) ∧ (decode cL_law 518 = .ok (.iaload, 1)) ∧ (decode cL_law 519 = .ok (.aload_n 0, 1)) ∧ (decode cL_law 520 = .ok (.iload_n 3, 1)) ∧ (decode cL_law 521 = .ok (.iconst 3, 1)) ∧ (decode cL_law 522 = .ok (.iadd, 1)) ∧ (decode cL_law 523 = .ok (.iaload, 1)) := by decide +kernel
theorem dL_law_516 : decode cL_law 516 = .ok (.iconst 2, 1) := db_L_law_516.1
theorem dL_law_517 : decode cL_law 517 = .ok (.iadd, 1) := db_L_law_516.2.1
theorem dL_law_518 : decode cL_law 518 = .ok (.iaload, 1) := db_L_law_516.2.2.1
theorem dL_law_519 : decode cL_law 519 = .ok (.aload_n 0, 1) := db_L_law_516.2.2.2.1
theorem dL_law_520 : decode cL_law 520 = .ok (.iload_n 3, 1) := db_L_law_516.2.2.2.2.1
theorem dL_law_521 : decode cL_law 521 = .ok (.iconst 3, 1) := db_L_law_516.2.2.2.2.2.1
theorem dL_law_522 : decode cL_law 522 = .ok (.iadd, 1) := db_L_law_516.2.2.2.2.2.2.1
theorem dL_law_523 : decode cL_law 523 = .ok (.iaload, 1) := db_L_law_516.2.2.2.2.2.2.2
set_option maxRecDepth 20000 in
theorem db_L_law_524 : (decode cL_law 524 = .ok (.aload_n 0, 1)) ∧ (decode cL_law 525 = .ok (.iload_n 3, 1)) ∧ (decode cL_law 526 = .ok (.iconst 4, 1)) ∧ (decode cL_law 527 = .ok (.iadd, 1)) ∧ (decode cL_law 528 = .ok (.iaload, 1)) ∧ (decode cL_law 529 = .ok (.ifCond .eq 7, 3)) ∧ (decode cL_law 536 = .ok (.iconst 0, 1)) ∧ (decode cL_law 537 = .ok (.invokevirtual 57, 3)) := by decide +kernel
theorem dL_law_524 : decode cL_law 524 = .ok (.aload_n 0, 1) := db_L_law_524.1
theorem dL_law_525 : decode cL_law 525 = .ok (.iload_n 3, 1) := db_L_law_524.2.1
theorem dL_law_526 : decode cL_law 526 = .ok (.iconst 4, 1) := db_L_law_524.2.2.1
theorem dL_law_527 : decode cL_law 527 = .ok (.iadd, 1) := db_L_law_524.2.2.2.1
theorem dL_law_528 : decode cL_law 528 = .ok (.iaload, 1) := db_L_law_524.2.2.2.2.1
theorem dL_law_529 : decode cL_law 529 = .ok (.ifCond .eq 7, 3) := db_L_law_524.2.2.2.2.2.1
theorem dL_law_536 : decode cL_law 536 = .ok (.iconst 0, 1) := db_L_law_524.2.2.2.2.2.2.1
set_option maxRecDepth 20000 in
theorem ggL_law_X7_learns : GoodIn wsL_law wsX7_learns := goodIn_ch _ [(11, 13), (0, 15), (6, 12), (9, 0), (7, 11), (7, 12), (7, 13), (0, 2), (7, 14), (6, 11), (4, 5), (4, 6), (4, 7), (10, 12), (10, 13), (10, 14), (11, 14), (11, 15), (11, 16), (1, 17), (11, 17), (2, 8), (6, 18), (11, 18), (11, 19), (11, 20), (11, 21), (11, 22), (11, 23), (12, 0), (12, 1), (6, 17), (6, 19), (12, 2), (12, 3), (12, 4), (12, 5), (12, 6), (12, 7), (12, 8), (29, 0), (29, 1), (29, 2), (29, 3), (29, 4), (31, 0), (31, 1), (31, 2), (31, 3), (31, 4), (31, 5), (31, 6), (36, 0), (36, 1), (36, 2), (36, 3), (36, 4), (36, 5), (36, 6), (36, 7), (36, 8), (36, 9), (36, 10)] rfl (by decide +kernel)
set_option maxRecDepth 20000 in
theorem gL_law_X7_learns : GoodIn wsL_law (wsV RL 57 RX7 yX7_learns wsX7_learns) := goodIn_app (goodIn_ch _ [(11, 10), (11, 11), (11, 12), (0, 2)] rfl (by decide +kernel)) ggL_law_X7_learns
theorem dL_law_537 : decode cL_law 537 = .ok (.invokevirtual 57, 3) := db_L_law_524.2.2.2.2.2.2.2
set_option maxRecDepth 20000 in
theorem db_L_law_540 : (decode cL_law 540 = .ok (.pop, 1)) ∧ (decode cL_law 541 = .ok (.aload_n 2, 1)) ∧ (decode cL_law 542 = .ok (.aload_n 0, 1)) ∧ (decode cL_law 543 = .ok (.iload_n 3, 1)) ∧ (decode cL_law 544 = .ok (.iconst 1, 1)) ∧ (decode cL_law 545 = .ok (.iadd, 1)) ∧ (decode cL_law 546 = .ok (.iaload, 1)) ∧ (decode cL_law 547 = .ok (.aload_n 0, 1)) := by decide +kernel
theorem dL_law_540 : decode cL_law 540 = .ok (.pop, 1) := db_L_law_540.1
theorem dL_law_541 : decode cL_law 541 = .ok (.aload_n 2, 1) := db_L_law_540.2.1
theorem dL_law_542 : decode cL_law 542 = .ok (.aload_n 0, 1) := db_L_law_540.2.2.1
theorem dL_law_543 : decode cL_law 543 = .ok (.iload_n 3, 1) := db_L_law_540.2.2.2.1
theorem dL_law_544 : decode cL_law 544 = .ok (.iconst 1, 1) := db_L_law_540.2.2.2.2.1
theorem dL_law_545 : decode cL_law 545 = .ok (.iadd, 1) := db_L_law_540.2.2.2.2.2.1
theorem dL_law_546 : decode cL_law 546 = .ok (.iaload, 1) := db_L_law_540.2.2.2.2.2.2.1
theorem dL_law_547 : decode cL_law 547 = .ok (.aload_n 0, 1) := db_L_law_540.2.2.2.2.2.2.2
set_option maxRecDepth 20000 in
theorem db_L_law_548 : (decode cL_law 548 = .ok (.iload_n 3, 1)) ∧ (decode cL_law 549 = .ok (.iconst 2, 1)) ∧ (decode cL_law 550 = .ok (.iadd, 1)) ∧ (decode cL_law 551 = .ok (.iaload, 1)) ∧ (decode cL_law 552 = .ok (.aload_n 0, 1)) ∧ (decode cL_law 553 = .ok (.iload_n 3, 1)) ∧ (decode cL_law 554 = .ok (.iconst 3, 1)) ∧ (decode cL_law 555 = .ok (.iadd, 1)) := by decide +kernel
theorem dL_law_548 : decode cL_law 548 = .ok (.iload_n 3, 1) := db_L_law_548.1
theorem dL_law_549 : decode cL_law 549 = .ok (.iconst 2, 1) := db_L_law_548.2.1
theorem dL_law_550 : decode cL_law 550 = .ok (.iadd, 1) := db_L_law_548.2.2.1
theorem dL_law_551 : decode cL_law 551 = .ok (.iaload, 1) := db_L_law_548.2.2.2.1
theorem dL_law_552 : decode cL_law 552 = .ok (.aload_n 0, 1) := db_L_law_548.2.2.2.2.1
theorem dL_law_553 : decode cL_law 553 = .ok (.iload_n 3, 1) := db_L_law_548.2.2.2.2.2.1
theorem dL_law_554 : decode cL_law 554 = .ok (.iconst 3, 1) := db_L_law_548.2.2.2.2.2.2.1
theorem dL_law_555 : decode cL_law 555 = .ok (.iadd, 1) := db_L_law_548.2.2.2.2.2.2.2
set_option maxRecDepth 20000 in
theorem db_L_law_556 : (decode cL_law 556 = .ok (.iaload, 1)) ∧ (decode cL_law 557 = .ok (.aload_n 0, 1)) ∧ (decode cL_law 558 = .ok (.iload_n 3, 1)) ∧ (decode cL_law 559 = .ok (.iconst 4, 1)) ∧ (decode cL_law 560 = .ok (.iadd, 1)) ∧ (decode cL_law 561 = .ok (.iaload, 1)) ∧ (decode cL_law 562 = .ok (.ifCond .eq 7, 3)) ∧ (decode cL_law 569 = .ok (.iconst 0, 1)) := by decide +kernel
theorem dL_law_556 : decode cL_law 556 = .ok (.iaload, 1) := db_L_law_556.1
theorem dL_law_557 : decode cL_law 557 = .ok (.aload_n 0, 1) := db_L_law_556.2.1
theorem dL_law_558 : decode cL_law 558 = .ok (.iload_n 3, 1) := db_L_law_556.2.2.1
theorem dL_law_559 : decode cL_law 559 = .ok (.iconst 4, 1) := db_L_law_556.2.2.2.1
theorem dL_law_560 : decode cL_law 560 = .ok (.iadd, 1) := db_L_law_556.2.2.2.2.1
theorem dL_law_561 : decode cL_law 561 = .ok (.iaload, 1) := db_L_law_556.2.2.2.2.2.1
theorem dL_law_562 : decode cL_law 562 = .ok (.ifCond .eq 7, 3) := db_L_law_556.2.2.2.2.2.2.1
theorem dL_law_569 : decode cL_law 569 = .ok (.iconst 0, 1) := db_L_law_556.2.2.2.2.2.2.2
set_option maxRecDepth 20000 in
theorem ggL_law_X8_learns : GoodIn wsL_law wsX8_learns := goodIn_ch _ [(12, 12), (3, 13), (7, 19), (7, 20), (7, 21), (0, 5), (7, 22), (4, 12), (4, 13), (4, 14), (10, 23), (11, 0), (11, 1), (7, 3), (7, 4), (7, 5), (30, 0), (30, 1), (30, 2), (30, 3), (30, 4), (30, 5), (30, 6), (30, 7), (30, 8), (30, 9), (30, 10)] rfl (by decide +kernel)
set_option maxRecDepth 20000 in
theorem gL_law_X8_learns : GoodIn wsL_law (wsV RL 61 RX8 yX8_learns wsX8_learns) := goodIn_app (goodIn_ch _ [(12, 9), (12, 10), (12, 11), (0, 5)] rfl (by decide +kernel)) ggL_law_X8_learns
set_option maxRecDepth 20000 in
theorem db_L_law_570 : (decode cL_law 570 = .ok (.invokevirtual 61, 3)) ∧ (decode cL_law 573 = .ok (.pop, 1)) ∧ (decode cL_law 574 = .ok (.goto 486, 3)) ∧ (decode cL_law 532 = .ok (.iconst 1, 1)) ∧ (decode cL_law 533 = .ok (.goto 4, 3)) ∧ (decode cL_law 565 = .ok (.iconst 1, 1)) ∧ (decode cL_law 566 = .ok (.goto 4, 3)) ∧ (decode cL_law 577 = .ok (.aload_n 1, 1)) := by decide +kernel
theorem dL_law_570 : decode cL_law 570 = .ok (.invokevirtual 61, 3) := db_L_law_570.1
theorem dL_law_573 : decode cL_law 573 = .ok (.pop, 1) := db_L_law_570.2.1
theorem dL_law_574 : decode cL_law 574 = .ok (.goto 486, 3) := db_L_law_570.2.2.1
theorem dL_law_532 : decode cL_law 532 = .ok (.iconst 1, 1) := db_L_law_570.2.2.2.1
theorem dL_law_533 : decode cL_law 533 = .ok (.goto 4, 3) := db_L_law_570.2.2.2.2.1
theorem dL_law_565 : decode cL_law 565 = .ok (.iconst 1, 1) := db_L_law_570.2.2.2.2.2.1
theorem dL_law_566 : decode cL_law 566 = .ok (.goto 4, 3) := db_L_law_570.2.2.2.2.2.2.1
theorem dL_law_577 : decode cL_law 577 = .ok (.aload_n 1, 1) := db_L_law_570.2.2.2.2.2.2.2
set_option maxRecDepth 20000 in
theorem db_L_law_578 : (decode cL_law 578 = .ok (.aload_n 0, 1)) ∧ (decode cL_law 579 = .ok (.iload_n 3, 1)) ∧ (decode cL_law 580 = .ok (.iconst 1, 1)) ∧ (decode cL_law 581 = .ok (.iadd, 1)) ∧ (decode cL_law 582 = .ok (.iaload, 1)) ∧ (decode cL_law 583 = .ok (.aload_n 0, 1)) ∧ (decode cL_law 584 = .ok (.iload_n 3, 1)) ∧ (decode cL_law 585 = .ok (.iconst 2, 1)) := by decide +kernel
theorem dL_law_578 : decode cL_law 578 = .ok (.aload_n 0, 1) := db_L_law_578.1
theorem dL_law_579 : decode cL_law 579 = .ok (.iload_n 3, 1) := db_L_law_578.2.1
theorem dL_law_580 : decode cL_law 580 = .ok (.iconst 1, 1) := db_L_law_578.2.2.1
theorem dL_law_581 : decode cL_law 581 = .ok (.iadd, 1) := db_L_law_578.2.2.2.1
theorem dL_law_582 : decode cL_law 582 = .ok (.iaload, 1) := db_L_law_578.2.2.2.2.1
theorem dL_law_583 : decode cL_law 583 = .ok (.aload_n 0, 1) := db_L_law_578.2.2.2.2.2.1
theorem dL_law_584 : decode cL_law 584 = .ok (.iload_n 3, 1) := db_L_law_578.2.2.2.2.2.2.1
theorem dL_law_585 : decode cL_law 585 = .ok (.iconst 2, 1) := db_L_law_578.2.2.2.2.2.2.2
set_option maxRecDepth 20000 in
theorem db_L_law_586 : (decode cL_law 586 = .ok (.iadd, 1)) ∧ (decode cL_law 587 = .ok (.iaload, 1)) ∧ (decode cL_law 588 = .ok (.invokevirtual 62, 3)) ∧ (decode cL_law 591 = .ok (.pop, 1)) ∧ (decode cL_law 592 = .ok (.aload_n 2, 1)) ∧ (decode cL_law 593 = .ok (.aload_n 0, 1)) ∧ (decode cL_law 594 = .ok (.iload_n 3, 1)) ∧ (decode cL_law 595 = .ok (.iconst 1, 1)) := by decide +kernel
theorem dL_law_586 : decode cL_law 586 = .ok (.iadd, 1) := db_L_law_586.1
theorem dL_law_587 : decode cL_law 587 = .ok (.iaload, 1) := db_L_law_586.2.1
set_option maxRecDepth 20000 in
theorem ggL_law_X7_maySit : GoodIn wsL_law wsX7_maySit := goodIn_ch _ [(12, 16), (0, 15), (6, 12), (4, 5), (4, 6), (0, 2), (4, 7), (12, 17), (12, 18), (12, 19), (0, 14), (12, 20), (12, 21), (7, 11), (7, 12), (7, 13), (7, 14), (6, 11), (12, 22), (12, 23), (13, 0), (13, 1), (1, 9), (13, 2), (13, 3), (1, 7), (13, 4), (5, 17), (5, 18), (13, 5), (13, 6), (13, 7), (13, 8), (13, 9), (13, 10), (13, 11), (29, 0), (29, 1), (29, 2), (29, 3), (29, 4), (31, 0), (31, 1), (31, 2), (31, 3), (31, 4), (31, 5), (31, 6), (35, 0), (35, 1), (35, 2), (36, 0), (36, 1), (36, 2), (36, 3), (36, 4), (36, 5), (36, 6), (36, 7), (36, 8), (36, 9), (36, 10), (34, 0), (34, 1)] rfl (by decide +kernel)
set_option maxRecDepth 20000 in
theorem gL_law_X7_maySit : GoodIn wsL_law (wsV RL 62 RX7 yX7_maySit wsX7_maySit) := goodIn_app (goodIn_ch _ [(12, 13), (12, 14), (12, 15), (0, 2)] rfl (by decide +kernel)) ggL_law_X7_maySit
theorem dL_law_588 : decode cL_law 588 = .ok (.invokevirtual 62, 3) := db_L_law_586.2.2.1
theorem dL_law_591 : decode cL_law 591 = .ok (.pop, 1) := db_L_law_586.2.2.2.1
theorem dL_law_592 : decode cL_law 592 = .ok (.aload_n 2, 1) := db_L_law_586.2.2.2.2.1
theorem dL_law_593 : decode cL_law 593 = .ok (.aload_n 0, 1) := db_L_law_586.2.2.2.2.2.1
theorem dL_law_594 : decode cL_law 594 = .ok (.iload_n 3, 1) := db_L_law_586.2.2.2.2.2.2.1
theorem dL_law_595 : decode cL_law 595 = .ok (.iconst 1, 1) := db_L_law_586.2.2.2.2.2.2.2
set_option maxRecDepth 20000 in
theorem db_L_law_596 : (decode cL_law 596 = .ok (.iadd, 1)) ∧ (decode cL_law 597 = .ok (.iaload, 1)) ∧ (decode cL_law 598 = .ok (.aload_n 0, 1)) ∧ (decode cL_law 599 = .ok (.iload_n 3, 1)) ∧ (decode cL_law 600 = .ok (.iconst 2, 1)) ∧ (decode cL_law 601 = .ok (.iadd, 1)) ∧ (decode cL_law 602 = .ok (.iaload, 1)) ∧ (decode cL_law 603 = .ok (.invokevirtual 65, 3)) := by decide +kernel
theorem dL_law_596 : decode cL_law 596 = .ok (.iadd, 1) := db_L_law_596.1
theorem dL_law_597 : decode cL_law 597 = .ok (.iaload, 1) := db_L_law_596.2.1
theorem dL_law_598 : decode cL_law 598 = .ok (.aload_n 0, 1) := db_L_law_596.2.2.1
theorem dL_law_599 : decode cL_law 599 = .ok (.iload_n 3, 1) := db_L_law_596.2.2.2.1
theorem dL_law_600 : decode cL_law 600 = .ok (.iconst 2, 1) := db_L_law_596.2.2.2.2.1
theorem dL_law_601 : decode cL_law 601 = .ok (.iadd, 1) := db_L_law_596.2.2.2.2.2.1
theorem dL_law_602 : decode cL_law 602 = .ok (.iaload, 1) := db_L_law_596.2.2.2.2.2.2.1
set_option maxRecDepth 20000 in
theorem ggL_law_X8_maySit : GoodIn wsL_law wsX8_maySit := goodIn_ch _ [(13, 15), (13, 16), (13, 17), (13, 18), (0, 5), (13, 19), (4, 12), (4, 13), (4, 14), (13, 20), (13, 21), (13, 22), (5, 23), (6, 0), (6, 1), (6, 2), (3, 13), (7, 19), (7, 20), (7, 21), (7, 22), (13, 23), (14, 0), (14, 1), (14, 2), (14, 3), (14, 4), (14, 5), (7, 3), (7, 4), (7, 5), (14, 6), (14, 7), (14, 8), (14, 9), (30, 0), (30, 1), (30, 2), (30, 3), (30, 4), (30, 5), (30, 6), (30, 7), (30, 8), (30, 9), (30, 10)] rfl (by decide +kernel)
set_option maxRecDepth 20000 in
theorem gL_law_X8_maySit : GoodIn wsL_law (wsV RL 65 RX8 yX8_maySit wsX8_maySit) := goodIn_app (goodIn_ch _ [(13, 12), (13, 13), (13, 14), (0, 5)] rfl (by decide +kernel)) ggL_law_X8_maySit
theorem dL_law_603 : decode cL_law 603 = .ok (.invokevirtual 65, 3) := db_L_law_596.2.2.2.2.2.2.2
set_option maxRecDepth 20000 in
theorem db_L_law_606 : (decode cL_law 606 = .ok (.pop, 1)) ∧ (decode cL_law 607 = .ok (.goto 453, 3)) ∧ (decode cL_law 610 = .ok (.aload_n 1, 1)) ∧ (decode cL_law 611 = .ok (.aload_n 0, 1)) ∧ (decode cL_law 612 = .ok (.iload_n 3, 1)) ∧ (decode cL_law 613 = .ok (.iconst 1, 1)) ∧ (decode cL_law 614 = .ok (.iadd, 1)) ∧ (decode cL_law 615 = .ok (.iaload, 1)) := by decide +kernel
theorem dL_law_606 : decode cL_law 606 = .ok (.pop, 1) := db_L_law_606.1
theorem dL_law_607 : decode cL_law 607 = .ok (.goto 453, 3) := db_L_law_606.2.1
theorem dL_law_610 : decode cL_law 610 = .ok (.aload_n 1, 1) := db_L_law_606.2.2.1
theorem dL_law_611 : decode cL_law 611 = .ok (.aload_n 0, 1) := db_L_law_606.2.2.2.1
theorem dL_law_612 : decode cL_law 612 = .ok (.iload_n 3, 1) := db_L_law_606.2.2.2.2.1
theorem dL_law_613 : decode cL_law 613 = .ok (.iconst 1, 1) := db_L_law_606.2.2.2.2.2.1
theorem dL_law_614 : decode cL_law 614 = .ok (.iadd, 1) := db_L_law_606.2.2.2.2.2.2.1
theorem dL_law_615 : decode cL_law 615 = .ok (.iaload, 1) := db_L_law_606.2.2.2.2.2.2.2
set_option maxRecDepth 20000 in
theorem ggL_law_X7_rooms : GoodIn wsL_law wsX7_rooms := goodIn_ch _ [(14, 13), (1, 1), (4, 5), (4, 6), (0, 2), (4, 7), (29, 0), (29, 1), (29, 2), (29, 3), (29, 4)] rfl (by decide +kernel)
set_option maxRecDepth 20000 in
theorem gL_law_X7_rooms : GoodIn wsL_law (wsV RL 66 RX7 yX7_rooms wsX7_rooms) := goodIn_app (goodIn_ch _ [(14, 10), (14, 11), (14, 12), (0, 2)] rfl (by decide +kernel)) ggL_law_X7_rooms
set_option maxRecDepth 20000 in
theorem db_L_law_616 : (decode cL_law 616 = .ok (.invokevirtual 66, 3)) ∧ (decode cL_law 619 = .ok (.pop, 1)) ∧ (decode cL_law 620 = .ok (.aload_n 2, 1)) ∧ (decode cL_law 621 = .ok (.aload_n 0, 1)) ∧ (decode cL_law 622 = .ok (.iload_n 3, 1)) ∧ (decode cL_law 623 = .ok (.iconst 1, 1)) ∧ (decode cL_law 624 = .ok (.iadd, 1)) ∧ (decode cL_law 625 = .ok (.iaload, 1)) := by decide +kernel
theorem dL_law_616 : decode cL_law 616 = .ok (.invokevirtual 66, 3) := db_L_law_616.1
theorem dL_law_619 : decode cL_law 619 = .ok (.pop, 1) := db_L_law_616.2.1
theorem dL_law_620 : decode cL_law 620 = .ok (.aload_n 2, 1) := db_L_law_616.2.2.1
theorem dL_law_621 : decode cL_law 621 = .ok (.aload_n 0, 1) := db_L_law_616.2.2.2.1
theorem dL_law_622 : decode cL_law 622 = .ok (.iload_n 3, 1) := db_L_law_616.2.2.2.2.1
theorem dL_law_623 : decode cL_law 623 = .ok (.iconst 1, 1) := db_L_law_616.2.2.2.2.2.1
theorem dL_law_624 : decode cL_law 624 = .ok (.iadd, 1) := db_L_law_616.2.2.2.2.2.2.1
theorem dL_law_625 : decode cL_law 625 = .ok (.iaload, 1) := db_L_law_616.2.2.2.2.2.2.2
set_option maxRecDepth 20000 in
theorem ggL_law_X8_rooms : GoodIn wsL_law wsX8_rooms := goodIn_ch _ [(14, 17), (3, 15), (4, 12), (4, 13), (0, 5), (4, 14), (30, 0), (30, 1), (30, 2), (30, 3), (30, 4), (30, 5), (30, 6), (30, 7), (30, 8), (30, 9), (30, 10)] rfl (by decide +kernel)
set_option maxRecDepth 20000 in
theorem gL_law_X8_rooms : GoodIn wsL_law (wsV RL 69 RX8 yX8_rooms wsX8_rooms) := goodIn_app (goodIn_ch _ [(14, 14), (14, 15), (14, 16), (0, 5)] rfl (by decide +kernel)) ggL_law_X8_rooms
set_option maxRecDepth 20000 in
theorem db_L_law_626 : (decode cL_law 626 = .ok (.invokevirtual 69, 3)) ∧ (decode cL_law 629 = .ok (.pop, 1)) ∧ (decode cL_law 630 = .ok (.goto 430, 3)) := by decide +kernel
theorem dL_law_626 : decode cL_law 626 = .ok (.invokevirtual 69, 3) := db_L_law_626.1
theorem dL_law_629 : decode cL_law 629 = .ok (.pop, 1) := db_L_law_626.2.1
theorem dL_law_630 : decode cL_law 630 = .ok (.goto 430, 3) := db_L_law_626.2.2
set_option maxHeartbeats 4000000 in
set_option maxRecDepth 100000 in
/-- the case of party -/
theorem lc_0 {p : Program} {l : Launch} {e : Env} {s : State} {m : MethodId} {below : List Frame} {meth : Method} {c : Code} {dC : Nat → ClassId} {dI : Nat → Nat → Nat} {cy : Nat → ClassId} {b L : Nat} {xs : Nat → Int32} (C0 : lw_At p s m meth c b L xs) {t1 t2 : Nat} (hSt : ex_St t1 t2 (fun q : Nat => s.heap.size ≤ q) s) (hE : ex_K s) (hK : va_K (dC, dI) vwCl (ty_L cy) s) (hL : L ≤ 3584) {ad ad2 : Nat → Nat} {kv : Value} {N : Nat} (hN : 119 ≤ N) {v v2 : Nat → Nat → Int32} (hv : Iv v) (hq : Ir v2) {n : Int32} (hJ : RR3 n v v2) {i : Int32} (hi : 0 ≤ i.toInt ∧ i.toInt + 7 ≤ (L : Int)) {cells slots : Nat} (hcs : cells ≤ room_1.cells ∧ slots ≤ room_1.slots) {H : Heap} {locs : List Loc} (hP : va_P (dC, dI) vwCl (wl ad kv cy N v ++ wm ad2 cy v2) H) (hD : va_D (fun q : Nat => s.heap.size ≤ q) (wl ad kv cy N v ++ wm ad2 cy v2)) (hS : va_S (fun q : Nat => s.heap.size ≤ q) s.heap H locs) (ls : Array Slot) (hl : lv_has ls 4 [(3, .int i), (2, .ref (ad2 0)), (1, .ref (ad 0)), (0, .ref b)]) (kk : ∀ (v1 v3 : Nat → Nat → Int32) (H1 : Heap) (locs1 : List Loc) (ls1 : Array Slot), Iv v1 → Ir v3 → RR3 n v1 v3 → va_P (dC, dI) vwCl (wl ad kv cy N v1 ++ wm ad2 cy v3) H1 → va_D (fun q : Nat => s.heap.size ≤ q) (wl ad kv cy N v1 ++ wm ad2 cy v3) → va_S (fun q : Nat => s.heap.size ≤ q) s.heap H1 locs1 → lv_has ls1 4 [(3, .int i), (2, .ref (ad2 0)), (1, .ref (ad 0)), (0, .ref b)] → W p l e room_1 s m #[Value.ref b] below meth c H1 locs1 cells slots (lw_Z below #[Value.ref b] s) (F0 m 1060 ls1 [])) : W p l e room_1 s m #[Value.ref b] below meth c H locs cells slots (lw_Z below #[Value.ref b] s) (F0 m 152 ls []) := by
  obtain ⟨hx, hb, hr, hml, hown, hts0, hX, hbl, hlocks, hgv⟩ := id C0
  have hts : ∀ w ∈ wsL_law, w.before #[Value.ref b] s = true := fun w h => hts0 w (wsL_law_in w h)
  have hown : s.vm.findClass RL = some m.cls := hown
  have hA : ∀ q : Nat, s.heap.size ≤ q → (fun q : Nat => s.heap.size ≤ q) q := fun _ h => h
  have hbA : ¬ (fun q : Nat => s.heap.size ≤ q) b := Nat.not_le.mpr hbl
  refine lv_aload_n hx hb dL_law_152 rfl (lv_at hl 2 rfl) ?_
  refine lv_aload_n hx hb dL_law_153 rfl (lv_at hl 3 rfl) ?_
  refine lv_iload_n hx hb dL_law_154 rfl (lv_at hl 0 rfl) ?_
  refine lv_iconst (v := 1) hx hb dL_law_155 (by decide) ?_
  refine lv_iadd hx hb dL_law_156 ?_
  refine lv_topi (fun x_1 ex_1 => ?_)
  have k_1 : (1 : Int32).toInt = 1 := by decide
  have tx_1 : x_1.toInt = i.toInt + (1 : Int32).toInt := by rw [ex_1]; exact t_add ⟨by omega, by omega⟩
  refine va_sld hx hb hX hbl hbA hS (vp_in_iff.mpr ⟨by omega, by omega⟩) dL_law_157 ?_
  refine lv_topi (fun x_2 ex_2 => ?_)
  refine lv_aload_n hx hb dL_law_158 rfl (lv_at hl 3 rfl) ?_
  refine lv_iload_n hx hb dL_law_159 rfl (lv_at hl 0 rfl) ?_
  refine lv_iconst (v := 2) hx hb dL_law_160 (by decide) ?_
  refine lv_iadd hx hb dL_law_161 ?_
  refine lv_topi (fun x_3 ex_3 => ?_)
  have k_2 : (2 : Int32).toInt = 2 := by decide
  have tx_3 : x_3.toInt = i.toInt + (2 : Int32).toInt := by rw [ex_3]; exact t_add ⟨by omega, by omega⟩
  refine va_sld hx hb hX hbl hbA hS (vp_in_iff.mpr ⟨by omega, by omega⟩) dL_law_162 ?_
  refine lv_topi (fun x_4 ex_4 => ?_)
  have hv0 := hv
  refine yl_i (X := wl ad kv cy N v) (Y := wm ad2 cy v2) (w1 := fun (u : Nat → Nat → Int32) => wl ad kv cy N u) hP hD hS hA (va_runV (As := [.int x_2, .int x_4]) (rest := []) ⟨hx, hb, hml, hown, hts⟩ (e_X7_party l dC dI cy _ ad kv N hN v hv x_2 x_4) (cwV 2 hts gL_law_X7_party rfl rfl rfl hd_V_X7_party_2 ⟨Nat.le_of_ble_eq_true rfl, Nat.le_of_ble_eq_true rfl⟩) (yl_preV hE hK hP hD (ci := 7) (q := (RX7, TX7, 5)) (q0 := 0) rfl (wl_at (by omega) (ce_0 (by decide)))) rfl rfl hl.1 rfl (lv_room (Nat.le_of_ble_eq_true rfl)) dL_law_163 hcs) (fun r_5 c_5 H locs hw_5 hP hD hS => ?_)
  have hP : va_P (dC, dI) vwCl (wm ad2 cy v2 ++ wl ad kv cy N c_5) H := hP
  have hD : va_D (fun q : Nat => s.heap.size ≤ q) (wm ad2 cy v2 ++ wl ad kv cy N c_5) := hD
  obtain ⟨hv, hpc⟩ := hw_5
  refine lv_pop hx hb dL_law_166 rfl ?_
  refine lv_aload_n hx hb dL_law_167 rfl (lv_at hl 1 rfl) ?_
  refine lv_aload_n hx hb dL_law_168 rfl (lv_at hl 3 rfl) ?_
  refine lv_iload_n hx hb dL_law_169 rfl (lv_at hl 0 rfl) ?_
  refine lv_iconst (v := 1) hx hb dL_law_170 (by decide) ?_
  refine lv_iadd hx hb dL_law_171 ?_
  refine lv_topi (fun x_6 ex_6 => ?_)
  obtain rfl : x_1 = x_6 := ex_1.trans ex_6.symm
  refine va_sld hx hb hX hbl hbA hS (vp_in_iff.mpr ⟨by omega, by omega⟩) dL_law_172 ?_
  refine lv_topi (fun x_7 ex_7 => ?_)
  obtain rfl : x_2 = x_7 := ex_2.trans ex_7.symm
  refine lv_aload_n hx hb dL_law_173 rfl (lv_at hl 3 rfl) ?_
  refine lv_iload_n hx hb dL_law_174 rfl (lv_at hl 0 rfl) ?_
  refine lv_iconst (v := 2) hx hb dL_law_175 (by decide) ?_
  refine lv_iadd hx hb dL_law_176 ?_
  refine lv_topi (fun x_8 ex_8 => ?_)
  obtain rfl : x_3 = x_8 := ex_3.trans ex_8.symm
  refine va_sld hx hb hX hbl hbA hS (vp_in_iff.mpr ⟨by omega, by omega⟩) dL_law_177 ?_
  refine lv_topi (fun x_9 ex_9 => ?_)
  obtain rfl : x_4 = x_9 := ex_4.trans ex_9.symm
  have hq0 := hq
  refine yl_i (X := wm ad2 cy v2) (Y := wl ad kv cy N c_5) (w1 := fun (u : Nat → Nat → Int32) => wm ad2 cy u) hP hD hS hA (va_runV (As := [.int x_2, .int x_4]) (rest := []) ⟨hx, hb, hml, hown, hts⟩ (e_X8_party l dC dI cy _ ad2 v2 hq x_2 x_4) (cwV 2 hts gL_law_X8_party rfl rfl rfl hd_V_X8_party_2 ⟨Nat.le_of_ble_eq_true rfl, Nat.le_of_ble_eq_true rfl⟩) (yl_preV hE hK hP hD (ci := 8) (q := (RX8, TX8, 11)) (q0 := 0) rfl (wm_at (by decide) rc_0)) rfl rfl hl.1 rfl (lv_room (Nat.le_of_ble_eq_true rfl)) dL_law_178 hcs) (fun r_10 m_10 H locs hw_10 hP hD hS => ?_)
  have hP : va_P (dC, dI) vwCl (wl ad kv cy N c_5 ++ wm ad2 cy m_10) H := hP
  have hD : va_D (fun q : Nat => s.heap.size ≤ q) (wl ad kv cy N c_5 ++ wm ad2 cy m_10) := hD
  obtain ⟨hq, hpm⟩ := hw_10
  obtain ⟨hrr, hJ⟩ := S_party hv0 hq0 hJ hpc hpm
  subst hrr
  refine lv_pop hx hb dL_law_181 rfl ?_
  refine lv_goto (tgt := 1060) hx hb dL_law_182 (by decide) ?_
  exact kk c_5 m_10 _ _ ls hv hq hJ hP hD hS hl

set_option maxHeartbeats 4000000 in
set_option maxRecDepth 100000 in
/-- the case of mediator -/
theorem lc_1 {p : Program} {l : Launch} {e : Env} {s : State} {m : MethodId} {below : List Frame} {meth : Method} {c : Code} {dC : Nat → ClassId} {dI : Nat → Nat → Nat} {cy : Nat → ClassId} {b L : Nat} {xs : Nat → Int32} (C0 : lw_At p s m meth c b L xs) {t1 t2 : Nat} (hSt : ex_St t1 t2 (fun q : Nat => s.heap.size ≤ q) s) (hE : ex_K s) (hK : va_K (dC, dI) vwCl (ty_L cy) s) (hL : L ≤ 3584) {ad ad2 : Nat → Nat} {kv : Value} {N : Nat} (hN : 119 ≤ N) {v v2 : Nat → Nat → Int32} (hv : Iv v) (hq : Ir v2) {n : Int32} (hJ : RR3 n v v2) {i : Int32} (hi : 0 ≤ i.toInt ∧ i.toInt + 7 ≤ (L : Int)) {cells slots : Nat} (hcs : cells ≤ room_1.cells ∧ slots ≤ room_1.slots) {H : Heap} {locs : List Loc} (hP : va_P (dC, dI) vwCl (wl ad kv cy N v ++ wm ad2 cy v2) H) (hD : va_D (fun q : Nat => s.heap.size ≤ q) (wl ad kv cy N v ++ wm ad2 cy v2)) (hS : va_S (fun q : Nat => s.heap.size ≤ q) s.heap H locs) (ls : Array Slot) (hl : lv_has ls 4 [(3, .int i), (2, .ref (ad2 0)), (1, .ref (ad 0)), (0, .ref b)]) (kk : ∀ (v1 v3 : Nat → Nat → Int32) (H1 : Heap) (locs1 : List Loc) (ls1 : Array Slot), Iv v1 → Ir v3 → RR3 n v1 v3 → va_P (dC, dI) vwCl (wl ad kv cy N v1 ++ wm ad2 cy v3) H1 → va_D (fun q : Nat => s.heap.size ≤ q) (wl ad kv cy N v1 ++ wm ad2 cy v3) → va_S (fun q : Nat => s.heap.size ≤ q) s.heap H1 locs1 → lv_has ls1 4 [(3, .int i), (2, .ref (ad2 0)), (1, .ref (ad 0)), (0, .ref b)] → W p l e room_1 s m #[Value.ref b] below meth c H1 locs1 cells slots (lw_Z below #[Value.ref b] s) (F0 m 1060 ls1 [])) : W p l e room_1 s m #[Value.ref b] below meth c H locs cells slots (lw_Z below #[Value.ref b] s) (F0 m 185 ls []) := by
  obtain ⟨hx, hb, hr, hml, hown, hts0, hX, hbl, hlocks, hgv⟩ := id C0
  have hts : ∀ w ∈ wsL_law, w.before #[Value.ref b] s = true := fun w h => hts0 w (wsL_law_in w h)
  have hown : s.vm.findClass RL = some m.cls := hown
  have hA : ∀ q : Nat, s.heap.size ≤ q → (fun q : Nat => s.heap.size ≤ q) q := fun _ h => h
  have hbA : ¬ (fun q : Nat => s.heap.size ≤ q) b := Nat.not_le.mpr hbl
  refine lv_aload_n hx hb dL_law_185 rfl (lv_at hl 2 rfl) ?_
  refine lv_aload_n hx hb dL_law_186 rfl (lv_at hl 3 rfl) ?_
  refine lv_iload_n hx hb dL_law_187 rfl (lv_at hl 0 rfl) ?_
  refine lv_iconst (v := 1) hx hb dL_law_188 (by decide) ?_
  refine lv_iadd hx hb dL_law_189 ?_
  refine lv_topi (fun x_1 ex_1 => ?_)
  have k_1 : (1 : Int32).toInt = 1 := by decide
  have tx_1 : x_1.toInt = i.toInt + (1 : Int32).toInt := by rw [ex_1]; exact t_add ⟨by omega, by omega⟩
  refine va_sld hx hb hX hbl hbA hS (vp_in_iff.mpr ⟨by omega, by omega⟩) dL_law_190 ?_
  refine lv_topi (fun x_2 ex_2 => ?_)
  refine lv_aload_n hx hb dL_law_191 rfl (lv_at hl 3 rfl) ?_
  refine lv_iload_n hx hb dL_law_192 rfl (lv_at hl 0 rfl) ?_
  refine lv_iconst (v := 2) hx hb dL_law_193 (by decide) ?_
  refine lv_iadd hx hb dL_law_194 ?_
  refine lv_topi (fun x_3 ex_3 => ?_)
  have k_2 : (2 : Int32).toInt = 2 := by decide
  have tx_3 : x_3.toInt = i.toInt + (2 : Int32).toInt := by rw [ex_3]; exact t_add ⟨by omega, by omega⟩
  refine va_sld hx hb hX hbl hbA hS (vp_in_iff.mpr ⟨by omega, by omega⟩) dL_law_195 ?_
  refine lv_topi (fun x_4 ex_4 => ?_)
  have hv0 := hv
  refine yl_i (X := wl ad kv cy N v) (Y := wm ad2 cy v2) (w1 := fun (u : Nat → Nat → Int32) => wl ad kv cy N u) hP hD hS hA (va_runV (As := [.int x_2, .int x_4]) (rest := []) ⟨hx, hb, hml, hown, hts⟩ (e_X7_mediator l dC dI cy _ ad kv N hN v hv x_2 x_4) (cwV 2 hts gL_law_X7_mediator rfl rfl rfl hd_V_X7_mediator_2 ⟨Nat.le_of_ble_eq_true rfl, Nat.le_of_ble_eq_true rfl⟩) (yl_preV hE hK hP hD (ci := 7) (q := (RX7, TX7, 5)) (q0 := 0) rfl (wl_at (by omega) (ce_0 (by decide)))) rfl rfl hl.1 rfl (lv_room (Nat.le_of_ble_eq_true rfl)) dL_law_196 hcs) (fun r_5 c_5 H locs hw_5 hP hD hS => ?_)
  have hP : va_P (dC, dI) vwCl (wm ad2 cy v2 ++ wl ad kv cy N c_5) H := hP
  have hD : va_D (fun q : Nat => s.heap.size ≤ q) (wm ad2 cy v2 ++ wl ad kv cy N c_5) := hD
  obtain ⟨hv, hpc⟩ := hw_5
  refine lv_pop hx hb dL_law_199 rfl ?_
  refine lv_aload_n hx hb dL_law_200 rfl (lv_at hl 1 rfl) ?_
  refine lv_aload_n hx hb dL_law_201 rfl (lv_at hl 3 rfl) ?_
  refine lv_iload_n hx hb dL_law_202 rfl (lv_at hl 0 rfl) ?_
  refine lv_iconst (v := 1) hx hb dL_law_203 (by decide) ?_
  refine lv_iadd hx hb dL_law_204 ?_
  refine lv_topi (fun x_6 ex_6 => ?_)
  obtain rfl : x_1 = x_6 := ex_1.trans ex_6.symm
  refine va_sld hx hb hX hbl hbA hS (vp_in_iff.mpr ⟨by omega, by omega⟩) dL_law_205 ?_
  refine lv_topi (fun x_7 ex_7 => ?_)
  obtain rfl : x_2 = x_7 := ex_2.trans ex_7.symm
  refine lv_aload_n hx hb dL_law_206 rfl (lv_at hl 3 rfl) ?_
  refine lv_iload_n hx hb dL_law_207 rfl (lv_at hl 0 rfl) ?_
  refine lv_iconst (v := 2) hx hb dL_law_208 (by decide) ?_
  refine lv_iadd hx hb dL_law_209 ?_
  refine lv_topi (fun x_8 ex_8 => ?_)
  obtain rfl : x_3 = x_8 := ex_3.trans ex_8.symm
  refine va_sld hx hb hX hbl hbA hS (vp_in_iff.mpr ⟨by omega, by omega⟩) dL_law_210 ?_
  refine lv_topi (fun x_9 ex_9 => ?_)
  obtain rfl : x_4 = x_9 := ex_4.trans ex_9.symm
  have hq0 := hq
  refine yl_i (X := wm ad2 cy v2) (Y := wl ad kv cy N c_5) (w1 := fun (u : Nat → Nat → Int32) => wm ad2 cy u) hP hD hS hA (va_runV (As := [.int x_2, .int x_4]) (rest := []) ⟨hx, hb, hml, hown, hts⟩ (e_X8_mediator l dC dI cy _ ad2 v2 hq x_2 x_4) (cwV 2 hts gL_law_X8_mediator rfl rfl rfl hd_V_X8_mediator_2 ⟨Nat.le_of_ble_eq_true rfl, Nat.le_of_ble_eq_true rfl⟩) (yl_preV hE hK hP hD (ci := 8) (q := (RX8, TX8, 11)) (q0 := 0) rfl (wm_at (by decide) rc_0)) rfl rfl hl.1 rfl (lv_room (Nat.le_of_ble_eq_true rfl)) dL_law_211 hcs) (fun r_10 m_10 H locs hw_10 hP hD hS => ?_)
  have hP : va_P (dC, dI) vwCl (wl ad kv cy N c_5 ++ wm ad2 cy m_10) H := hP
  have hD : va_D (fun q : Nat => s.heap.size ≤ q) (wl ad kv cy N c_5 ++ wm ad2 cy m_10) := hD
  obtain ⟨hq, hpm⟩ := hw_10
  obtain ⟨hrr, hJ⟩ := S_mediator hv0 hq0 hJ hpc hpm
  subst hrr
  refine lv_pop hx hb dL_law_214 rfl ?_
  refine lv_goto (tgt := 1060) hx hb dL_law_215 (by decide) ?_
  exact kk c_5 m_10 _ _ ls hv hq hJ hP hD hS hl

set_option maxHeartbeats 4000000 in
set_option maxRecDepth 100000 in
/-- the case of kin -/
theorem lc_2 {p : Program} {l : Launch} {e : Env} {s : State} {m : MethodId} {below : List Frame} {meth : Method} {c : Code} {dC : Nat → ClassId} {dI : Nat → Nat → Nat} {cy : Nat → ClassId} {b L : Nat} {xs : Nat → Int32} (C0 : lw_At p s m meth c b L xs) {t1 t2 : Nat} (hSt : ex_St t1 t2 (fun q : Nat => s.heap.size ≤ q) s) (hE : ex_K s) (hK : va_K (dC, dI) vwCl (ty_L cy) s) (hL : L ≤ 3584) {ad ad2 : Nat → Nat} {kv : Value} {N : Nat} (hN : 119 ≤ N) {v v2 : Nat → Nat → Int32} (hv : Iv v) (hq : Ir v2) {n : Int32} (hJ : RR3 n v v2) {i : Int32} (hi : 0 ≤ i.toInt ∧ i.toInt + 7 ≤ (L : Int)) {cells slots : Nat} (hcs : cells ≤ room_1.cells ∧ slots ≤ room_1.slots) {H : Heap} {locs : List Loc} (hP : va_P (dC, dI) vwCl (wl ad kv cy N v ++ wm ad2 cy v2) H) (hD : va_D (fun q : Nat => s.heap.size ≤ q) (wl ad kv cy N v ++ wm ad2 cy v2)) (hS : va_S (fun q : Nat => s.heap.size ≤ q) s.heap H locs) (ls : Array Slot) (hl : lv_has ls 4 [(3, .int i), (2, .ref (ad2 0)), (1, .ref (ad 0)), (0, .ref b)]) (kk : ∀ (v1 v3 : Nat → Nat → Int32) (H1 : Heap) (locs1 : List Loc) (ls1 : Array Slot), Iv v1 → Ir v3 → RR3 n v1 v3 → va_P (dC, dI) vwCl (wl ad kv cy N v1 ++ wm ad2 cy v3) H1 → va_D (fun q : Nat => s.heap.size ≤ q) (wl ad kv cy N v1 ++ wm ad2 cy v3) → va_S (fun q : Nat => s.heap.size ≤ q) s.heap H1 locs1 → lv_has ls1 4 [(3, .int i), (2, .ref (ad2 0)), (1, .ref (ad 0)), (0, .ref b)] → W p l e room_1 s m #[Value.ref b] below meth c H1 locs1 cells slots (lw_Z below #[Value.ref b] s) (F0 m 1060 ls1 [])) : W p l e room_1 s m #[Value.ref b] below meth c H locs cells slots (lw_Z below #[Value.ref b] s) (F0 m 218 ls []) := by
  obtain ⟨hx, hb, hr, hml, hown, hts0, hX, hbl, hlocks, hgv⟩ := id C0
  have hts : ∀ w ∈ wsL_law, w.before #[Value.ref b] s = true := fun w h => hts0 w (wsL_law_in w h)
  have hown : s.vm.findClass RL = some m.cls := hown
  have hA : ∀ q : Nat, s.heap.size ≤ q → (fun q : Nat => s.heap.size ≤ q) q := fun _ h => h
  have hbA : ¬ (fun q : Nat => s.heap.size ≤ q) b := Nat.not_le.mpr hbl
  refine lv_aload_n hx hb dL_law_218 rfl (lv_at hl 2 rfl) ?_
  refine lv_aload_n hx hb dL_law_219 rfl (lv_at hl 3 rfl) ?_
  refine lv_iload_n hx hb dL_law_220 rfl (lv_at hl 0 rfl) ?_
  refine lv_iconst (v := 1) hx hb dL_law_221 (by decide) ?_
  refine lv_iadd hx hb dL_law_222 ?_
  refine lv_topi (fun x_1 ex_1 => ?_)
  have k_1 : (1 : Int32).toInt = 1 := by decide
  have tx_1 : x_1.toInt = i.toInt + (1 : Int32).toInt := by rw [ex_1]; exact t_add ⟨by omega, by omega⟩
  refine va_sld hx hb hX hbl hbA hS (vp_in_iff.mpr ⟨by omega, by omega⟩) dL_law_223 ?_
  refine lv_topi (fun x_2 ex_2 => ?_)
  refine lv_aload_n hx hb dL_law_224 rfl (lv_at hl 3 rfl) ?_
  refine lv_iload_n hx hb dL_law_225 rfl (lv_at hl 0 rfl) ?_
  refine lv_iconst (v := 2) hx hb dL_law_226 (by decide) ?_
  refine lv_iadd hx hb dL_law_227 ?_
  refine lv_topi (fun x_3 ex_3 => ?_)
  have k_2 : (2 : Int32).toInt = 2 := by decide
  have tx_3 : x_3.toInt = i.toInt + (2 : Int32).toInt := by rw [ex_3]; exact t_add ⟨by omega, by omega⟩
  refine va_sld hx hb hX hbl hbA hS (vp_in_iff.mpr ⟨by omega, by omega⟩) dL_law_228 ?_
  refine lv_topi (fun x_4 ex_4 => ?_)
  refine lv_aload_n hx hb dL_law_229 rfl (lv_at hl 3 rfl) ?_
  refine lv_iload_n hx hb dL_law_230 rfl (lv_at hl 0 rfl) ?_
  refine lv_iconst (v := 3) hx hb dL_law_231 (by decide) ?_
  refine lv_iadd hx hb dL_law_232 ?_
  refine lv_topi (fun x_5 ex_5 => ?_)
  have k_3 : (3 : Int32).toInt = 3 := by decide
  have tx_5 : x_5.toInt = i.toInt + (3 : Int32).toInt := by rw [ex_5]; exact t_add ⟨by omega, by omega⟩
  refine va_sld hx hb hX hbl hbA hS (vp_in_iff.mpr ⟨by omega, by omega⟩) dL_law_233 ?_
  refine lv_topi (fun x_6 ex_6 => ?_)
  have k_0 : (0 : Int32).toInt = 0 := by decide
  refine lv_if_eq (tgt := 241) hx hb dL_law_234 (by decide) (fun c_7 => ?_) (fun c_7 => ?_)
  · have tc_7 : x_6.toInt = (0 : Int32).toInt := by rw [c_7]
    refine lv_iconst (v := 0) hx hb dL_law_241 (by decide) ?_
    have hv0 := hv
    refine yl_i (X := wl ad kv cy N v) (Y := wm ad2 cy v2) (w1 := fun (u : Nat → Nat → Int32) => wl ad kv cy N u) hP hD hS hA (va_runV (As := [.int x_2, .int x_4, .int 0]) (rest := []) ⟨hx, hb, hml, hown, hts⟩ (e_X7_kin_0 l dC dI cy _ ad kv N hN v hv x_2 x_4) (cwV 3 hts gL_law_X7_kin rfl rfl rfl hd_V_X7_kin_3 ⟨Nat.le_of_ble_eq_true rfl, Nat.le_of_ble_eq_true rfl⟩) (yl_preV hE hK hP hD (ci := 7) (q := (RX7, TX7, 5)) (q0 := 0) rfl (wl_at (by omega) (ce_0 (by decide)))) rfl rfl hl.1 rfl (lv_room (Nat.le_of_ble_eq_true rfl)) dL_law_242 hcs) (fun r_8 c_8 H locs hw_8 hP hD hS => ?_)
    have hP : va_P (dC, dI) vwCl (wm ad2 cy v2 ++ wl ad kv cy N c_8) H := hP
    have hD : va_D (fun q : Nat => s.heap.size ≤ q) (wm ad2 cy v2 ++ wl ad kv cy N c_8) := hD
    obtain ⟨hv, hpc⟩ := hw_8
    refine lv_pop hx hb dL_law_245 rfl ?_
    refine lv_aload_n hx hb dL_law_246 rfl (lv_at hl 1 rfl) ?_
    refine lv_aload_n hx hb dL_law_247 rfl (lv_at hl 3 rfl) ?_
    refine lv_iload_n hx hb dL_law_248 rfl (lv_at hl 0 rfl) ?_
    refine lv_iconst (v := 1) hx hb dL_law_249 (by decide) ?_
    refine lv_iadd hx hb dL_law_250 ?_
    refine lv_topi (fun x_9 ex_9 => ?_)
    obtain rfl : x_1 = x_9 := ex_1.trans ex_9.symm
    refine va_sld hx hb hX hbl hbA hS (vp_in_iff.mpr ⟨by omega, by omega⟩) dL_law_251 ?_
    refine lv_topi (fun x_10 ex_10 => ?_)
    obtain rfl : x_2 = x_10 := ex_2.trans ex_10.symm
    refine lv_aload_n hx hb dL_law_252 rfl (lv_at hl 3 rfl) ?_
    refine lv_iload_n hx hb dL_law_253 rfl (lv_at hl 0 rfl) ?_
    refine lv_iconst (v := 2) hx hb dL_law_254 (by decide) ?_
    refine lv_iadd hx hb dL_law_255 ?_
    refine lv_topi (fun x_11 ex_11 => ?_)
    obtain rfl : x_3 = x_11 := ex_3.trans ex_11.symm
    refine va_sld hx hb hX hbl hbA hS (vp_in_iff.mpr ⟨by omega, by omega⟩) dL_law_256 ?_
    refine lv_topi (fun x_12 ex_12 => ?_)
    obtain rfl : x_4 = x_12 := ex_4.trans ex_12.symm
    refine lv_aload_n hx hb dL_law_257 rfl (lv_at hl 3 rfl) ?_
    refine lv_iload_n hx hb dL_law_258 rfl (lv_at hl 0 rfl) ?_
    refine lv_iconst (v := 3) hx hb dL_law_259 (by decide) ?_
    refine lv_iadd hx hb dL_law_260 ?_
    refine lv_topi (fun x_13 ex_13 => ?_)
    obtain rfl : x_5 = x_13 := ex_5.trans ex_13.symm
    refine va_sld hx hb hX hbl hbA hS (vp_in_iff.mpr ⟨by omega, by omega⟩) dL_law_261 ?_
    refine lv_topi (fun x_14 ex_14 => ?_)
    obtain rfl : x_6 = x_14 := ex_6.trans ex_14.symm
    refine lv_if_eq (tgt := 269) hx hb dL_law_262 (by decide) (fun c_15 => ?_) (fun c_15 => ?_)
    · have tc_15 : x_6.toInt = (0 : Int32).toInt := by rw [c_15]
      refine lv_iconst (v := 0) hx hb dL_law_269 (by decide) ?_
      have hq0 := hq
      refine yl_i (X := wm ad2 cy v2) (Y := wl ad kv cy N c_8) (w1 := fun (u : Nat → Nat → Int32) => wm ad2 cy u) hP hD hS hA (va_runV (As := [.int x_2, .int x_4, .int 0]) (rest := []) ⟨hx, hb, hml, hown, hts⟩ (e_X8_kin_0 l dC dI cy _ ad2 v2 hq x_2 x_4) (cwV 3 hts gL_law_X8_kin rfl rfl rfl hd_V_X8_kin_3 ⟨Nat.le_of_ble_eq_true rfl, Nat.le_of_ble_eq_true rfl⟩) (yl_preV hE hK hP hD (ci := 8) (q := (RX8, TX8, 11)) (q0 := 0) rfl (wm_at (by decide) rc_0)) rfl rfl hl.1 rfl (lv_room (Nat.le_of_ble_eq_true rfl)) dL_law_270 hcs) (fun r_16 m_16 H locs hw_16 hP hD hS => ?_)
      have hP : va_P (dC, dI) vwCl (wl ad kv cy N c_8 ++ wm ad2 cy m_16) H := hP
      have hD : va_D (fun q : Nat => s.heap.size ≤ q) (wl ad kv cy N c_8 ++ wm ad2 cy m_16) := hD
      obtain ⟨hq, hpm⟩ := hw_16
      obtain ⟨hrr, hJ⟩ := S_kin_0 hv0 hq0 hJ hpc hpm
      subst hrr
      refine lv_pop hx hb dL_law_273 rfl ?_
      refine lv_goto (tgt := 1060) hx hb dL_law_274 (by decide) ?_
      exact kk c_8 m_16 _ _ ls hv hq hJ hP hD hS hl
    · have tc_15 : x_6.toInt ≠ (0 : Int32).toInt := fun q => absurd (Int32.toInt_inj.mp q) c_15
      exfalso
      first | contradiction | omega
  · have tc_7 : x_6.toInt ≠ (0 : Int32).toInt := fun q => absurd (Int32.toInt_inj.mp q) c_7
    refine lv_iconst (v := 1) hx hb dL_law_237 (by decide) ?_
    refine lv_goto (tgt := 242) hx hb dL_law_238 (by decide) ?_
    have hv0 := hv
    refine yl_i (X := wl ad kv cy N v) (Y := wm ad2 cy v2) (w1 := fun (u : Nat → Nat → Int32) => wl ad kv cy N u) hP hD hS hA (va_runV (As := [.int x_2, .int x_4, .int 1]) (rest := []) ⟨hx, hb, hml, hown, hts⟩ (e_X7_kin_1 l dC dI cy _ ad kv N hN v hv x_2 x_4) (cwV 3 hts gL_law_X7_kin rfl rfl rfl hd_V_X7_kin_3 ⟨Nat.le_of_ble_eq_true rfl, Nat.le_of_ble_eq_true rfl⟩) (yl_preV hE hK hP hD (ci := 7) (q := (RX7, TX7, 5)) (q0 := 0) rfl (wl_at (by omega) (ce_0 (by decide)))) rfl rfl hl.1 rfl (lv_room (Nat.le_of_ble_eq_true rfl)) dL_law_242 hcs) (fun r_8 c_8 H locs hw_8 hP hD hS => ?_)
    have hP : va_P (dC, dI) vwCl (wm ad2 cy v2 ++ wl ad kv cy N c_8) H := hP
    have hD : va_D (fun q : Nat => s.heap.size ≤ q) (wm ad2 cy v2 ++ wl ad kv cy N c_8) := hD
    obtain ⟨hv, hpc⟩ := hw_8
    refine lv_pop hx hb dL_law_245 rfl ?_
    refine lv_aload_n hx hb dL_law_246 rfl (lv_at hl 1 rfl) ?_
    refine lv_aload_n hx hb dL_law_247 rfl (lv_at hl 3 rfl) ?_
    refine lv_iload_n hx hb dL_law_248 rfl (lv_at hl 0 rfl) ?_
    refine lv_iconst (v := 1) hx hb dL_law_249 (by decide) ?_
    refine lv_iadd hx hb dL_law_250 ?_
    refine lv_topi (fun x_9 ex_9 => ?_)
    obtain rfl : x_1 = x_9 := ex_1.trans ex_9.symm
    refine va_sld hx hb hX hbl hbA hS (vp_in_iff.mpr ⟨by omega, by omega⟩) dL_law_251 ?_
    refine lv_topi (fun x_10 ex_10 => ?_)
    obtain rfl : x_2 = x_10 := ex_2.trans ex_10.symm
    refine lv_aload_n hx hb dL_law_252 rfl (lv_at hl 3 rfl) ?_
    refine lv_iload_n hx hb dL_law_253 rfl (lv_at hl 0 rfl) ?_
    refine lv_iconst (v := 2) hx hb dL_law_254 (by decide) ?_
    refine lv_iadd hx hb dL_law_255 ?_
    refine lv_topi (fun x_11 ex_11 => ?_)
    obtain rfl : x_3 = x_11 := ex_3.trans ex_11.symm
    refine va_sld hx hb hX hbl hbA hS (vp_in_iff.mpr ⟨by omega, by omega⟩) dL_law_256 ?_
    refine lv_topi (fun x_12 ex_12 => ?_)
    obtain rfl : x_4 = x_12 := ex_4.trans ex_12.symm
    refine lv_aload_n hx hb dL_law_257 rfl (lv_at hl 3 rfl) ?_
    refine lv_iload_n hx hb dL_law_258 rfl (lv_at hl 0 rfl) ?_
    refine lv_iconst (v := 3) hx hb dL_law_259 (by decide) ?_
    refine lv_iadd hx hb dL_law_260 ?_
    refine lv_topi (fun x_13 ex_13 => ?_)
    obtain rfl : x_5 = x_13 := ex_5.trans ex_13.symm
    refine va_sld hx hb hX hbl hbA hS (vp_in_iff.mpr ⟨by omega, by omega⟩) dL_law_261 ?_
    refine lv_topi (fun x_14 ex_14 => ?_)
    obtain rfl : x_6 = x_14 := ex_6.trans ex_14.symm
    refine lv_if_eq (tgt := 269) hx hb dL_law_262 (by decide) (fun c_15 => ?_) (fun c_15 => ?_)
    · have tc_15 : x_6.toInt = (0 : Int32).toInt := by rw [c_15]
      exfalso
      first | contradiction | omega
    · have tc_15 : x_6.toInt ≠ (0 : Int32).toInt := fun q => absurd (Int32.toInt_inj.mp q) c_15
      refine lv_iconst (v := 1) hx hb dL_law_265 (by decide) ?_
      refine lv_goto (tgt := 270) hx hb dL_law_266 (by decide) ?_
      have hq0 := hq
      refine yl_i (X := wm ad2 cy v2) (Y := wl ad kv cy N c_8) (w1 := fun (u : Nat → Nat → Int32) => wm ad2 cy u) hP hD hS hA (va_runV (As := [.int x_2, .int x_4, .int 1]) (rest := []) ⟨hx, hb, hml, hown, hts⟩ (e_X8_kin_1 l dC dI cy _ ad2 v2 hq x_2 x_4) (cwV 3 hts gL_law_X8_kin rfl rfl rfl hd_V_X8_kin_3 ⟨Nat.le_of_ble_eq_true rfl, Nat.le_of_ble_eq_true rfl⟩) (yl_preV hE hK hP hD (ci := 8) (q := (RX8, TX8, 11)) (q0 := 0) rfl (wm_at (by decide) rc_0)) rfl rfl hl.1 rfl (lv_room (Nat.le_of_ble_eq_true rfl)) dL_law_270 hcs) (fun r_16 m_16 H locs hw_16 hP hD hS => ?_)
      have hP : va_P (dC, dI) vwCl (wl ad kv cy N c_8 ++ wm ad2 cy m_16) H := hP
      have hD : va_D (fun q : Nat => s.heap.size ≤ q) (wl ad kv cy N c_8 ++ wm ad2 cy m_16) := hD
      obtain ⟨hq, hpm⟩ := hw_16
      obtain ⟨hrr, hJ⟩ := S_kin_1 hv0 hq0 hJ hpc hpm
      subst hrr
      refine lv_pop hx hb dL_law_273 rfl ?_
      refine lv_goto (tgt := 1060) hx hb dL_law_274 (by decide) ?_
      exact kk c_8 m_16 _ _ ls hv hq hJ hP hD hS hl

set_option maxHeartbeats 4000000 in
set_option maxRecDepth 100000 in
/-- the case of open -/
theorem lc_3 {p : Program} {l : Launch} {e : Env} {s : State} {m : MethodId} {below : List Frame} {meth : Method} {c : Code} {dC : Nat → ClassId} {dI : Nat → Nat → Nat} {cy : Nat → ClassId} {b L : Nat} {xs : Nat → Int32} (C0 : lw_At p s m meth c b L xs) {t1 t2 : Nat} (hSt : ex_St t1 t2 (fun q : Nat => s.heap.size ≤ q) s) (hE : ex_K s) (hK : va_K (dC, dI) vwCl (ty_L cy) s) (hL : L ≤ 3584) {ad ad2 : Nat → Nat} {kv : Value} {N : Nat} (hN : 119 ≤ N) {v v2 : Nat → Nat → Int32} (hv : Iv v) (hq : Ir v2) {n : Int32} (hJ : RR3 n v v2) {i : Int32} (hi : 0 ≤ i.toInt ∧ i.toInt + 7 ≤ (L : Int)) {cells slots : Nat} (hcs : cells ≤ room_1.cells ∧ slots ≤ room_1.slots) {H : Heap} {locs : List Loc} (hP : va_P (dC, dI) vwCl (wl ad kv cy N v ++ wm ad2 cy v2) H) (hD : va_D (fun q : Nat => s.heap.size ≤ q) (wl ad kv cy N v ++ wm ad2 cy v2)) (hS : va_S (fun q : Nat => s.heap.size ≤ q) s.heap H locs) (ls : Array Slot) (hl : lv_has ls 4 [(3, .int i), (2, .ref (ad2 0)), (1, .ref (ad 0)), (0, .ref b)]) (kk : ∀ (v1 v3 : Nat → Nat → Int32) (H1 : Heap) (locs1 : List Loc) (ls1 : Array Slot), Iv v1 → Ir v3 → RR3 n v1 v3 → va_P (dC, dI) vwCl (wl ad kv cy N v1 ++ wm ad2 cy v3) H1 → va_D (fun q : Nat => s.heap.size ≤ q) (wl ad kv cy N v1 ++ wm ad2 cy v3) → va_S (fun q : Nat => s.heap.size ≤ q) s.heap H1 locs1 → lv_has ls1 4 [(3, .int i), (2, .ref (ad2 0)), (1, .ref (ad 0)), (0, .ref b)] → W p l e room_1 s m #[Value.ref b] below meth c H1 locs1 cells slots (lw_Z below #[Value.ref b] s) (F0 m 1060 ls1 [])) : W p l e room_1 s m #[Value.ref b] below meth c H locs cells slots (lw_Z below #[Value.ref b] s) (F0 m 277 ls []) := by
  obtain ⟨hx, hb, hr, hml, hown, hts0, hX, hbl, hlocks, hgv⟩ := id C0
  have hts : ∀ w ∈ wsL_law, w.before #[Value.ref b] s = true := fun w h => hts0 w (wsL_law_in w h)
  have hown : s.vm.findClass RL = some m.cls := hown
  have hA : ∀ q : Nat, s.heap.size ≤ q → (fun q : Nat => s.heap.size ≤ q) q := fun _ h => h
  have hbA : ¬ (fun q : Nat => s.heap.size ≤ q) b := Nat.not_le.mpr hbl
  refine lv_aload_n hx hb dL_law_277 rfl (lv_at hl 2 rfl) ?_
  refine lv_aload_n hx hb dL_law_278 rfl (lv_at hl 3 rfl) ?_
  refine lv_iload_n hx hb dL_law_279 rfl (lv_at hl 0 rfl) ?_
  refine lv_iconst (v := 1) hx hb dL_law_280 (by decide) ?_
  refine lv_iadd hx hb dL_law_281 ?_
  refine lv_topi (fun x_1 ex_1 => ?_)
  have k_1 : (1 : Int32).toInt = 1 := by decide
  have tx_1 : x_1.toInt = i.toInt + (1 : Int32).toInt := by rw [ex_1]; exact t_add ⟨by omega, by omega⟩
  refine va_sld hx hb hX hbl hbA hS (vp_in_iff.mpr ⟨by omega, by omega⟩) dL_law_282 ?_
  refine lv_topi (fun x_2 ex_2 => ?_)
  refine lv_aload_n hx hb dL_law_283 rfl (lv_at hl 3 rfl) ?_
  refine lv_iload_n hx hb dL_law_284 rfl (lv_at hl 0 rfl) ?_
  refine lv_iconst (v := 2) hx hb dL_law_285 (by decide) ?_
  refine lv_iadd hx hb dL_law_286 ?_
  refine lv_topi (fun x_3 ex_3 => ?_)
  have k_2 : (2 : Int32).toInt = 2 := by decide
  have tx_3 : x_3.toInt = i.toInt + (2 : Int32).toInt := by rw [ex_3]; exact t_add ⟨by omega, by omega⟩
  refine va_sld hx hb hX hbl hbA hS (vp_in_iff.mpr ⟨by omega, by omega⟩) dL_law_287 ?_
  refine lv_topi (fun x_4 ex_4 => ?_)
  have hv0 := hv
  refine yl_i (X := wl ad kv cy N v) (Y := wm ad2 cy v2) (w1 := fun (u : Nat → Nat → Int32) => wl ad kv cy N u) hP hD hS hA (va_runV (As := [.int x_2, .int x_4]) (rest := []) ⟨hx, hb, hml, hown, hts⟩ (e_X7_open l dC dI cy _ ad kv N hN v hv x_2 x_4) (cwV 2 hts gL_law_X7_open rfl rfl rfl hd_V_X7_open_2 ⟨Nat.le_of_ble_eq_true rfl, Nat.le_of_ble_eq_true rfl⟩) (yl_preV hE hK hP hD (ci := 7) (q := (RX7, TX7, 5)) (q0 := 0) rfl (wl_at (by omega) (ce_0 (by decide)))) rfl rfl hl.1 rfl (lv_room (Nat.le_of_ble_eq_true rfl)) dL_law_288 hcs) (fun r_5 c_5 H locs hw_5 hP hD hS => ?_)
  have hP : va_P (dC, dI) vwCl (wm ad2 cy v2 ++ wl ad kv cy N c_5) H := hP
  have hD : va_D (fun q : Nat => s.heap.size ≤ q) (wm ad2 cy v2 ++ wl ad kv cy N c_5) := hD
  obtain ⟨hv, hpc⟩ := hw_5
  refine lv_pop hx hb dL_law_291 rfl ?_
  refine lv_aload_n hx hb dL_law_292 rfl (lv_at hl 1 rfl) ?_
  refine lv_aload_n hx hb dL_law_293 rfl (lv_at hl 3 rfl) ?_
  refine lv_iload_n hx hb dL_law_294 rfl (lv_at hl 0 rfl) ?_
  refine lv_iconst (v := 1) hx hb dL_law_295 (by decide) ?_
  refine lv_iadd hx hb dL_law_296 ?_
  refine lv_topi (fun x_6 ex_6 => ?_)
  obtain rfl : x_1 = x_6 := ex_1.trans ex_6.symm
  refine va_sld hx hb hX hbl hbA hS (vp_in_iff.mpr ⟨by omega, by omega⟩) dL_law_297 ?_
  refine lv_topi (fun x_7 ex_7 => ?_)
  obtain rfl : x_2 = x_7 := ex_2.trans ex_7.symm
  refine lv_aload_n hx hb dL_law_298 rfl (lv_at hl 3 rfl) ?_
  refine lv_iload_n hx hb dL_law_299 rfl (lv_at hl 0 rfl) ?_
  refine lv_iconst (v := 2) hx hb dL_law_300 (by decide) ?_
  refine lv_iadd hx hb dL_law_301 ?_
  refine lv_topi (fun x_8 ex_8 => ?_)
  obtain rfl : x_3 = x_8 := ex_3.trans ex_8.symm
  refine va_sld hx hb hX hbl hbA hS (vp_in_iff.mpr ⟨by omega, by omega⟩) dL_law_302 ?_
  refine lv_topi (fun x_9 ex_9 => ?_)
  obtain rfl : x_4 = x_9 := ex_4.trans ex_9.symm
  have hq0 := hq
  refine yl_i (X := wm ad2 cy v2) (Y := wl ad kv cy N c_5) (w1 := fun (u : Nat → Nat → Int32) => wm ad2 cy u) hP hD hS hA (va_runV (As := [.int x_2, .int x_4]) (rest := []) ⟨hx, hb, hml, hown, hts⟩ (e_X8_open l dC dI cy _ ad2 v2 hq x_2 x_4) (cwV 2 hts gL_law_X8_open rfl rfl rfl hd_V_X8_open_2 ⟨Nat.le_of_ble_eq_true rfl, Nat.le_of_ble_eq_true rfl⟩) (yl_preV hE hK hP hD (ci := 8) (q := (RX8, TX8, 11)) (q0 := 0) rfl (wm_at (by decide) rc_0)) rfl rfl hl.1 rfl (lv_room (Nat.le_of_ble_eq_true rfl)) dL_law_303 hcs) (fun r_10 m_10 H locs hw_10 hP hD hS => ?_)
  have hP : va_P (dC, dI) vwCl (wl ad kv cy N c_5 ++ wm ad2 cy m_10) H := hP
  have hD : va_D (fun q : Nat => s.heap.size ≤ q) (wl ad kv cy N c_5 ++ wm ad2 cy m_10) := hD
  obtain ⟨hq, hpm⟩ := hw_10
  obtain ⟨hrr, hJ⟩ := S_open hv0 hq0 hJ hpc hpm
  subst hrr
  refine lv_pop hx hb dL_law_306 rfl ?_
  refine lv_goto (tgt := 1060) hx hb dL_law_307 (by decide) ?_
  exact kk c_5 m_10 _ _ ls hv hq hJ hP hD hS hl

set_option maxHeartbeats 4000000 in
set_option maxRecDepth 100000 in
/-- the case of close -/
theorem lc_4 {p : Program} {l : Launch} {e : Env} {s : State} {m : MethodId} {below : List Frame} {meth : Method} {c : Code} {dC : Nat → ClassId} {dI : Nat → Nat → Nat} {cy : Nat → ClassId} {b L : Nat} {xs : Nat → Int32} (C0 : lw_At p s m meth c b L xs) {t1 t2 : Nat} (hSt : ex_St t1 t2 (fun q : Nat => s.heap.size ≤ q) s) (hE : ex_K s) (hK : va_K (dC, dI) vwCl (ty_L cy) s) (hL : L ≤ 3584) {ad ad2 : Nat → Nat} {kv : Value} {N : Nat} (hN : 119 ≤ N) {v v2 : Nat → Nat → Int32} (hv : Iv v) (hq : Ir v2) {n : Int32} (hJ : RR3 n v v2) {i : Int32} (hi : 0 ≤ i.toInt ∧ i.toInt + 7 ≤ (L : Int)) {cells slots : Nat} (hcs : cells ≤ room_1.cells ∧ slots ≤ room_1.slots) {H : Heap} {locs : List Loc} (hP : va_P (dC, dI) vwCl (wl ad kv cy N v ++ wm ad2 cy v2) H) (hD : va_D (fun q : Nat => s.heap.size ≤ q) (wl ad kv cy N v ++ wm ad2 cy v2)) (hS : va_S (fun q : Nat => s.heap.size ≤ q) s.heap H locs) (ls : Array Slot) (hl : lv_has ls 4 [(3, .int i), (2, .ref (ad2 0)), (1, .ref (ad 0)), (0, .ref b)]) (kk : ∀ (v1 v3 : Nat → Nat → Int32) (H1 : Heap) (locs1 : List Loc) (ls1 : Array Slot), Iv v1 → Ir v3 → RR3 n v1 v3 → va_P (dC, dI) vwCl (wl ad kv cy N v1 ++ wm ad2 cy v3) H1 → va_D (fun q : Nat => s.heap.size ≤ q) (wl ad kv cy N v1 ++ wm ad2 cy v3) → va_S (fun q : Nat => s.heap.size ≤ q) s.heap H1 locs1 → lv_has ls1 4 [(3, .int i), (2, .ref (ad2 0)), (1, .ref (ad 0)), (0, .ref b)] → W p l e room_1 s m #[Value.ref b] below meth c H1 locs1 cells slots (lw_Z below #[Value.ref b] s) (F0 m 1060 ls1 [])) : W p l e room_1 s m #[Value.ref b] below meth c H locs cells slots (lw_Z below #[Value.ref b] s) (F0 m 310 ls []) := by
  obtain ⟨hx, hb, hr, hml, hown, hts0, hX, hbl, hlocks, hgv⟩ := id C0
  have hts : ∀ w ∈ wsL_law, w.before #[Value.ref b] s = true := fun w h => hts0 w (wsL_law_in w h)
  have hown : s.vm.findClass RL = some m.cls := hown
  have hA : ∀ q : Nat, s.heap.size ≤ q → (fun q : Nat => s.heap.size ≤ q) q := fun _ h => h
  have hbA : ¬ (fun q : Nat => s.heap.size ≤ q) b := Nat.not_le.mpr hbl
  refine lv_aload_n hx hb dL_law_310 rfl (lv_at hl 2 rfl) ?_
  refine lv_aload_n hx hb dL_law_311 rfl (lv_at hl 3 rfl) ?_
  refine lv_iload_n hx hb dL_law_312 rfl (lv_at hl 0 rfl) ?_
  refine lv_iconst (v := 1) hx hb dL_law_313 (by decide) ?_
  refine lv_iadd hx hb dL_law_314 ?_
  refine lv_topi (fun x_1 ex_1 => ?_)
  have k_1 : (1 : Int32).toInt = 1 := by decide
  have tx_1 : x_1.toInt = i.toInt + (1 : Int32).toInt := by rw [ex_1]; exact t_add ⟨by omega, by omega⟩
  refine va_sld hx hb hX hbl hbA hS (vp_in_iff.mpr ⟨by omega, by omega⟩) dL_law_315 ?_
  refine lv_topi (fun x_2 ex_2 => ?_)
  have hv0 := hv
  refine yl_i (X := wl ad kv cy N v) (Y := wm ad2 cy v2) (w1 := fun (u : Nat → Nat → Int32) => wl ad kv cy N u) hP hD hS hA (va_runV (As := [.int x_2]) (rest := []) ⟨hx, hb, hml, hown, hts⟩ (e_X7_close l dC dI cy _ ad kv N hN v hv x_2) (cwV 1 hts gL_law_X7_close rfl rfl rfl hd_V_X7_close_1 ⟨Nat.le_of_ble_eq_true rfl, Nat.le_of_ble_eq_true rfl⟩) (yl_preV hE hK hP hD (ci := 7) (q := (RX7, TX7, 5)) (q0 := 0) rfl (wl_at (by omega) (ce_0 (by decide)))) rfl rfl hl.1 rfl (lv_room (Nat.le_of_ble_eq_true rfl)) dL_law_316 hcs) (fun r_3 c_3 H locs hw_3 hP hD hS => ?_)
  have hP : va_P (dC, dI) vwCl (wm ad2 cy v2 ++ wl ad kv cy N c_3) H := hP
  have hD : va_D (fun q : Nat => s.heap.size ≤ q) (wm ad2 cy v2 ++ wl ad kv cy N c_3) := hD
  obtain ⟨hv, hpc⟩ := hw_3
  refine lv_pop hx hb dL_law_319 rfl ?_
  refine lv_aload_n hx hb dL_law_320 rfl (lv_at hl 1 rfl) ?_
  refine lv_aload_n hx hb dL_law_321 rfl (lv_at hl 3 rfl) ?_
  refine lv_iload_n hx hb dL_law_322 rfl (lv_at hl 0 rfl) ?_
  refine lv_iconst (v := 1) hx hb dL_law_323 (by decide) ?_
  refine lv_iadd hx hb dL_law_324 ?_
  refine lv_topi (fun x_4 ex_4 => ?_)
  obtain rfl : x_1 = x_4 := ex_1.trans ex_4.symm
  refine va_sld hx hb hX hbl hbA hS (vp_in_iff.mpr ⟨by omega, by omega⟩) dL_law_325 ?_
  refine lv_topi (fun x_5 ex_5 => ?_)
  obtain rfl : x_2 = x_5 := ex_2.trans ex_5.symm
  have hq0 := hq
  refine yl_i (X := wm ad2 cy v2) (Y := wl ad kv cy N c_3) (w1 := fun (u : Nat → Nat → Int32) => wm ad2 cy u) hP hD hS hA (va_runV (As := [.int x_2]) (rest := []) ⟨hx, hb, hml, hown, hts⟩ (e_X8_close l dC dI cy _ ad2 v2 hq x_2) (cwV 1 hts gL_law_X8_close rfl rfl rfl hd_V_X8_close_1 ⟨Nat.le_of_ble_eq_true rfl, Nat.le_of_ble_eq_true rfl⟩) (yl_preV hE hK hP hD (ci := 8) (q := (RX8, TX8, 11)) (q0 := 0) rfl (wm_at (by decide) rc_0)) rfl rfl hl.1 rfl (lv_room (Nat.le_of_ble_eq_true rfl)) dL_law_326 hcs) (fun r_6 m_6 H locs hw_6 hP hD hS => ?_)
  have hP : va_P (dC, dI) vwCl (wl ad kv cy N c_3 ++ wm ad2 cy m_6) H := hP
  have hD : va_D (fun q : Nat => s.heap.size ≤ q) (wl ad kv cy N c_3 ++ wm ad2 cy m_6) := hD
  obtain ⟨hq, hpm⟩ := hw_6
  obtain ⟨hrr, hJ⟩ := S_close hv0 hq0 hJ hpc hpm
  subst hrr
  refine lv_pop hx hb dL_law_329 rfl ?_
  refine lv_goto (tgt := 1060) hx hb dL_law_330 (by decide) ?_
  exact kk c_3 m_6 _ _ ls hv hq hJ hP hD hS hl

set_option maxHeartbeats 4000000 in
set_option maxRecDepth 100000 in
/-- the case of weight -/
theorem lc_5 {p : Program} {l : Launch} {e : Env} {s : State} {m : MethodId} {below : List Frame} {meth : Method} {c : Code} {dC : Nat → ClassId} {dI : Nat → Nat → Nat} {cy : Nat → ClassId} {b L : Nat} {xs : Nat → Int32} (C0 : lw_At p s m meth c b L xs) {t1 t2 : Nat} (hSt : ex_St t1 t2 (fun q : Nat => s.heap.size ≤ q) s) (hE : ex_K s) (hK : va_K (dC, dI) vwCl (ty_L cy) s) (hL : L ≤ 3584) {ad ad2 : Nat → Nat} {kv : Value} {N : Nat} (hN : 119 ≤ N) {v v2 : Nat → Nat → Int32} (hv : Iv v) (hq : Ir v2) {n : Int32} (hJ : RR3 n v v2) {i : Int32} (hi : 0 ≤ i.toInt ∧ i.toInt + 7 ≤ (L : Int)) {cells slots : Nat} (hcs : cells ≤ room_1.cells ∧ slots ≤ room_1.slots) {H : Heap} {locs : List Loc} (hP : va_P (dC, dI) vwCl (wl ad kv cy N v ++ wm ad2 cy v2) H) (hD : va_D (fun q : Nat => s.heap.size ≤ q) (wl ad kv cy N v ++ wm ad2 cy v2)) (hS : va_S (fun q : Nat => s.heap.size ≤ q) s.heap H locs) (ls : Array Slot) (hl : lv_has ls 4 [(3, .int i), (2, .ref (ad2 0)), (1, .ref (ad 0)), (0, .ref b)]) (kk : ∀ (v1 v3 : Nat → Nat → Int32) (H1 : Heap) (locs1 : List Loc) (ls1 : Array Slot), Iv v1 → Ir v3 → RR3 n v1 v3 → va_P (dC, dI) vwCl (wl ad kv cy N v1 ++ wm ad2 cy v3) H1 → va_D (fun q : Nat => s.heap.size ≤ q) (wl ad kv cy N v1 ++ wm ad2 cy v3) → va_S (fun q : Nat => s.heap.size ≤ q) s.heap H1 locs1 → lv_has ls1 4 [(3, .int i), (2, .ref (ad2 0)), (1, .ref (ad 0)), (0, .ref b)] → W p l e room_1 s m #[Value.ref b] below meth c H1 locs1 cells slots (lw_Z below #[Value.ref b] s) (F0 m 1060 ls1 [])) : W p l e room_1 s m #[Value.ref b] below meth c H locs cells slots (lw_Z below #[Value.ref b] s) (F0 m 333 ls []) := by
  obtain ⟨hx, hb, hr, hml, hown, hts0, hX, hbl, hlocks, hgv⟩ := id C0
  have hts : ∀ w ∈ wsL_law, w.before #[Value.ref b] s = true := fun w h => hts0 w (wsL_law_in w h)
  have hown : s.vm.findClass RL = some m.cls := hown
  have hA : ∀ q : Nat, s.heap.size ≤ q → (fun q : Nat => s.heap.size ≤ q) q := fun _ h => h
  have hbA : ¬ (fun q : Nat => s.heap.size ≤ q) b := Nat.not_le.mpr hbl
  refine lv_aload_n hx hb dL_law_333 rfl (lv_at hl 2 rfl) ?_
  refine lv_aload_n hx hb dL_law_334 rfl (lv_at hl 3 rfl) ?_
  refine lv_iload_n hx hb dL_law_335 rfl (lv_at hl 0 rfl) ?_
  refine lv_iconst (v := 1) hx hb dL_law_336 (by decide) ?_
  refine lv_iadd hx hb dL_law_337 ?_
  refine lv_topi (fun x_1 ex_1 => ?_)
  have k_1 : (1 : Int32).toInt = 1 := by decide
  have tx_1 : x_1.toInt = i.toInt + (1 : Int32).toInt := by rw [ex_1]; exact t_add ⟨by omega, by omega⟩
  refine va_sld hx hb hX hbl hbA hS (vp_in_iff.mpr ⟨by omega, by omega⟩) dL_law_338 ?_
  refine lv_topi (fun x_2 ex_2 => ?_)
  refine lv_aload_n hx hb dL_law_339 rfl (lv_at hl 3 rfl) ?_
  refine lv_iload_n hx hb dL_law_340 rfl (lv_at hl 0 rfl) ?_
  refine lv_iconst (v := 2) hx hb dL_law_341 (by decide) ?_
  refine lv_iadd hx hb dL_law_342 ?_
  refine lv_topi (fun x_3 ex_3 => ?_)
  have k_2 : (2 : Int32).toInt = 2 := by decide
  have tx_3 : x_3.toInt = i.toInt + (2 : Int32).toInt := by rw [ex_3]; exact t_add ⟨by omega, by omega⟩
  refine va_sld hx hb hX hbl hbA hS (vp_in_iff.mpr ⟨by omega, by omega⟩) dL_law_343 ?_
  refine lv_topi (fun x_4 ex_4 => ?_)
  have hv0 := hv
  refine yl_i (X := wl ad kv cy N v) (Y := wm ad2 cy v2) (w1 := fun (u : Nat → Nat → Int32) => wl ad kv cy N u) hP hD hS hA (va_runV (As := [.int x_2, .int x_4]) (rest := []) ⟨hx, hb, hml, hown, hts⟩ (e_X7_weight l dC dI cy _ ad kv N hN v hv x_2 x_4) (cwV 2 hts gL_law_X7_weight rfl rfl rfl hd_V_X7_weight_2 ⟨Nat.le_of_ble_eq_true rfl, Nat.le_of_ble_eq_true rfl⟩) (yl_preV hE hK hP hD (ci := 7) (q := (RX7, TX7, 5)) (q0 := 0) rfl (wl_at (by omega) (ce_0 (by decide)))) rfl rfl hl.1 rfl (lv_room (Nat.le_of_ble_eq_true rfl)) dL_law_344 hcs) (fun r_5 c_5 H locs hw_5 hP hD hS => ?_)
  have hP : va_P (dC, dI) vwCl (wm ad2 cy v2 ++ wl ad kv cy N c_5) H := hP
  have hD : va_D (fun q : Nat => s.heap.size ≤ q) (wm ad2 cy v2 ++ wl ad kv cy N c_5) := hD
  obtain ⟨hv, hpc⟩ := hw_5
  refine lv_pop hx hb dL_law_347 rfl ?_
  refine lv_aload_n hx hb dL_law_348 rfl (lv_at hl 1 rfl) ?_
  refine lv_aload_n hx hb dL_law_349 rfl (lv_at hl 3 rfl) ?_
  refine lv_iload_n hx hb dL_law_350 rfl (lv_at hl 0 rfl) ?_
  refine lv_iconst (v := 1) hx hb dL_law_351 (by decide) ?_
  refine lv_iadd hx hb dL_law_352 ?_
  refine lv_topi (fun x_6 ex_6 => ?_)
  obtain rfl : x_1 = x_6 := ex_1.trans ex_6.symm
  refine va_sld hx hb hX hbl hbA hS (vp_in_iff.mpr ⟨by omega, by omega⟩) dL_law_353 ?_
  refine lv_topi (fun x_7 ex_7 => ?_)
  obtain rfl : x_2 = x_7 := ex_2.trans ex_7.symm
  refine lv_aload_n hx hb dL_law_354 rfl (lv_at hl 3 rfl) ?_
  refine lv_iload_n hx hb dL_law_355 rfl (lv_at hl 0 rfl) ?_
  refine lv_iconst (v := 2) hx hb dL_law_356 (by decide) ?_
  refine lv_iadd hx hb dL_law_357 ?_
  refine lv_topi (fun x_8 ex_8 => ?_)
  obtain rfl : x_3 = x_8 := ex_3.trans ex_8.symm
  refine va_sld hx hb hX hbl hbA hS (vp_in_iff.mpr ⟨by omega, by omega⟩) dL_law_358 ?_
  refine lv_topi (fun x_9 ex_9 => ?_)
  obtain rfl : x_4 = x_9 := ex_4.trans ex_9.symm
  have hq0 := hq
  refine yl_i (X := wm ad2 cy v2) (Y := wl ad kv cy N c_5) (w1 := fun (u : Nat → Nat → Int32) => wm ad2 cy u) hP hD hS hA (va_runV (As := [.int x_2, .int x_4]) (rest := []) ⟨hx, hb, hml, hown, hts⟩ (e_X8_weight l dC dI cy _ ad2 v2 hq x_2 x_4) (cwV 2 hts gL_law_X8_weight rfl rfl rfl hd_V_X8_weight_2 ⟨Nat.le_of_ble_eq_true rfl, Nat.le_of_ble_eq_true rfl⟩) (yl_preV hE hK hP hD (ci := 8) (q := (RX8, TX8, 11)) (q0 := 0) rfl (wm_at (by decide) rc_0)) rfl rfl hl.1 rfl (lv_room (Nat.le_of_ble_eq_true rfl)) dL_law_359 hcs) (fun r_10 m_10 H locs hw_10 hP hD hS => ?_)
  have hP : va_P (dC, dI) vwCl (wl ad kv cy N c_5 ++ wm ad2 cy m_10) H := hP
  have hD : va_D (fun q : Nat => s.heap.size ≤ q) (wl ad kv cy N c_5 ++ wm ad2 cy m_10) := hD
  obtain ⟨hq, hpm⟩ := hw_10
  obtain ⟨hrr, hJ⟩ := S_weight hv0 hq0 hJ hpc hpm
  subst hrr
  refine lv_pop hx hb dL_law_362 rfl ?_
  refine lv_goto (tgt := 1060) hx hb dL_law_363 (by decide) ?_
  exact kk c_5 m_10 _ _ ls hv hq hJ hP hD hS hl

set_option maxHeartbeats 4000000 in
set_option maxRecDepth 100000 in
/-- the case of mark -/
theorem lc_6 {p : Program} {l : Launch} {e : Env} {s : State} {m : MethodId} {below : List Frame} {meth : Method} {c : Code} {dC : Nat → ClassId} {dI : Nat → Nat → Nat} {cy : Nat → ClassId} {b L : Nat} {xs : Nat → Int32} (C0 : lw_At p s m meth c b L xs) {t1 t2 : Nat} (hSt : ex_St t1 t2 (fun q : Nat => s.heap.size ≤ q) s) (hE : ex_K s) (hK : va_K (dC, dI) vwCl (ty_L cy) s) (hL : L ≤ 3584) {ad ad2 : Nat → Nat} {kv : Value} {N : Nat} (hN : 119 ≤ N) {v v2 : Nat → Nat → Int32} (hv : Iv v) (hq : Ir v2) {n : Int32} (hJ : RR3 n v v2) {i : Int32} (hi : 0 ≤ i.toInt ∧ i.toInt + 7 ≤ (L : Int)) {cells slots : Nat} (hcs : cells ≤ room_1.cells ∧ slots ≤ room_1.slots) {H : Heap} {locs : List Loc} (hP : va_P (dC, dI) vwCl (wl ad kv cy N v ++ wm ad2 cy v2) H) (hD : va_D (fun q : Nat => s.heap.size ≤ q) (wl ad kv cy N v ++ wm ad2 cy v2)) (hS : va_S (fun q : Nat => s.heap.size ≤ q) s.heap H locs) (ls : Array Slot) (hl : lv_has ls 4 [(3, .int i), (2, .ref (ad2 0)), (1, .ref (ad 0)), (0, .ref b)]) (kk : ∀ (v1 v3 : Nat → Nat → Int32) (H1 : Heap) (locs1 : List Loc) (ls1 : Array Slot), Iv v1 → Ir v3 → RR3 n v1 v3 → va_P (dC, dI) vwCl (wl ad kv cy N v1 ++ wm ad2 cy v3) H1 → va_D (fun q : Nat => s.heap.size ≤ q) (wl ad kv cy N v1 ++ wm ad2 cy v3) → va_S (fun q : Nat => s.heap.size ≤ q) s.heap H1 locs1 → lv_has ls1 4 [(3, .int i), (2, .ref (ad2 0)), (1, .ref (ad 0)), (0, .ref b)] → W p l e room_1 s m #[Value.ref b] below meth c H1 locs1 cells slots (lw_Z below #[Value.ref b] s) (F0 m 1060 ls1 [])) : W p l e room_1 s m #[Value.ref b] below meth c H locs cells slots (lw_Z below #[Value.ref b] s) (F0 m 366 ls []) := by
  obtain ⟨hx, hb, hr, hml, hown, hts0, hX, hbl, hlocks, hgv⟩ := id C0
  have hts : ∀ w ∈ wsL_law, w.before #[Value.ref b] s = true := fun w h => hts0 w (wsL_law_in w h)
  have hown : s.vm.findClass RL = some m.cls := hown
  have hA : ∀ q : Nat, s.heap.size ≤ q → (fun q : Nat => s.heap.size ≤ q) q := fun _ h => h
  have hbA : ¬ (fun q : Nat => s.heap.size ≤ q) b := Nat.not_le.mpr hbl
  refine lv_aload_n hx hb dL_law_366 rfl (lv_at hl 2 rfl) ?_
  refine lv_aload_n hx hb dL_law_367 rfl (lv_at hl 3 rfl) ?_
  refine lv_iload_n hx hb dL_law_368 rfl (lv_at hl 0 rfl) ?_
  refine lv_iconst (v := 1) hx hb dL_law_369 (by decide) ?_
  refine lv_iadd hx hb dL_law_370 ?_
  refine lv_topi (fun x_1 ex_1 => ?_)
  have k_1 : (1 : Int32).toInt = 1 := by decide
  have tx_1 : x_1.toInt = i.toInt + (1 : Int32).toInt := by rw [ex_1]; exact t_add ⟨by omega, by omega⟩
  refine va_sld hx hb hX hbl hbA hS (vp_in_iff.mpr ⟨by omega, by omega⟩) dL_law_371 ?_
  refine lv_topi (fun x_2 ex_2 => ?_)
  refine lv_aload_n hx hb dL_law_372 rfl (lv_at hl 3 rfl) ?_
  refine lv_iload_n hx hb dL_law_373 rfl (lv_at hl 0 rfl) ?_
  refine lv_iconst (v := 2) hx hb dL_law_374 (by decide) ?_
  refine lv_iadd hx hb dL_law_375 ?_
  refine lv_topi (fun x_3 ex_3 => ?_)
  have k_2 : (2 : Int32).toInt = 2 := by decide
  have tx_3 : x_3.toInt = i.toInt + (2 : Int32).toInt := by rw [ex_3]; exact t_add ⟨by omega, by omega⟩
  refine va_sld hx hb hX hbl hbA hS (vp_in_iff.mpr ⟨by omega, by omega⟩) dL_law_376 ?_
  refine lv_topi (fun x_4 ex_4 => ?_)
  have hv0 := hv
  refine yl_i (X := wl ad kv cy N v) (Y := wm ad2 cy v2) (w1 := fun (u : Nat → Nat → Int32) => wl ad kv cy N u) hP hD hS hA (va_runV (As := [.int x_2, .int x_4]) (rest := []) ⟨hx, hb, hml, hown, hts⟩ (e_X7_mark l dC dI cy _ ad kv N hN v hv x_2 x_4) (cwV 2 hts gL_law_X7_mark rfl rfl rfl hd_V_X7_mark_2 ⟨Nat.le_of_ble_eq_true rfl, Nat.le_of_ble_eq_true rfl⟩) (yl_preV hE hK hP hD (ci := 7) (q := (RX7, TX7, 5)) (q0 := 0) rfl (wl_at (by omega) (ce_0 (by decide)))) rfl rfl hl.1 rfl (lv_room (Nat.le_of_ble_eq_true rfl)) dL_law_377 hcs) (fun r_5 c_5 H locs hw_5 hP hD hS => ?_)
  have hP : va_P (dC, dI) vwCl (wm ad2 cy v2 ++ wl ad kv cy N c_5) H := hP
  have hD : va_D (fun q : Nat => s.heap.size ≤ q) (wm ad2 cy v2 ++ wl ad kv cy N c_5) := hD
  obtain ⟨hv, hpc⟩ := hw_5
  refine lv_pop hx hb dL_law_380 rfl ?_
  refine lv_aload_n hx hb dL_law_381 rfl (lv_at hl 1 rfl) ?_
  refine lv_aload_n hx hb dL_law_382 rfl (lv_at hl 3 rfl) ?_
  refine lv_iload_n hx hb dL_law_383 rfl (lv_at hl 0 rfl) ?_
  refine lv_iconst (v := 1) hx hb dL_law_384 (by decide) ?_
  refine lv_iadd hx hb dL_law_385 ?_
  refine lv_topi (fun x_6 ex_6 => ?_)
  obtain rfl : x_1 = x_6 := ex_1.trans ex_6.symm
  refine va_sld hx hb hX hbl hbA hS (vp_in_iff.mpr ⟨by omega, by omega⟩) dL_law_386 ?_
  refine lv_topi (fun x_7 ex_7 => ?_)
  obtain rfl : x_2 = x_7 := ex_2.trans ex_7.symm
  refine lv_aload_n hx hb dL_law_387 rfl (lv_at hl 3 rfl) ?_
  refine lv_iload_n hx hb dL_law_388 rfl (lv_at hl 0 rfl) ?_
  refine lv_iconst (v := 2) hx hb dL_law_389 (by decide) ?_
  refine lv_iadd hx hb dL_law_390 ?_
  refine lv_topi (fun x_8 ex_8 => ?_)
  obtain rfl : x_3 = x_8 := ex_3.trans ex_8.symm
  refine va_sld hx hb hX hbl hbA hS (vp_in_iff.mpr ⟨by omega, by omega⟩) dL_law_391 ?_
  refine lv_topi (fun x_9 ex_9 => ?_)
  obtain rfl : x_4 = x_9 := ex_4.trans ex_9.symm
  have hq0 := hq
  refine yl_i (X := wm ad2 cy v2) (Y := wl ad kv cy N c_5) (w1 := fun (u : Nat → Nat → Int32) => wm ad2 cy u) hP hD hS hA (va_runV (As := [.int x_2, .int x_4]) (rest := []) ⟨hx, hb, hml, hown, hts⟩ (e_X8_mark l dC dI cy _ ad2 v2 hq x_2 x_4) (cwV 2 hts gL_law_X8_mark rfl rfl rfl hd_V_X8_mark_2 ⟨Nat.le_of_ble_eq_true rfl, Nat.le_of_ble_eq_true rfl⟩) (yl_preV hE hK hP hD (ci := 8) (q := (RX8, TX8, 11)) (q0 := 0) rfl (wm_at (by decide) rc_0)) rfl rfl hl.1 rfl (lv_room (Nat.le_of_ble_eq_true rfl)) dL_law_392 hcs) (fun r_10 m_10 H locs hw_10 hP hD hS => ?_)
  have hP : va_P (dC, dI) vwCl (wl ad kv cy N c_5 ++ wm ad2 cy m_10) H := hP
  have hD : va_D (fun q : Nat => s.heap.size ≤ q) (wl ad kv cy N c_5 ++ wm ad2 cy m_10) := hD
  obtain ⟨hq, hpm⟩ := hw_10
  obtain ⟨hrr, hJ⟩ := S_mark hv0 hq0 hJ hpc hpm
  subst hrr
  refine lv_pop hx hb dL_law_395 rfl ?_
  refine lv_goto (tgt := 1060) hx hb dL_law_396 (by decide) ?_
  exact kk c_5 m_10 _ _ ls hv hq hJ hP hD hS hl

set_option maxHeartbeats 4000000 in
set_option maxRecDepth 100000 in
/-- the case of of -/
theorem lc_7 {p : Program} {l : Launch} {e : Env} {s : State} {m : MethodId} {below : List Frame} {meth : Method} {c : Code} {dC : Nat → ClassId} {dI : Nat → Nat → Nat} {cy : Nat → ClassId} {b L : Nat} {xs : Nat → Int32} (C0 : lw_At p s m meth c b L xs) {t1 t2 : Nat} (hSt : ex_St t1 t2 (fun q : Nat => s.heap.size ≤ q) s) (hE : ex_K s) (hK : va_K (dC, dI) vwCl (ty_L cy) s) (hL : L ≤ 3584) {ad ad2 : Nat → Nat} {kv : Value} {N : Nat} (hN : 119 ≤ N) {v v2 : Nat → Nat → Int32} (hv : Iv v) (hq : Ir v2) {n : Int32} (hJ : RR3 n v v2) {i : Int32} (hi : 0 ≤ i.toInt ∧ i.toInt + 7 ≤ (L : Int)) {cells slots : Nat} (hcs : cells ≤ room_1.cells ∧ slots ≤ room_1.slots) {H : Heap} {locs : List Loc} (hP : va_P (dC, dI) vwCl (wl ad kv cy N v ++ wm ad2 cy v2) H) (hD : va_D (fun q : Nat => s.heap.size ≤ q) (wl ad kv cy N v ++ wm ad2 cy v2)) (hS : va_S (fun q : Nat => s.heap.size ≤ q) s.heap H locs) (ls : Array Slot) (hl : lv_has ls 4 [(3, .int i), (2, .ref (ad2 0)), (1, .ref (ad 0)), (0, .ref b)]) (kk : ∀ (v1 v3 : Nat → Nat → Int32) (H1 : Heap) (locs1 : List Loc) (ls1 : Array Slot), Iv v1 → Ir v3 → RR3 n v1 v3 → va_P (dC, dI) vwCl (wl ad kv cy N v1 ++ wm ad2 cy v3) H1 → va_D (fun q : Nat => s.heap.size ≤ q) (wl ad kv cy N v1 ++ wm ad2 cy v3) → va_S (fun q : Nat => s.heap.size ≤ q) s.heap H1 locs1 → lv_has ls1 4 [(3, .int i), (2, .ref (ad2 0)), (1, .ref (ad 0)), (0, .ref b)] → W p l e room_1 s m #[Value.ref b] below meth c H1 locs1 cells slots (lw_Z below #[Value.ref b] s) (F0 m 1060 ls1 [])) : W p l e room_1 s m #[Value.ref b] below meth c H locs cells slots (lw_Z below #[Value.ref b] s) (F0 m 399 ls []) := by
  obtain ⟨hx, hb, hr, hml, hown, hts0, hX, hbl, hlocks, hgv⟩ := id C0
  have hts : ∀ w ∈ wsL_law, w.before #[Value.ref b] s = true := fun w h => hts0 w (wsL_law_in w h)
  have hown : s.vm.findClass RL = some m.cls := hown
  have hA : ∀ q : Nat, s.heap.size ≤ q → (fun q : Nat => s.heap.size ≤ q) q := fun _ h => h
  have hbA : ¬ (fun q : Nat => s.heap.size ≤ q) b := Nat.not_le.mpr hbl
  refine lv_aload_n hx hb dL_law_399 rfl (lv_at hl 2 rfl) ?_
  refine lv_aload_n hx hb dL_law_400 rfl (lv_at hl 3 rfl) ?_
  refine lv_iload_n hx hb dL_law_401 rfl (lv_at hl 0 rfl) ?_
  refine lv_iconst (v := 1) hx hb dL_law_402 (by decide) ?_
  refine lv_iadd hx hb dL_law_403 ?_
  refine lv_topi (fun x_1 ex_1 => ?_)
  have k_1 : (1 : Int32).toInt = 1 := by decide
  have tx_1 : x_1.toInt = i.toInt + (1 : Int32).toInt := by rw [ex_1]; exact t_add ⟨by omega, by omega⟩
  refine va_sld hx hb hX hbl hbA hS (vp_in_iff.mpr ⟨by omega, by omega⟩) dL_law_404 ?_
  refine lv_topi (fun x_2 ex_2 => ?_)
  refine lv_aload_n hx hb dL_law_405 rfl (lv_at hl 3 rfl) ?_
  refine lv_iload_n hx hb dL_law_406 rfl (lv_at hl 0 rfl) ?_
  refine lv_iconst (v := 2) hx hb dL_law_407 (by decide) ?_
  refine lv_iadd hx hb dL_law_408 ?_
  refine lv_topi (fun x_3 ex_3 => ?_)
  have k_2 : (2 : Int32).toInt = 2 := by decide
  have tx_3 : x_3.toInt = i.toInt + (2 : Int32).toInt := by rw [ex_3]; exact t_add ⟨by omega, by omega⟩
  refine va_sld hx hb hX hbl hbA hS (vp_in_iff.mpr ⟨by omega, by omega⟩) dL_law_409 ?_
  refine lv_topi (fun x_4 ex_4 => ?_)
  refine yl_i (X := wl ad kv cy N v) (Y := wm ad2 cy v2) (w1 := fun (u : Nat → Nat → Int32) => wl ad kv cy N u) hP hD hS hA (va_runV (As := [.int x_2, .int x_4]) (rest := []) ⟨hx, hb, hml, hown, hts⟩ (g_X7_of l dC dI cy _ ad kv N hN v hv x_2 x_4) (cwV 2 hts gL_law_X7_of rfl rfl rfl hd_V_X7_of_2 ⟨Nat.le_of_ble_eq_true rfl, Nat.le_of_ble_eq_true rfl⟩) (yl_preV hE hK hP hD (ci := 7) (q := (RX7, TX7, 5)) (q0 := 0) rfl (wl_at (by omega) (ce_0 (by decide)))) rfl rfl hl.1 rfl (lv_room (Nat.le_of_ble_eq_true rfl)) dL_law_410 hcs) (fun r_5 c_5 H locs hw_5 hP hD hS => ?_)
  have hP : va_P (dC, dI) vwCl (wm ad2 cy v2 ++ wl ad kv cy N c_5) H := hP
  have hD : va_D (fun q : Nat => s.heap.size ≤ q) (wm ad2 cy v2 ++ wl ad kv cy N c_5) := hD
  obtain ⟨hv, hf_c_5⟩ := hw_5
  refine lv_pop hx hb dL_law_413 rfl ?_
  refine lv_aload_n hx hb dL_law_414 rfl (lv_at hl 1 rfl) ?_
  refine lv_aload_n hx hb dL_law_415 rfl (lv_at hl 3 rfl) ?_
  refine lv_iload_n hx hb dL_law_416 rfl (lv_at hl 0 rfl) ?_
  refine lv_iconst (v := 1) hx hb dL_law_417 (by decide) ?_
  refine lv_iadd hx hb dL_law_418 ?_
  refine lv_topi (fun x_6 ex_6 => ?_)
  obtain rfl : x_1 = x_6 := ex_1.trans ex_6.symm
  refine va_sld hx hb hX hbl hbA hS (vp_in_iff.mpr ⟨by omega, by omega⟩) dL_law_419 ?_
  refine lv_topi (fun x_7 ex_7 => ?_)
  obtain rfl : x_2 = x_7 := ex_2.trans ex_7.symm
  refine lv_aload_n hx hb dL_law_420 rfl (lv_at hl 3 rfl) ?_
  refine lv_iload_n hx hb dL_law_421 rfl (lv_at hl 0 rfl) ?_
  refine lv_iconst (v := 2) hx hb dL_law_422 (by decide) ?_
  refine lv_iadd hx hb dL_law_423 ?_
  refine lv_topi (fun x_8 ex_8 => ?_)
  obtain rfl : x_3 = x_8 := ex_3.trans ex_8.symm
  refine va_sld hx hb hX hbl hbA hS (vp_in_iff.mpr ⟨by omega, by omega⟩) dL_law_424 ?_
  refine lv_topi (fun x_9 ex_9 => ?_)
  obtain rfl : x_4 = x_9 := ex_4.trans ex_9.symm
  refine yl_i (X := wm ad2 cy v2) (Y := wl ad kv cy N c_5) (w1 := fun (u : Nat → Nat → Int32) => wm ad2 cy u) hP hD hS hA (va_runV (As := [.int x_2, .int x_4]) (rest := []) ⟨hx, hb, hml, hown, hts⟩ (q_X8_of l dC dI cy _ ad2 v2 hq x_2 x_4) (cwV 2 hts gL_law_X8_of rfl rfl rfl hd_V_X8_of_2 ⟨Nat.le_of_ble_eq_true rfl, Nat.le_of_ble_eq_true rfl⟩) (yl_preV hE hK hP hD (ci := 8) (q := (RX8, TX8, 11)) (q0 := 0) rfl (wm_at (by decide) rc_0)) rfl rfl hl.1 rfl (lv_room (Nat.le_of_ble_eq_true rfl)) dL_law_425 hcs) (fun r_10 m_10 H locs hw_10 hP hD hS => ?_)
  have hP : va_P (dC, dI) vwCl (wl ad kv cy N c_5 ++ wm ad2 cy m_10) H := hP
  have hD : va_D (fun q : Nat => s.heap.size ≤ q) (wl ad kv cy N c_5 ++ wm ad2 cy m_10) := hD
  obtain ⟨hq, hf_m_10⟩ := hw_10
  have hJ := hJ.mv hf_c_5 hf_m_10
  refine lv_pop hx hb dL_law_428 rfl ?_
  refine lv_goto (tgt := 1060) hx hb dL_law_429 (by decide) ?_
  exact kk c_5 m_10 _ _ ls hv hq hJ hP hD hS hl

set_option maxHeartbeats 4000000 in
set_option maxRecDepth 100000 in
/-- the case of offer -/
theorem lc_8 {p : Program} {l : Launch} {e : Env} {s : State} {m : MethodId} {below : List Frame} {meth : Method} {c : Code} {dC : Nat → ClassId} {dI : Nat → Nat → Nat} {cy : Nat → ClassId} {b L : Nat} {xs : Nat → Int32} (C0 : lw_At p s m meth c b L xs) {t1 t2 : Nat} (hSt : ex_St t1 t2 (fun q : Nat => s.heap.size ≤ q) s) (hE : ex_K s) (hK : va_K (dC, dI) vwCl (ty_L cy) s) (hL : L ≤ 3584) {ad ad2 : Nat → Nat} {kv : Value} {N : Nat} (hN : 119 ≤ N) {v v2 : Nat → Nat → Int32} (hv : Iv v) (hq : Ir v2) {n : Int32} (hJ : RR3 n v v2) {i : Int32} (hi : 0 ≤ i.toInt ∧ i.toInt + 7 ≤ (L : Int)) {cells slots : Nat} (hcs : cells ≤ room_1.cells ∧ slots ≤ room_1.slots) {H : Heap} {locs : List Loc} (hP : va_P (dC, dI) vwCl (wl ad kv cy N v ++ wm ad2 cy v2) H) (hD : va_D (fun q : Nat => s.heap.size ≤ q) (wl ad kv cy N v ++ wm ad2 cy v2)) (hS : va_S (fun q : Nat => s.heap.size ≤ q) s.heap H locs) (ls : Array Slot) (hl : lv_has ls 4 [(3, .int i), (2, .ref (ad2 0)), (1, .ref (ad 0)), (0, .ref b)]) (kk : ∀ (v1 v3 : Nat → Nat → Int32) (H1 : Heap) (locs1 : List Loc) (ls1 : Array Slot), Iv v1 → Ir v3 → RR3 n v1 v3 → va_P (dC, dI) vwCl (wl ad kv cy N v1 ++ wm ad2 cy v3) H1 → va_D (fun q : Nat => s.heap.size ≤ q) (wl ad kv cy N v1 ++ wm ad2 cy v3) → va_S (fun q : Nat => s.heap.size ≤ q) s.heap H1 locs1 → lv_has ls1 4 [(3, .int i), (2, .ref (ad2 0)), (1, .ref (ad 0)), (0, .ref b)] → W p l e room_1 s m #[Value.ref b] below meth c H1 locs1 cells slots (lw_Z below #[Value.ref b] s) (F0 m 1060 ls1 [])) : W p l e room_1 s m #[Value.ref b] below meth c H locs cells slots (lw_Z below #[Value.ref b] s) (F0 m 432 ls []) := by
  obtain ⟨hx, hb, hr, hml, hown, hts0, hX, hbl, hlocks, hgv⟩ := id C0
  have hts : ∀ w ∈ wsL_law, w.before #[Value.ref b] s = true := fun w h => hts0 w (wsL_law_in w h)
  have hown : s.vm.findClass RL = some m.cls := hown
  have hA : ∀ q : Nat, s.heap.size ≤ q → (fun q : Nat => s.heap.size ≤ q) q := fun _ h => h
  have hbA : ¬ (fun q : Nat => s.heap.size ≤ q) b := Nat.not_le.mpr hbl
  refine lv_aload_n hx hb dL_law_432 rfl (lv_at hl 2 rfl) ?_
  refine lv_aload_n hx hb dL_law_433 rfl (lv_at hl 3 rfl) ?_
  refine lv_iload_n hx hb dL_law_434 rfl (lv_at hl 0 rfl) ?_
  refine lv_iconst (v := 1) hx hb dL_law_435 (by decide) ?_
  refine lv_iadd hx hb dL_law_436 ?_
  refine lv_topi (fun x_1 ex_1 => ?_)
  have k_1 : (1 : Int32).toInt = 1 := by decide
  have tx_1 : x_1.toInt = i.toInt + (1 : Int32).toInt := by rw [ex_1]; exact t_add ⟨by omega, by omega⟩
  refine va_sld hx hb hX hbl hbA hS (vp_in_iff.mpr ⟨by omega, by omega⟩) dL_law_437 ?_
  refine lv_topi (fun x_2 ex_2 => ?_)
  refine lv_aload_n hx hb dL_law_438 rfl (lv_at hl 3 rfl) ?_
  refine lv_iload_n hx hb dL_law_439 rfl (lv_at hl 0 rfl) ?_
  refine lv_iconst (v := 2) hx hb dL_law_440 (by decide) ?_
  refine lv_iadd hx hb dL_law_441 ?_
  refine lv_topi (fun x_3 ex_3 => ?_)
  have k_2 : (2 : Int32).toInt = 2 := by decide
  have tx_3 : x_3.toInt = i.toInt + (2 : Int32).toInt := by rw [ex_3]; exact t_add ⟨by omega, by omega⟩
  refine va_sld hx hb hX hbl hbA hS (vp_in_iff.mpr ⟨by omega, by omega⟩) dL_law_442 ?_
  refine lv_topi (fun x_4 ex_4 => ?_)
  refine lv_aload_n hx hb dL_law_443 rfl (lv_at hl 3 rfl) ?_
  refine lv_iload_n hx hb dL_law_444 rfl (lv_at hl 0 rfl) ?_
  refine lv_iconst (v := 3) hx hb dL_law_445 (by decide) ?_
  refine lv_iadd hx hb dL_law_446 ?_
  refine lv_topi (fun x_5 ex_5 => ?_)
  have k_3 : (3 : Int32).toInt = 3 := by decide
  have tx_5 : x_5.toInt = i.toInt + (3 : Int32).toInt := by rw [ex_5]; exact t_add ⟨by omega, by omega⟩
  refine va_sld hx hb hX hbl hbA hS (vp_in_iff.mpr ⟨by omega, by omega⟩) dL_law_447 ?_
  refine lv_topi (fun x_6 ex_6 => ?_)
  rcases side3 x_4 with rfl | rfl | hs
  · have k_0 : (0 : Int32).toInt = 0 := by decide
    have hv0 := hv
    refine yl_i (X := wl ad kv cy N v) (Y := wm ad2 cy v2) (w1 := fun (u : Nat → Nat → Int32) => wl ad kv cy N u) hP hD hS hA (va_runV (As := [.int x_2, .int 0, .int x_6]) (rest := []) ⟨hx, hb, hml, hown, hts⟩ (e_X7_offer_0 l dC dI cy _ ad kv N hN v hv x_2 x_6) (cwV 3 hts gL_law_X7_offer rfl rfl rfl hd_V_X7_offer_3 ⟨Nat.le_of_ble_eq_true rfl, Nat.le_of_ble_eq_true rfl⟩) (yl_preV hE hK hP hD (ci := 7) (q := (RX7, TX7, 5)) (q0 := 0) rfl (wl_at (by omega) (ce_0 (by decide)))) rfl rfl hl.1 rfl (lv_room (Nat.le_of_ble_eq_true rfl)) dL_law_448 hcs) (fun r_7 c_7 H locs hw_7 hP hD hS => ?_)
    have hP : va_P (dC, dI) vwCl (wm ad2 cy v2 ++ wl ad kv cy N c_7) H := hP
    have hD : va_D (fun q : Nat => s.heap.size ≤ q) (wm ad2 cy v2 ++ wl ad kv cy N c_7) := hD
    obtain ⟨hv, hpc⟩ := hw_7
    refine lv_pop hx hb dL_law_451 rfl ?_
    refine lv_aload_n hx hb dL_law_452 rfl (lv_at hl 1 rfl) ?_
    refine lv_aload_n hx hb dL_law_453 rfl (lv_at hl 3 rfl) ?_
    refine lv_iload_n hx hb dL_law_454 rfl (lv_at hl 0 rfl) ?_
    refine lv_iconst (v := 1) hx hb dL_law_455 (by decide) ?_
    refine lv_iadd hx hb dL_law_456 ?_
    refine lv_topi (fun x_8 ex_8 => ?_)
    obtain rfl : x_1 = x_8 := ex_1.trans ex_8.symm
    refine va_sld hx hb hX hbl hbA hS (vp_in_iff.mpr ⟨by omega, by omega⟩) dL_law_457 ?_
    refine lv_topi (fun x_9 ex_9 => ?_)
    obtain rfl : x_2 = x_9 := ex_2.trans ex_9.symm
    refine lv_aload_n hx hb dL_law_458 rfl (lv_at hl 3 rfl) ?_
    refine lv_iload_n hx hb dL_law_459 rfl (lv_at hl 0 rfl) ?_
    refine lv_iconst (v := 2) hx hb dL_law_460 (by decide) ?_
    refine lv_iadd hx hb dL_law_461 ?_
    refine lv_topi (fun x_10 ex_10 => ?_)
    obtain rfl : x_3 = x_10 := ex_3.trans ex_10.symm
    refine va_sld hx hb hX hbl hbA hS (vp_in_iff.mpr ⟨by omega, by omega⟩) dL_law_462 ?_
    refine lv_topi (fun x_11 ex_11 => ?_)
    obtain rfl : x_11 = 0 := ex_11.trans ex_4.symm
    refine lv_aload_n hx hb dL_law_463 rfl (lv_at hl 3 rfl) ?_
    refine lv_iload_n hx hb dL_law_464 rfl (lv_at hl 0 rfl) ?_
    refine lv_iconst (v := 3) hx hb dL_law_465 (by decide) ?_
    refine lv_iadd hx hb dL_law_466 ?_
    refine lv_topi (fun x_12 ex_12 => ?_)
    obtain rfl : x_5 = x_12 := ex_5.trans ex_12.symm
    refine va_sld hx hb hX hbl hbA hS (vp_in_iff.mpr ⟨by omega, by omega⟩) dL_law_467 ?_
    refine lv_topi (fun x_13 ex_13 => ?_)
    obtain rfl : x_6 = x_13 := ex_6.trans ex_13.symm
    have hq0 := hq
    refine yl_i (X := wm ad2 cy v2) (Y := wl ad kv cy N c_7) (w1 := fun (u : Nat → Nat → Int32) => wm ad2 cy u) hP hD hS hA (va_runV (As := [.int x_2, .int 0, .int x_6]) (rest := []) ⟨hx, hb, hml, hown, hts⟩ (e_X8_offer_0 l dC dI cy _ ad2 v2 hq x_2 x_6) (cwV 3 hts gL_law_X8_offer rfl rfl rfl hd_V_X8_offer_3 ⟨Nat.le_of_ble_eq_true rfl, Nat.le_of_ble_eq_true rfl⟩) (yl_preV hE hK hP hD (ci := 8) (q := (RX8, TX8, 11)) (q0 := 0) rfl (wm_at (by decide) rc_0)) rfl rfl hl.1 rfl (lv_room (Nat.le_of_ble_eq_true rfl)) dL_law_468 hcs) (fun r_14 m_14 H locs hw_14 hP hD hS => ?_)
    have hP : va_P (dC, dI) vwCl (wl ad kv cy N c_7 ++ wm ad2 cy m_14) H := hP
    have hD : va_D (fun q : Nat => s.heap.size ≤ q) (wl ad kv cy N c_7 ++ wm ad2 cy m_14) := hD
    obtain ⟨hq, hpm⟩ := hw_14
    obtain ⟨hrr, hJ⟩ := S_offer_0 hv0 hq0 hJ hpc hpm
    subst hrr
    refine lv_pop hx hb dL_law_471 rfl ?_
    refine lv_goto (tgt := 1060) hx hb dL_law_472 (by decide) ?_
    exact kk c_7 m_14 _ _ ls hv hq hJ hP hD hS hl
  · have hv0 := hv
    refine yl_i (X := wl ad kv cy N v) (Y := wm ad2 cy v2) (w1 := fun (u : Nat → Nat → Int32) => wl ad kv cy N u) hP hD hS hA (va_runV (As := [.int x_2, .int 1, .int x_6]) (rest := []) ⟨hx, hb, hml, hown, hts⟩ (e_X7_offer_1 l dC dI cy _ ad kv N hN v hv x_2 x_6) (cwV 3 hts gL_law_X7_offer rfl rfl rfl hd_V_X7_offer_3 ⟨Nat.le_of_ble_eq_true rfl, Nat.le_of_ble_eq_true rfl⟩) (yl_preV hE hK hP hD (ci := 7) (q := (RX7, TX7, 5)) (q0 := 0) rfl (wl_at (by omega) (ce_0 (by decide)))) rfl rfl hl.1 rfl (lv_room (Nat.le_of_ble_eq_true rfl)) dL_law_448 hcs) (fun r_7 c_7 H locs hw_7 hP hD hS => ?_)
    have hP : va_P (dC, dI) vwCl (wm ad2 cy v2 ++ wl ad kv cy N c_7) H := hP
    have hD : va_D (fun q : Nat => s.heap.size ≤ q) (wm ad2 cy v2 ++ wl ad kv cy N c_7) := hD
    obtain ⟨hv, hpc⟩ := hw_7
    refine lv_pop hx hb dL_law_451 rfl ?_
    refine lv_aload_n hx hb dL_law_452 rfl (lv_at hl 1 rfl) ?_
    refine lv_aload_n hx hb dL_law_453 rfl (lv_at hl 3 rfl) ?_
    refine lv_iload_n hx hb dL_law_454 rfl (lv_at hl 0 rfl) ?_
    refine lv_iconst (v := 1) hx hb dL_law_455 (by decide) ?_
    refine lv_iadd hx hb dL_law_456 ?_
    refine lv_topi (fun x_8 ex_8 => ?_)
    obtain rfl : x_1 = x_8 := ex_1.trans ex_8.symm
    refine va_sld hx hb hX hbl hbA hS (vp_in_iff.mpr ⟨by omega, by omega⟩) dL_law_457 ?_
    refine lv_topi (fun x_9 ex_9 => ?_)
    obtain rfl : x_2 = x_9 := ex_2.trans ex_9.symm
    refine lv_aload_n hx hb dL_law_458 rfl (lv_at hl 3 rfl) ?_
    refine lv_iload_n hx hb dL_law_459 rfl (lv_at hl 0 rfl) ?_
    refine lv_iconst (v := 2) hx hb dL_law_460 (by decide) ?_
    refine lv_iadd hx hb dL_law_461 ?_
    refine lv_topi (fun x_10 ex_10 => ?_)
    obtain rfl : x_3 = x_10 := ex_3.trans ex_10.symm
    refine va_sld hx hb hX hbl hbA hS (vp_in_iff.mpr ⟨by omega, by omega⟩) dL_law_462 ?_
    refine lv_topi (fun x_11 ex_11 => ?_)
    obtain rfl : x_11 = 1 := ex_11.trans ex_4.symm
    refine lv_aload_n hx hb dL_law_463 rfl (lv_at hl 3 rfl) ?_
    refine lv_iload_n hx hb dL_law_464 rfl (lv_at hl 0 rfl) ?_
    refine lv_iconst (v := 3) hx hb dL_law_465 (by decide) ?_
    refine lv_iadd hx hb dL_law_466 ?_
    refine lv_topi (fun x_12 ex_12 => ?_)
    obtain rfl : x_5 = x_12 := ex_5.trans ex_12.symm
    refine va_sld hx hb hX hbl hbA hS (vp_in_iff.mpr ⟨by omega, by omega⟩) dL_law_467 ?_
    refine lv_topi (fun x_13 ex_13 => ?_)
    obtain rfl : x_6 = x_13 := ex_6.trans ex_13.symm
    have hq0 := hq
    refine yl_i (X := wm ad2 cy v2) (Y := wl ad kv cy N c_7) (w1 := fun (u : Nat → Nat → Int32) => wm ad2 cy u) hP hD hS hA (va_runV (As := [.int x_2, .int 1, .int x_6]) (rest := []) ⟨hx, hb, hml, hown, hts⟩ (e_X8_offer_1 l dC dI cy _ ad2 v2 hq x_2 x_6) (cwV 3 hts gL_law_X8_offer rfl rfl rfl hd_V_X8_offer_3 ⟨Nat.le_of_ble_eq_true rfl, Nat.le_of_ble_eq_true rfl⟩) (yl_preV hE hK hP hD (ci := 8) (q := (RX8, TX8, 11)) (q0 := 0) rfl (wm_at (by decide) rc_0)) rfl rfl hl.1 rfl (lv_room (Nat.le_of_ble_eq_true rfl)) dL_law_468 hcs) (fun r_14 m_14 H locs hw_14 hP hD hS => ?_)
    have hP : va_P (dC, dI) vwCl (wl ad kv cy N c_7 ++ wm ad2 cy m_14) H := hP
    have hD : va_D (fun q : Nat => s.heap.size ≤ q) (wl ad kv cy N c_7 ++ wm ad2 cy m_14) := hD
    obtain ⟨hq, hpm⟩ := hw_14
    obtain ⟨hrr, hJ⟩ := S_offer_1 hv0 hq0 hJ hpc hpm
    subst hrr
    refine lv_pop hx hb dL_law_471 rfl ?_
    refine lv_goto (tgt := 1060) hx hb dL_law_472 (by decide) ?_
    exact kk c_7 m_14 _ _ ls hv hq hJ hP hD hS hl
  · have hv0 := hv
    refine yl_i (X := wl ad kv cy N v) (Y := wm ad2 cy v2) (w1 := fun (u : Nat → Nat → Int32) => wl ad kv cy N u) hP hD hS hA (va_runV (As := [.int x_2, .int x_4, .int x_6]) (rest := []) ⟨hx, hb, hml, hown, hts⟩ (e_X7_offer_o l dC dI cy _ ad kv N hN v hv x_2 x_4 x_6 hs) (cwV 3 hts gL_law_X7_offer rfl rfl rfl hd_V_X7_offer_3 ⟨Nat.le_of_ble_eq_true rfl, Nat.le_of_ble_eq_true rfl⟩) (yl_preV hE hK hP hD (ci := 7) (q := (RX7, TX7, 5)) (q0 := 0) rfl (wl_at (by omega) (ce_0 (by decide)))) rfl rfl hl.1 rfl (lv_room (Nat.le_of_ble_eq_true rfl)) dL_law_448 hcs) (fun r_7 c_7 H locs hw_7 hP hD hS => ?_)
    have hP : va_P (dC, dI) vwCl (wm ad2 cy v2 ++ wl ad kv cy N c_7) H := hP
    have hD : va_D (fun q : Nat => s.heap.size ≤ q) (wm ad2 cy v2 ++ wl ad kv cy N c_7) := hD
    obtain ⟨hv, hpc⟩ := hw_7
    refine lv_pop hx hb dL_law_451 rfl ?_
    refine lv_aload_n hx hb dL_law_452 rfl (lv_at hl 1 rfl) ?_
    refine lv_aload_n hx hb dL_law_453 rfl (lv_at hl 3 rfl) ?_
    refine lv_iload_n hx hb dL_law_454 rfl (lv_at hl 0 rfl) ?_
    refine lv_iconst (v := 1) hx hb dL_law_455 (by decide) ?_
    refine lv_iadd hx hb dL_law_456 ?_
    refine lv_topi (fun x_8 ex_8 => ?_)
    obtain rfl : x_1 = x_8 := ex_1.trans ex_8.symm
    refine va_sld hx hb hX hbl hbA hS (vp_in_iff.mpr ⟨by omega, by omega⟩) dL_law_457 ?_
    refine lv_topi (fun x_9 ex_9 => ?_)
    obtain rfl : x_2 = x_9 := ex_2.trans ex_9.symm
    refine lv_aload_n hx hb dL_law_458 rfl (lv_at hl 3 rfl) ?_
    refine lv_iload_n hx hb dL_law_459 rfl (lv_at hl 0 rfl) ?_
    refine lv_iconst (v := 2) hx hb dL_law_460 (by decide) ?_
    refine lv_iadd hx hb dL_law_461 ?_
    refine lv_topi (fun x_10 ex_10 => ?_)
    obtain rfl : x_3 = x_10 := ex_3.trans ex_10.symm
    refine va_sld hx hb hX hbl hbA hS (vp_in_iff.mpr ⟨by omega, by omega⟩) dL_law_462 ?_
    refine lv_topi (fun x_11 ex_11 => ?_)
    obtain rfl : x_4 = x_11 := ex_4.trans ex_11.symm
    refine lv_aload_n hx hb dL_law_463 rfl (lv_at hl 3 rfl) ?_
    refine lv_iload_n hx hb dL_law_464 rfl (lv_at hl 0 rfl) ?_
    refine lv_iconst (v := 3) hx hb dL_law_465 (by decide) ?_
    refine lv_iadd hx hb dL_law_466 ?_
    refine lv_topi (fun x_12 ex_12 => ?_)
    obtain rfl : x_5 = x_12 := ex_5.trans ex_12.symm
    refine va_sld hx hb hX hbl hbA hS (vp_in_iff.mpr ⟨by omega, by omega⟩) dL_law_467 ?_
    refine lv_topi (fun x_13 ex_13 => ?_)
    obtain rfl : x_6 = x_13 := ex_6.trans ex_13.symm
    have hq0 := hq
    refine yl_i (X := wm ad2 cy v2) (Y := wl ad kv cy N c_7) (w1 := fun (u : Nat → Nat → Int32) => wm ad2 cy u) hP hD hS hA (va_runV (As := [.int x_2, .int x_4, .int x_6]) (rest := []) ⟨hx, hb, hml, hown, hts⟩ (e_X8_offer_o l dC dI cy _ ad2 v2 hq x_2 x_4 x_6 hs) (cwV 3 hts gL_law_X8_offer rfl rfl rfl hd_V_X8_offer_3 ⟨Nat.le_of_ble_eq_true rfl, Nat.le_of_ble_eq_true rfl⟩) (yl_preV hE hK hP hD (ci := 8) (q := (RX8, TX8, 11)) (q0 := 0) rfl (wm_at (by decide) rc_0)) rfl rfl hl.1 rfl (lv_room (Nat.le_of_ble_eq_true rfl)) dL_law_468 hcs) (fun r_14 m_14 H locs hw_14 hP hD hS => ?_)
    have hP : va_P (dC, dI) vwCl (wl ad kv cy N c_7 ++ wm ad2 cy m_14) H := hP
    have hD : va_D (fun q : Nat => s.heap.size ≤ q) (wl ad kv cy N c_7 ++ wm ad2 cy m_14) := hD
    obtain ⟨hq, hpm⟩ := hw_14
    obtain ⟨hr1, hc1⟩ := hpc
    obtain ⟨hr2, hc2⟩ := hpm
    subst hr1
    subst hr2
    rw [← hc1, ← hc2] at hJ
    refine lv_pop hx hb dL_law_471 rfl ?_
    refine lv_goto (tgt := 1060) hx hb dL_law_472 (by decide) ?_
    exact kk c_7 m_14 _ _ ls hv hq hJ hP hD hS hl

set_option maxHeartbeats 4000000 in
set_option maxRecDepth 100000 in
/-- the case of put -/
theorem lc_9 {p : Program} {l : Launch} {e : Env} {s : State} {m : MethodId} {below : List Frame} {meth : Method} {c : Code} {dC : Nat → ClassId} {dI : Nat → Nat → Nat} {cy : Nat → ClassId} {b L : Nat} {xs : Nat → Int32} (C0 : lw_At p s m meth c b L xs) {t1 t2 : Nat} (hSt : ex_St t1 t2 (fun q : Nat => s.heap.size ≤ q) s) (hE : ex_K s) (hK : va_K (dC, dI) vwCl (ty_L cy) s) (hL : L ≤ 3584) {ad ad2 : Nat → Nat} {kv : Value} {N : Nat} (hN : 119 ≤ N) {v v2 : Nat → Nat → Int32} (hv : Iv v) (hq : Ir v2) {n : Int32} (hJ : RR3 n v v2) {i : Int32} (hi : 0 ≤ i.toInt ∧ i.toInt + 7 ≤ (L : Int)) {cells slots : Nat} (hcs : cells ≤ room_1.cells ∧ slots ≤ room_1.slots) {H : Heap} {locs : List Loc} (hP : va_P (dC, dI) vwCl (wl ad kv cy N v ++ wm ad2 cy v2) H) (hD : va_D (fun q : Nat => s.heap.size ≤ q) (wl ad kv cy N v ++ wm ad2 cy v2)) (hS : va_S (fun q : Nat => s.heap.size ≤ q) s.heap H locs) (ls : Array Slot) (hl : lv_has ls 4 [(3, .int i), (2, .ref (ad2 0)), (1, .ref (ad 0)), (0, .ref b)]) (kk : ∀ (v1 v3 : Nat → Nat → Int32) (H1 : Heap) (locs1 : List Loc) (ls1 : Array Slot), Iv v1 → Ir v3 → RR3 n v1 v3 → va_P (dC, dI) vwCl (wl ad kv cy N v1 ++ wm ad2 cy v3) H1 → va_D (fun q : Nat => s.heap.size ≤ q) (wl ad kv cy N v1 ++ wm ad2 cy v3) → va_S (fun q : Nat => s.heap.size ≤ q) s.heap H1 locs1 → lv_has ls1 4 [(3, .int i), (2, .ref (ad2 0)), (1, .ref (ad 0)), (0, .ref b)] → W p l e room_1 s m #[Value.ref b] below meth c H1 locs1 cells slots (lw_Z below #[Value.ref b] s) (F0 m 1060 ls1 [])) : W p l e room_1 s m #[Value.ref b] below meth c H locs cells slots (lw_Z below #[Value.ref b] s) (F0 m 475 ls []) := by
  obtain ⟨hx, hb, hr, hml, hown, hts0, hX, hbl, hlocks, hgv⟩ := id C0
  have hts : ∀ w ∈ wsL_law, w.before #[Value.ref b] s = true := fun w h => hts0 w (wsL_law_in w h)
  have hown : s.vm.findClass RL = some m.cls := hown
  have hA : ∀ q : Nat, s.heap.size ≤ q → (fun q : Nat => s.heap.size ≤ q) q := fun _ h => h
  have hbA : ¬ (fun q : Nat => s.heap.size ≤ q) b := Nat.not_le.mpr hbl
  refine lv_aload_n hx hb dL_law_475 rfl (lv_at hl 2 rfl) ?_
  refine lv_aload_n hx hb dL_law_476 rfl (lv_at hl 3 rfl) ?_
  refine lv_iload_n hx hb dL_law_477 rfl (lv_at hl 0 rfl) ?_
  refine lv_iconst (v := 1) hx hb dL_law_478 (by decide) ?_
  refine lv_iadd hx hb dL_law_479 ?_
  refine lv_topi (fun x_1 ex_1 => ?_)
  have k_1 : (1 : Int32).toInt = 1 := by decide
  have tx_1 : x_1.toInt = i.toInt + (1 : Int32).toInt := by rw [ex_1]; exact t_add ⟨by omega, by omega⟩
  refine va_sld hx hb hX hbl hbA hS (vp_in_iff.mpr ⟨by omega, by omega⟩) dL_law_480 ?_
  refine lv_topi (fun x_2 ex_2 => ?_)
  refine lv_aload_n hx hb dL_law_481 rfl (lv_at hl 3 rfl) ?_
  refine lv_iload_n hx hb dL_law_482 rfl (lv_at hl 0 rfl) ?_
  refine lv_iconst (v := 2) hx hb dL_law_483 (by decide) ?_
  refine lv_iadd hx hb dL_law_484 ?_
  refine lv_topi (fun x_3 ex_3 => ?_)
  have k_2 : (2 : Int32).toInt = 2 := by decide
  have tx_3 : x_3.toInt = i.toInt + (2 : Int32).toInt := by rw [ex_3]; exact t_add ⟨by omega, by omega⟩
  refine va_sld hx hb hX hbl hbA hS (vp_in_iff.mpr ⟨by omega, by omega⟩) dL_law_485 ?_
  refine lv_topi (fun x_4 ex_4 => ?_)
  refine yl_i (X := wl ad kv cy N v) (Y := wm ad2 cy v2) (w1 := fun (u : Nat → Nat → Int32) => wl ad kv cy N u) hP hD hS hA (va_runV (As := [.int x_2, .int x_4]) (rest := []) ⟨hx, hb, hml, hown, hts⟩ (g_X7_put l dC dI cy _ ad kv N hN v hv x_2 x_4) (cwV 2 hts gL_law_X7_put rfl rfl rfl hd_V_X7_put_2 ⟨Nat.le_of_ble_eq_true rfl, Nat.le_of_ble_eq_true rfl⟩) (yl_preV hE hK hP hD (ci := 7) (q := (RX7, TX7, 5)) (q0 := 0) rfl (wl_at (by omega) (ce_0 (by decide)))) rfl rfl hl.1 rfl (lv_room (Nat.le_of_ble_eq_true rfl)) dL_law_486 hcs) (fun r_5 c_5 H locs hw_5 hP hD hS => ?_)
  have hP : va_P (dC, dI) vwCl (wm ad2 cy v2 ++ wl ad kv cy N c_5) H := hP
  have hD : va_D (fun q : Nat => s.heap.size ≤ q) (wm ad2 cy v2 ++ wl ad kv cy N c_5) := hD
  obtain ⟨hv, hf_c_5⟩ := hw_5
  refine lv_pop hx hb dL_law_489 rfl ?_
  refine lv_aload_n hx hb dL_law_490 rfl (lv_at hl 1 rfl) ?_
  refine lv_aload_n hx hb dL_law_491 rfl (lv_at hl 3 rfl) ?_
  refine lv_iload_n hx hb dL_law_492 rfl (lv_at hl 0 rfl) ?_
  refine lv_iconst (v := 1) hx hb dL_law_493 (by decide) ?_
  refine lv_iadd hx hb dL_law_494 ?_
  refine lv_topi (fun x_6 ex_6 => ?_)
  obtain rfl : x_1 = x_6 := ex_1.trans ex_6.symm
  refine va_sld hx hb hX hbl hbA hS (vp_in_iff.mpr ⟨by omega, by omega⟩) dL_law_495 ?_
  refine lv_topi (fun x_7 ex_7 => ?_)
  obtain rfl : x_2 = x_7 := ex_2.trans ex_7.symm
  refine lv_aload_n hx hb dL_law_496 rfl (lv_at hl 3 rfl) ?_
  refine lv_iload_n hx hb dL_law_497 rfl (lv_at hl 0 rfl) ?_
  refine lv_iconst (v := 2) hx hb dL_law_498 (by decide) ?_
  refine lv_iadd hx hb dL_law_499 ?_
  refine lv_topi (fun x_8 ex_8 => ?_)
  obtain rfl : x_3 = x_8 := ex_3.trans ex_8.symm
  refine va_sld hx hb hX hbl hbA hS (vp_in_iff.mpr ⟨by omega, by omega⟩) dL_law_500 ?_
  refine lv_topi (fun x_9 ex_9 => ?_)
  obtain rfl : x_4 = x_9 := ex_4.trans ex_9.symm
  refine yl_i (X := wm ad2 cy v2) (Y := wl ad kv cy N c_5) (w1 := fun (u : Nat → Nat → Int32) => wm ad2 cy u) hP hD hS hA (va_runV (As := [.int x_2, .int x_4]) (rest := []) ⟨hx, hb, hml, hown, hts⟩ (q_X8_put l dC dI cy _ ad2 v2 hq x_2 x_4) (cwV 2 hts gL_law_X8_put rfl rfl rfl hd_V_X8_put_2 ⟨Nat.le_of_ble_eq_true rfl, Nat.le_of_ble_eq_true rfl⟩) (yl_preV hE hK hP hD (ci := 8) (q := (RX8, TX8, 11)) (q0 := 0) rfl (wm_at (by decide) rc_0)) rfl rfl hl.1 rfl (lv_room (Nat.le_of_ble_eq_true rfl)) dL_law_501 hcs) (fun r_10 m_10 H locs hw_10 hP hD hS => ?_)
  have hP : va_P (dC, dI) vwCl (wl ad kv cy N c_5 ++ wm ad2 cy m_10) H := hP
  have hD : va_D (fun q : Nat => s.heap.size ≤ q) (wl ad kv cy N c_5 ++ wm ad2 cy m_10) := hD
  obtain ⟨hq, hf_m_10⟩ := hw_10
  have hJ := hJ.mv hf_c_5 (Fq_e hf_m_10)
  refine lv_pop hx hb dL_law_504 rfl ?_
  refine lv_goto (tgt := 1060) hx hb dL_law_505 (by decide) ?_
  exact kk c_5 m_10 _ _ ls hv hq hJ hP hD hS hl

set_option maxHeartbeats 4000000 in
set_option maxRecDepth 100000 in
/-- the case of learns -/
theorem lc_10 {p : Program} {l : Launch} {e : Env} {s : State} {m : MethodId} {below : List Frame} {meth : Method} {c : Code} {dC : Nat → ClassId} {dI : Nat → Nat → Nat} {cy : Nat → ClassId} {b L : Nat} {xs : Nat → Int32} (C0 : lw_At p s m meth c b L xs) {t1 t2 : Nat} (hSt : ex_St t1 t2 (fun q : Nat => s.heap.size ≤ q) s) (hE : ex_K s) (hK : va_K (dC, dI) vwCl (ty_L cy) s) (hL : L ≤ 3584) {ad ad2 : Nat → Nat} {kv : Value} {N : Nat} (hN : 119 ≤ N) {v v2 : Nat → Nat → Int32} (hv : Iv v) (hq : Ir v2) {n : Int32} (hJ : RR3 n v v2) {i : Int32} (hi : 0 ≤ i.toInt ∧ i.toInt + 7 ≤ (L : Int)) {cells slots : Nat} (hcs : cells ≤ room_1.cells ∧ slots ≤ room_1.slots) {H : Heap} {locs : List Loc} (hP : va_P (dC, dI) vwCl (wl ad kv cy N v ++ wm ad2 cy v2) H) (hD : va_D (fun q : Nat => s.heap.size ≤ q) (wl ad kv cy N v ++ wm ad2 cy v2)) (hS : va_S (fun q : Nat => s.heap.size ≤ q) s.heap H locs) (ls : Array Slot) (hl : lv_has ls 4 [(3, .int i), (2, .ref (ad2 0)), (1, .ref (ad 0)), (0, .ref b)]) (kk : ∀ (v1 v3 : Nat → Nat → Int32) (H1 : Heap) (locs1 : List Loc) (ls1 : Array Slot), Iv v1 → Ir v3 → RR3 n v1 v3 → va_P (dC, dI) vwCl (wl ad kv cy N v1 ++ wm ad2 cy v3) H1 → va_D (fun q : Nat => s.heap.size ≤ q) (wl ad kv cy N v1 ++ wm ad2 cy v3) → va_S (fun q : Nat => s.heap.size ≤ q) s.heap H1 locs1 → lv_has ls1 4 [(3, .int i), (2, .ref (ad2 0)), (1, .ref (ad 0)), (0, .ref b)] → W p l e room_1 s m #[Value.ref b] below meth c H1 locs1 cells slots (lw_Z below #[Value.ref b] s) (F0 m 1060 ls1 [])) : W p l e room_1 s m #[Value.ref b] below meth c H locs cells slots (lw_Z below #[Value.ref b] s) (F0 m 508 ls []) := by
  obtain ⟨hx, hb, hr, hml, hown, hts0, hX, hbl, hlocks, hgv⟩ := id C0
  have hts : ∀ w ∈ wsL_law, w.before #[Value.ref b] s = true := fun w h => hts0 w (wsL_law_in w h)
  have hown : s.vm.findClass RL = some m.cls := hown
  have hA : ∀ q : Nat, s.heap.size ≤ q → (fun q : Nat => s.heap.size ≤ q) q := fun _ h => h
  have hbA : ¬ (fun q : Nat => s.heap.size ≤ q) b := Nat.not_le.mpr hbl
  refine lv_aload_n hx hb dL_law_508 rfl (lv_at hl 2 rfl) ?_
  refine lv_aload_n hx hb dL_law_509 rfl (lv_at hl 3 rfl) ?_
  refine lv_iload_n hx hb dL_law_510 rfl (lv_at hl 0 rfl) ?_
  refine lv_iconst (v := 1) hx hb dL_law_511 (by decide) ?_
  refine lv_iadd hx hb dL_law_512 ?_
  refine lv_topi (fun x_1 ex_1 => ?_)
  have k_1 : (1 : Int32).toInt = 1 := by decide
  have tx_1 : x_1.toInt = i.toInt + (1 : Int32).toInt := by rw [ex_1]; exact t_add ⟨by omega, by omega⟩
  refine va_sld hx hb hX hbl hbA hS (vp_in_iff.mpr ⟨by omega, by omega⟩) dL_law_513 ?_
  refine lv_topi (fun x_2 ex_2 => ?_)
  refine lv_aload_n hx hb dL_law_514 rfl (lv_at hl 3 rfl) ?_
  refine lv_iload_n hx hb dL_law_515 rfl (lv_at hl 0 rfl) ?_
  refine lv_iconst (v := 2) hx hb dL_law_516 (by decide) ?_
  refine lv_iadd hx hb dL_law_517 ?_
  refine lv_topi (fun x_3 ex_3 => ?_)
  have k_2 : (2 : Int32).toInt = 2 := by decide
  have tx_3 : x_3.toInt = i.toInt + (2 : Int32).toInt := by rw [ex_3]; exact t_add ⟨by omega, by omega⟩
  refine va_sld hx hb hX hbl hbA hS (vp_in_iff.mpr ⟨by omega, by omega⟩) dL_law_518 ?_
  refine lv_topi (fun x_4 ex_4 => ?_)
  refine lv_aload_n hx hb dL_law_519 rfl (lv_at hl 3 rfl) ?_
  refine lv_iload_n hx hb dL_law_520 rfl (lv_at hl 0 rfl) ?_
  refine lv_iconst (v := 3) hx hb dL_law_521 (by decide) ?_
  refine lv_iadd hx hb dL_law_522 ?_
  refine lv_topi (fun x_5 ex_5 => ?_)
  have k_3 : (3 : Int32).toInt = 3 := by decide
  have tx_5 : x_5.toInt = i.toInt + (3 : Int32).toInt := by rw [ex_5]; exact t_add ⟨by omega, by omega⟩
  refine va_sld hx hb hX hbl hbA hS (vp_in_iff.mpr ⟨by omega, by omega⟩) dL_law_523 ?_
  refine lv_topi (fun x_6 ex_6 => ?_)
  refine lv_aload_n hx hb dL_law_524 rfl (lv_at hl 3 rfl) ?_
  refine lv_iload_n hx hb dL_law_525 rfl (lv_at hl 0 rfl) ?_
  refine lv_iconst (v := 4) hx hb dL_law_526 (by decide) ?_
  refine lv_iadd hx hb dL_law_527 ?_
  refine lv_topi (fun x_7 ex_7 => ?_)
  have k_4 : (4 : Int32).toInt = 4 := by decide
  have tx_7 : x_7.toInt = i.toInt + (4 : Int32).toInt := by rw [ex_7]; exact t_add ⟨by omega, by omega⟩
  refine va_sld hx hb hX hbl hbA hS (vp_in_iff.mpr ⟨by omega, by omega⟩) dL_law_528 ?_
  refine lv_topi (fun x_8 ex_8 => ?_)
  have k_0 : (0 : Int32).toInt = 0 := by decide
  refine lv_if_eq (tgt := 536) hx hb dL_law_529 (by decide) (fun c_9 => ?_) (fun c_9 => ?_)
  · have tc_9 : x_8.toInt = (0 : Int32).toInt := by rw [c_9]
    refine lv_iconst (v := 0) hx hb dL_law_536 (by decide) ?_
    refine yl_i (X := wl ad kv cy N v) (Y := wm ad2 cy v2) (w1 := fun (u : Nat → Nat → Int32) => wl ad kv cy N u) hP hD hS hA (va_runV (As := [.int x_2, .int x_4, .int x_6, .int 0]) (rest := []) ⟨hx, hb, hml, hown, hts⟩ (g_X7_learns l dC dI cy _ ad kv N hN v hv x_2 x_4 x_6 0) (cwV 4 hts gL_law_X7_learns rfl rfl rfl hd_V_X7_learns_4 ⟨Nat.le_of_ble_eq_true rfl, Nat.le_of_ble_eq_true rfl⟩) (yl_preV hE hK hP hD (ci := 7) (q := (RX7, TX7, 5)) (q0 := 0) rfl (wl_at (by omega) (ce_0 (by decide)))) rfl rfl hl.1 rfl (lv_room (Nat.le_of_ble_eq_true rfl)) dL_law_537 hcs) (fun r_10 c_10 H locs hw_10 hP hD hS => ?_)
    have hP : va_P (dC, dI) vwCl (wm ad2 cy v2 ++ wl ad kv cy N c_10) H := hP
    have hD : va_D (fun q : Nat => s.heap.size ≤ q) (wm ad2 cy v2 ++ wl ad kv cy N c_10) := hD
    obtain ⟨hv, hf_c_10⟩ := hw_10
    refine lv_pop hx hb dL_law_540 rfl ?_
    refine lv_aload_n hx hb dL_law_541 rfl (lv_at hl 1 rfl) ?_
    refine lv_aload_n hx hb dL_law_542 rfl (lv_at hl 3 rfl) ?_
    refine lv_iload_n hx hb dL_law_543 rfl (lv_at hl 0 rfl) ?_
    refine lv_iconst (v := 1) hx hb dL_law_544 (by decide) ?_
    refine lv_iadd hx hb dL_law_545 ?_
    refine lv_topi (fun x_11 ex_11 => ?_)
    obtain rfl : x_1 = x_11 := ex_1.trans ex_11.symm
    refine va_sld hx hb hX hbl hbA hS (vp_in_iff.mpr ⟨by omega, by omega⟩) dL_law_546 ?_
    refine lv_topi (fun x_12 ex_12 => ?_)
    obtain rfl : x_2 = x_12 := ex_2.trans ex_12.symm
    refine lv_aload_n hx hb dL_law_547 rfl (lv_at hl 3 rfl) ?_
    refine lv_iload_n hx hb dL_law_548 rfl (lv_at hl 0 rfl) ?_
    refine lv_iconst (v := 2) hx hb dL_law_549 (by decide) ?_
    refine lv_iadd hx hb dL_law_550 ?_
    refine lv_topi (fun x_13 ex_13 => ?_)
    obtain rfl : x_3 = x_13 := ex_3.trans ex_13.symm
    refine va_sld hx hb hX hbl hbA hS (vp_in_iff.mpr ⟨by omega, by omega⟩) dL_law_551 ?_
    refine lv_topi (fun x_14 ex_14 => ?_)
    obtain rfl : x_4 = x_14 := ex_4.trans ex_14.symm
    refine lv_aload_n hx hb dL_law_552 rfl (lv_at hl 3 rfl) ?_
    refine lv_iload_n hx hb dL_law_553 rfl (lv_at hl 0 rfl) ?_
    refine lv_iconst (v := 3) hx hb dL_law_554 (by decide) ?_
    refine lv_iadd hx hb dL_law_555 ?_
    refine lv_topi (fun x_15 ex_15 => ?_)
    obtain rfl : x_5 = x_15 := ex_5.trans ex_15.symm
    refine va_sld hx hb hX hbl hbA hS (vp_in_iff.mpr ⟨by omega, by omega⟩) dL_law_556 ?_
    refine lv_topi (fun x_16 ex_16 => ?_)
    obtain rfl : x_6 = x_16 := ex_6.trans ex_16.symm
    refine lv_aload_n hx hb dL_law_557 rfl (lv_at hl 3 rfl) ?_
    refine lv_iload_n hx hb dL_law_558 rfl (lv_at hl 0 rfl) ?_
    refine lv_iconst (v := 4) hx hb dL_law_559 (by decide) ?_
    refine lv_iadd hx hb dL_law_560 ?_
    refine lv_topi (fun x_17 ex_17 => ?_)
    obtain rfl : x_7 = x_17 := ex_7.trans ex_17.symm
    refine va_sld hx hb hX hbl hbA hS (vp_in_iff.mpr ⟨by omega, by omega⟩) dL_law_561 ?_
    refine lv_topi (fun x_18 ex_18 => ?_)
    obtain rfl : x_8 = x_18 := ex_8.trans ex_18.symm
    refine lv_if_eq (tgt := 569) hx hb dL_law_562 (by decide) (fun c_19 => ?_) (fun c_19 => ?_)
    · have tc_19 : x_8.toInt = (0 : Int32).toInt := by rw [c_19]
      refine lv_iconst (v := 0) hx hb dL_law_569 (by decide) ?_
      refine yl_i (X := wm ad2 cy v2) (Y := wl ad kv cy N c_10) (w1 := fun (u : Nat → Nat → Int32) => wm ad2 cy u) hP hD hS hA (va_runV (As := [.int x_2, .int x_4, .int x_6, .int 0]) (rest := []) ⟨hx, hb, hml, hown, hts⟩ (q_X8_learns l dC dI cy _ ad2 v2 hq x_2 x_4 x_6 0) (cwV 4 hts gL_law_X8_learns rfl rfl rfl hd_V_X8_learns_4 ⟨Nat.le_of_ble_eq_true rfl, Nat.le_of_ble_eq_true rfl⟩) (yl_preV hE hK hP hD (ci := 8) (q := (RX8, TX8, 11)) (q0 := 0) rfl (wm_at (by decide) rc_0)) rfl rfl hl.1 rfl (lv_room (Nat.le_of_ble_eq_true rfl)) dL_law_570 hcs) (fun r_20 m_20 H locs hw_20 hP hD hS => ?_)
      have hP : va_P (dC, dI) vwCl (wl ad kv cy N c_10 ++ wm ad2 cy m_20) H := hP
      have hD : va_D (fun q : Nat => s.heap.size ≤ q) (wl ad kv cy N c_10 ++ wm ad2 cy m_20) := hD
      obtain ⟨hq, hf_m_20⟩ := hw_20
      have hJ := hJ.mv hf_c_10 (Fq_e hf_m_20)
      refine lv_pop hx hb dL_law_573 rfl ?_
      refine lv_goto (tgt := 1060) hx hb dL_law_574 (by decide) ?_
      exact kk c_10 m_20 _ _ ls hv hq hJ hP hD hS hl
    · have tc_19 : x_8.toInt ≠ (0 : Int32).toInt := fun q => absurd (Int32.toInt_inj.mp q) c_19
      exfalso
      first | contradiction | omega
  · have tc_9 : x_8.toInt ≠ (0 : Int32).toInt := fun q => absurd (Int32.toInt_inj.mp q) c_9
    refine lv_iconst (v := 1) hx hb dL_law_532 (by decide) ?_
    refine lv_goto (tgt := 537) hx hb dL_law_533 (by decide) ?_
    refine yl_i (X := wl ad kv cy N v) (Y := wm ad2 cy v2) (w1 := fun (u : Nat → Nat → Int32) => wl ad kv cy N u) hP hD hS hA (va_runV (As := [.int x_2, .int x_4, .int x_6, .int 1]) (rest := []) ⟨hx, hb, hml, hown, hts⟩ (g_X7_learns l dC dI cy _ ad kv N hN v hv x_2 x_4 x_6 1) (cwV 4 hts gL_law_X7_learns rfl rfl rfl hd_V_X7_learns_4 ⟨Nat.le_of_ble_eq_true rfl, Nat.le_of_ble_eq_true rfl⟩) (yl_preV hE hK hP hD (ci := 7) (q := (RX7, TX7, 5)) (q0 := 0) rfl (wl_at (by omega) (ce_0 (by decide)))) rfl rfl hl.1 rfl (lv_room (Nat.le_of_ble_eq_true rfl)) dL_law_537 hcs) (fun r_10 c_10 H locs hw_10 hP hD hS => ?_)
    have hP : va_P (dC, dI) vwCl (wm ad2 cy v2 ++ wl ad kv cy N c_10) H := hP
    have hD : va_D (fun q : Nat => s.heap.size ≤ q) (wm ad2 cy v2 ++ wl ad kv cy N c_10) := hD
    obtain ⟨hv, hf_c_10⟩ := hw_10
    refine lv_pop hx hb dL_law_540 rfl ?_
    refine lv_aload_n hx hb dL_law_541 rfl (lv_at hl 1 rfl) ?_
    refine lv_aload_n hx hb dL_law_542 rfl (lv_at hl 3 rfl) ?_
    refine lv_iload_n hx hb dL_law_543 rfl (lv_at hl 0 rfl) ?_
    refine lv_iconst (v := 1) hx hb dL_law_544 (by decide) ?_
    refine lv_iadd hx hb dL_law_545 ?_
    refine lv_topi (fun x_11 ex_11 => ?_)
    obtain rfl : x_1 = x_11 := ex_1.trans ex_11.symm
    refine va_sld hx hb hX hbl hbA hS (vp_in_iff.mpr ⟨by omega, by omega⟩) dL_law_546 ?_
    refine lv_topi (fun x_12 ex_12 => ?_)
    obtain rfl : x_2 = x_12 := ex_2.trans ex_12.symm
    refine lv_aload_n hx hb dL_law_547 rfl (lv_at hl 3 rfl) ?_
    refine lv_iload_n hx hb dL_law_548 rfl (lv_at hl 0 rfl) ?_
    refine lv_iconst (v := 2) hx hb dL_law_549 (by decide) ?_
    refine lv_iadd hx hb dL_law_550 ?_
    refine lv_topi (fun x_13 ex_13 => ?_)
    obtain rfl : x_3 = x_13 := ex_3.trans ex_13.symm
    refine va_sld hx hb hX hbl hbA hS (vp_in_iff.mpr ⟨by omega, by omega⟩) dL_law_551 ?_
    refine lv_topi (fun x_14 ex_14 => ?_)
    obtain rfl : x_4 = x_14 := ex_4.trans ex_14.symm
    refine lv_aload_n hx hb dL_law_552 rfl (lv_at hl 3 rfl) ?_
    refine lv_iload_n hx hb dL_law_553 rfl (lv_at hl 0 rfl) ?_
    refine lv_iconst (v := 3) hx hb dL_law_554 (by decide) ?_
    refine lv_iadd hx hb dL_law_555 ?_
    refine lv_topi (fun x_15 ex_15 => ?_)
    obtain rfl : x_5 = x_15 := ex_5.trans ex_15.symm
    refine va_sld hx hb hX hbl hbA hS (vp_in_iff.mpr ⟨by omega, by omega⟩) dL_law_556 ?_
    refine lv_topi (fun x_16 ex_16 => ?_)
    obtain rfl : x_6 = x_16 := ex_6.trans ex_16.symm
    refine lv_aload_n hx hb dL_law_557 rfl (lv_at hl 3 rfl) ?_
    refine lv_iload_n hx hb dL_law_558 rfl (lv_at hl 0 rfl) ?_
    refine lv_iconst (v := 4) hx hb dL_law_559 (by decide) ?_
    refine lv_iadd hx hb dL_law_560 ?_
    refine lv_topi (fun x_17 ex_17 => ?_)
    obtain rfl : x_7 = x_17 := ex_7.trans ex_17.symm
    refine va_sld hx hb hX hbl hbA hS (vp_in_iff.mpr ⟨by omega, by omega⟩) dL_law_561 ?_
    refine lv_topi (fun x_18 ex_18 => ?_)
    obtain rfl : x_8 = x_18 := ex_8.trans ex_18.symm
    refine lv_if_eq (tgt := 569) hx hb dL_law_562 (by decide) (fun c_19 => ?_) (fun c_19 => ?_)
    · have tc_19 : x_8.toInt = (0 : Int32).toInt := by rw [c_19]
      exfalso
      first | contradiction | omega
    · have tc_19 : x_8.toInt ≠ (0 : Int32).toInt := fun q => absurd (Int32.toInt_inj.mp q) c_19
      refine lv_iconst (v := 1) hx hb dL_law_565 (by decide) ?_
      refine lv_goto (tgt := 570) hx hb dL_law_566 (by decide) ?_
      refine yl_i (X := wm ad2 cy v2) (Y := wl ad kv cy N c_10) (w1 := fun (u : Nat → Nat → Int32) => wm ad2 cy u) hP hD hS hA (va_runV (As := [.int x_2, .int x_4, .int x_6, .int 1]) (rest := []) ⟨hx, hb, hml, hown, hts⟩ (q_X8_learns l dC dI cy _ ad2 v2 hq x_2 x_4 x_6 1) (cwV 4 hts gL_law_X8_learns rfl rfl rfl hd_V_X8_learns_4 ⟨Nat.le_of_ble_eq_true rfl, Nat.le_of_ble_eq_true rfl⟩) (yl_preV hE hK hP hD (ci := 8) (q := (RX8, TX8, 11)) (q0 := 0) rfl (wm_at (by decide) rc_0)) rfl rfl hl.1 rfl (lv_room (Nat.le_of_ble_eq_true rfl)) dL_law_570 hcs) (fun r_20 m_20 H locs hw_20 hP hD hS => ?_)
      have hP : va_P (dC, dI) vwCl (wl ad kv cy N c_10 ++ wm ad2 cy m_20) H := hP
      have hD : va_D (fun q : Nat => s.heap.size ≤ q) (wl ad kv cy N c_10 ++ wm ad2 cy m_20) := hD
      obtain ⟨hq, hf_m_20⟩ := hw_20
      have hJ := hJ.mv hf_c_10 (Fq_e hf_m_20)
      refine lv_pop hx hb dL_law_573 rfl ?_
      refine lv_goto (tgt := 1060) hx hb dL_law_574 (by decide) ?_
      exact kk c_10 m_20 _ _ ls hv hq hJ hP hD hS hl

set_option maxHeartbeats 4000000 in
set_option maxRecDepth 100000 in
/-- the case of maySit -/
theorem lc_11 {p : Program} {l : Launch} {e : Env} {s : State} {m : MethodId} {below : List Frame} {meth : Method} {c : Code} {dC : Nat → ClassId} {dI : Nat → Nat → Nat} {cy : Nat → ClassId} {b L : Nat} {xs : Nat → Int32} (C0 : lw_At p s m meth c b L xs) {t1 t2 : Nat} (hSt : ex_St t1 t2 (fun q : Nat => s.heap.size ≤ q) s) (hE : ex_K s) (hK : va_K (dC, dI) vwCl (ty_L cy) s) (hL : L ≤ 3584) {ad ad2 : Nat → Nat} {kv : Value} {N : Nat} (hN : 119 ≤ N) {v v2 : Nat → Nat → Int32} (hv : Iv v) (hq : Ir v2) {n : Int32} (hJ : RR3 n v v2) {i : Int32} (hi : 0 ≤ i.toInt ∧ i.toInt + 7 ≤ (L : Int)) {cells slots : Nat} (hcs : cells ≤ room_1.cells ∧ slots ≤ room_1.slots) {H : Heap} {locs : List Loc} (hP : va_P (dC, dI) vwCl (wl ad kv cy N v ++ wm ad2 cy v2) H) (hD : va_D (fun q : Nat => s.heap.size ≤ q) (wl ad kv cy N v ++ wm ad2 cy v2)) (hS : va_S (fun q : Nat => s.heap.size ≤ q) s.heap H locs) (ls : Array Slot) (hl : lv_has ls 4 [(3, .int i), (2, .ref (ad2 0)), (1, .ref (ad 0)), (0, .ref b)]) (kk : ∀ (v1 v3 : Nat → Nat → Int32) (H1 : Heap) (locs1 : List Loc) (ls1 : Array Slot), Iv v1 → Ir v3 → RR3 n v1 v3 → va_P (dC, dI) vwCl (wl ad kv cy N v1 ++ wm ad2 cy v3) H1 → va_D (fun q : Nat => s.heap.size ≤ q) (wl ad kv cy N v1 ++ wm ad2 cy v3) → va_S (fun q : Nat => s.heap.size ≤ q) s.heap H1 locs1 → lv_has ls1 4 [(3, .int i), (2, .ref (ad2 0)), (1, .ref (ad 0)), (0, .ref b)] → W p l e room_1 s m #[Value.ref b] below meth c H1 locs1 cells slots (lw_Z below #[Value.ref b] s) (F0 m 1060 ls1 [])) : W p l e room_1 s m #[Value.ref b] below meth c H locs cells slots (lw_Z below #[Value.ref b] s) (F0 m 577 ls []) := by
  obtain ⟨hx, hb, hr, hml, hown, hts0, hX, hbl, hlocks, hgv⟩ := id C0
  have hts : ∀ w ∈ wsL_law, w.before #[Value.ref b] s = true := fun w h => hts0 w (wsL_law_in w h)
  have hown : s.vm.findClass RL = some m.cls := hown
  have hA : ∀ q : Nat, s.heap.size ≤ q → (fun q : Nat => s.heap.size ≤ q) q := fun _ h => h
  have hbA : ¬ (fun q : Nat => s.heap.size ≤ q) b := Nat.not_le.mpr hbl
  refine lv_aload_n hx hb dL_law_577 rfl (lv_at hl 2 rfl) ?_
  refine lv_aload_n hx hb dL_law_578 rfl (lv_at hl 3 rfl) ?_
  refine lv_iload_n hx hb dL_law_579 rfl (lv_at hl 0 rfl) ?_
  refine lv_iconst (v := 1) hx hb dL_law_580 (by decide) ?_
  refine lv_iadd hx hb dL_law_581 ?_
  refine lv_topi (fun x_1 ex_1 => ?_)
  have k_1 : (1 : Int32).toInt = 1 := by decide
  have tx_1 : x_1.toInt = i.toInt + (1 : Int32).toInt := by rw [ex_1]; exact t_add ⟨by omega, by omega⟩
  refine va_sld hx hb hX hbl hbA hS (vp_in_iff.mpr ⟨by omega, by omega⟩) dL_law_582 ?_
  refine lv_topi (fun x_2 ex_2 => ?_)
  refine lv_aload_n hx hb dL_law_583 rfl (lv_at hl 3 rfl) ?_
  refine lv_iload_n hx hb dL_law_584 rfl (lv_at hl 0 rfl) ?_
  refine lv_iconst (v := 2) hx hb dL_law_585 (by decide) ?_
  refine lv_iadd hx hb dL_law_586 ?_
  refine lv_topi (fun x_3 ex_3 => ?_)
  have k_2 : (2 : Int32).toInt = 2 := by decide
  have tx_3 : x_3.toInt = i.toInt + (2 : Int32).toInt := by rw [ex_3]; exact t_add ⟨by omega, by omega⟩
  refine va_sld hx hb hX hbl hbA hS (vp_in_iff.mpr ⟨by omega, by omega⟩) dL_law_587 ?_
  refine lv_topi (fun x_4 ex_4 => ?_)
  refine yl_i (X := wl ad kv cy N v) (Y := wm ad2 cy v2) (w1 := fun (u : Nat → Nat → Int32) => wl ad kv cy N u) hP hD hS hA (va_runV (As := [.int x_2, .int x_4]) (rest := []) ⟨hx, hb, hml, hown, hts⟩ (g_X7_maySit l dC dI cy _ ad kv N hN v hv x_2 x_4 t1 t2) (cwV 2 hts gL_law_X7_maySit rfl rfl rfl hd_V_X7_maySit_2 ⟨Nat.le_of_ble_eq_true rfl, Nat.le_of_ble_eq_true rfl⟩) ⟨ex_blindT, va_recv hK (yl_P hP) (ci := 7) (q := (RX7, TX7, 5)) (q0 := 0) rfl (wl_at (by omega) (ce_0 (by decide))), fun U hU hW => ⟨rfl, ((yw_preS (As := []) hE hK (yl_P hP) (yl_D hD)).2 U hU hW).2, hSt.go hS (yw_F (yl_D hD) hS hA) hU hW⟩⟩ rfl rfl hl.1 rfl (lv_room (Nat.le_of_ble_eq_true rfl)) dL_law_588 hcs) (fun r_5 c_5 H locs hw_5 hP hD hS => ?_)
  have hP : va_P (dC, dI) vwCl (wm ad2 cy v2 ++ wl ad kv cy N c_5) H := hP
  have hD : va_D (fun q : Nat => s.heap.size ≤ q) (wm ad2 cy v2 ++ wl ad kv cy N c_5) := hD
  obtain ⟨hv, hf_c_5⟩ := hw_5
  refine lv_pop hx hb dL_law_591 rfl ?_
  refine lv_aload_n hx hb dL_law_592 rfl (lv_at hl 1 rfl) ?_
  refine lv_aload_n hx hb dL_law_593 rfl (lv_at hl 3 rfl) ?_
  refine lv_iload_n hx hb dL_law_594 rfl (lv_at hl 0 rfl) ?_
  refine lv_iconst (v := 1) hx hb dL_law_595 (by decide) ?_
  refine lv_iadd hx hb dL_law_596 ?_
  refine lv_topi (fun x_6 ex_6 => ?_)
  obtain rfl : x_1 = x_6 := ex_1.trans ex_6.symm
  refine va_sld hx hb hX hbl hbA hS (vp_in_iff.mpr ⟨by omega, by omega⟩) dL_law_597 ?_
  refine lv_topi (fun x_7 ex_7 => ?_)
  obtain rfl : x_2 = x_7 := ex_2.trans ex_7.symm
  refine lv_aload_n hx hb dL_law_598 rfl (lv_at hl 3 rfl) ?_
  refine lv_iload_n hx hb dL_law_599 rfl (lv_at hl 0 rfl) ?_
  refine lv_iconst (v := 2) hx hb dL_law_600 (by decide) ?_
  refine lv_iadd hx hb dL_law_601 ?_
  refine lv_topi (fun x_8 ex_8 => ?_)
  obtain rfl : x_3 = x_8 := ex_3.trans ex_8.symm
  refine va_sld hx hb hX hbl hbA hS (vp_in_iff.mpr ⟨by omega, by omega⟩) dL_law_602 ?_
  refine lv_topi (fun x_9 ex_9 => ?_)
  obtain rfl : x_4 = x_9 := ex_4.trans ex_9.symm
  refine yl_i (X := wm ad2 cy v2) (Y := wl ad kv cy N c_5) (w1 := fun (u : Nat → Nat → Int32) => wm ad2 cy u) hP hD hS hA (va_runV (As := [.int x_2, .int x_4]) (rest := []) ⟨hx, hb, hml, hown, hts⟩ (q_X8_maySit l dC dI cy _ ad2 v2 hq x_2 x_4) (cwV 2 hts gL_law_X8_maySit rfl rfl rfl hd_V_X8_maySit_2 ⟨Nat.le_of_ble_eq_true rfl, Nat.le_of_ble_eq_true rfl⟩) (yl_preV hE hK hP hD (ci := 8) (q := (RX8, TX8, 11)) (q0 := 0) rfl (wm_at (by decide) rc_0)) rfl rfl hl.1 rfl (lv_room (Nat.le_of_ble_eq_true rfl)) dL_law_603 hcs) (fun r_10 m_10 H locs hw_10 hP hD hS => ?_)
  have hP : va_P (dC, dI) vwCl (wl ad kv cy N c_5 ++ wm ad2 cy m_10) H := hP
  have hD : va_D (fun q : Nat => s.heap.size ≤ q) (wl ad kv cy N c_5 ++ wm ad2 cy m_10) := hD
  obtain ⟨hq, hf_m_10⟩ := hw_10
  have hJ := hJ.mv hf_c_5 (Fq_e hf_m_10)
  refine lv_pop hx hb dL_law_606 rfl ?_
  refine lv_goto (tgt := 1060) hx hb dL_law_607 (by decide) ?_
  exact kk c_5 m_10 _ _ ls hv hq hJ hP hD hS hl

set_option maxHeartbeats 4000000 in
set_option maxRecDepth 100000 in
/-- the case of rooms -/
theorem lc_12 {p : Program} {l : Launch} {e : Env} {s : State} {m : MethodId} {below : List Frame} {meth : Method} {c : Code} {dC : Nat → ClassId} {dI : Nat → Nat → Nat} {cy : Nat → ClassId} {b L : Nat} {xs : Nat → Int32} (C0 : lw_At p s m meth c b L xs) {t1 t2 : Nat} (hSt : ex_St t1 t2 (fun q : Nat => s.heap.size ≤ q) s) (hE : ex_K s) (hK : va_K (dC, dI) vwCl (ty_L cy) s) (hL : L ≤ 3584) {ad ad2 : Nat → Nat} {kv : Value} {N : Nat} (hN : 119 ≤ N) {v v2 : Nat → Nat → Int32} (hv : Iv v) (hq : Ir v2) {n : Int32} (hJ : RR3 n v v2) {i : Int32} (hi : 0 ≤ i.toInt ∧ i.toInt + 7 ≤ (L : Int)) {cells slots : Nat} (hcs : cells ≤ room_1.cells ∧ slots ≤ room_1.slots) {H : Heap} {locs : List Loc} (hP : va_P (dC, dI) vwCl (wl ad kv cy N v ++ wm ad2 cy v2) H) (hD : va_D (fun q : Nat => s.heap.size ≤ q) (wl ad kv cy N v ++ wm ad2 cy v2)) (hS : va_S (fun q : Nat => s.heap.size ≤ q) s.heap H locs) (ls : Array Slot) (hl : lv_has ls 4 [(3, .int i), (2, .ref (ad2 0)), (1, .ref (ad 0)), (0, .ref b)]) (kk : ∀ (v1 v3 : Nat → Nat → Int32) (H1 : Heap) (locs1 : List Loc) (ls1 : Array Slot), Iv v1 → Ir v3 → RR3 n v1 v3 → va_P (dC, dI) vwCl (wl ad kv cy N v1 ++ wm ad2 cy v3) H1 → va_D (fun q : Nat => s.heap.size ≤ q) (wl ad kv cy N v1 ++ wm ad2 cy v3) → va_S (fun q : Nat => s.heap.size ≤ q) s.heap H1 locs1 → lv_has ls1 4 [(3, .int i), (2, .ref (ad2 0)), (1, .ref (ad 0)), (0, .ref b)] → W p l e room_1 s m #[Value.ref b] below meth c H1 locs1 cells slots (lw_Z below #[Value.ref b] s) (F0 m 1060 ls1 [])) : W p l e room_1 s m #[Value.ref b] below meth c H locs cells slots (lw_Z below #[Value.ref b] s) (F0 m 610 ls []) := by
  obtain ⟨hx, hb, hr, hml, hown, hts0, hX, hbl, hlocks, hgv⟩ := id C0
  have hts : ∀ w ∈ wsL_law, w.before #[Value.ref b] s = true := fun w h => hts0 w (wsL_law_in w h)
  have hown : s.vm.findClass RL = some m.cls := hown
  have hA : ∀ q : Nat, s.heap.size ≤ q → (fun q : Nat => s.heap.size ≤ q) q := fun _ h => h
  have hbA : ¬ (fun q : Nat => s.heap.size ≤ q) b := Nat.not_le.mpr hbl
  refine lv_aload_n hx hb dL_law_610 rfl (lv_at hl 2 rfl) ?_
  refine lv_aload_n hx hb dL_law_611 rfl (lv_at hl 3 rfl) ?_
  refine lv_iload_n hx hb dL_law_612 rfl (lv_at hl 0 rfl) ?_
  refine lv_iconst (v := 1) hx hb dL_law_613 (by decide) ?_
  refine lv_iadd hx hb dL_law_614 ?_
  refine lv_topi (fun x_1 ex_1 => ?_)
  have k_1 : (1 : Int32).toInt = 1 := by decide
  have tx_1 : x_1.toInt = i.toInt + (1 : Int32).toInt := by rw [ex_1]; exact t_add ⟨by omega, by omega⟩
  refine va_sld hx hb hX hbl hbA hS (vp_in_iff.mpr ⟨by omega, by omega⟩) dL_law_615 ?_
  refine lv_topi (fun x_2 ex_2 => ?_)
  have hv0 := hv
  refine yl_i (X := wl ad kv cy N v) (Y := wm ad2 cy v2) (w1 := fun (u : Nat → Nat → Int32) => wl ad kv cy N u) hP hD hS hA (va_runV (As := [.int x_2]) (rest := []) ⟨hx, hb, hml, hown, hts⟩ (e_X7_rooms l dC dI cy _ ad kv N hN v hv x_2) (cwV 1 hts gL_law_X7_rooms rfl rfl rfl hd_V_X7_rooms_1 ⟨Nat.le_of_ble_eq_true rfl, Nat.le_of_ble_eq_true rfl⟩) (yl_preV hE hK hP hD (ci := 7) (q := (RX7, TX7, 5)) (q0 := 0) rfl (wl_at (by omega) (ce_0 (by decide)))) rfl rfl hl.1 rfl (lv_room (Nat.le_of_ble_eq_true rfl)) dL_law_616 hcs) (fun r_3 c_3 H locs hw_3 hP hD hS => ?_)
  have hP : va_P (dC, dI) vwCl (wm ad2 cy v2 ++ wl ad kv cy N c_3) H := hP
  have hD : va_D (fun q : Nat => s.heap.size ≤ q) (wm ad2 cy v2 ++ wl ad kv cy N c_3) := hD
  obtain ⟨hv, hpc⟩ := hw_3
  refine lv_pop hx hb dL_law_619 rfl ?_
  refine lv_aload_n hx hb dL_law_620 rfl (lv_at hl 1 rfl) ?_
  refine lv_aload_n hx hb dL_law_621 rfl (lv_at hl 3 rfl) ?_
  refine lv_iload_n hx hb dL_law_622 rfl (lv_at hl 0 rfl) ?_
  refine lv_iconst (v := 1) hx hb dL_law_623 (by decide) ?_
  refine lv_iadd hx hb dL_law_624 ?_
  refine lv_topi (fun x_4 ex_4 => ?_)
  obtain rfl : x_1 = x_4 := ex_1.trans ex_4.symm
  refine va_sld hx hb hX hbl hbA hS (vp_in_iff.mpr ⟨by omega, by omega⟩) dL_law_625 ?_
  refine lv_topi (fun x_5 ex_5 => ?_)
  obtain rfl : x_2 = x_5 := ex_2.trans ex_5.symm
  have hq0 := hq
  refine yl_i (X := wm ad2 cy v2) (Y := wl ad kv cy N c_3) (w1 := fun (u : Nat → Nat → Int32) => wm ad2 cy u) hP hD hS hA (va_runV (As := [.int x_2]) (rest := []) ⟨hx, hb, hml, hown, hts⟩ (q_X8_rooms l dC dI cy _ ad2 v2 hq x_2) (cwV 1 hts gL_law_X8_rooms rfl rfl rfl hd_V_X8_rooms_1 ⟨Nat.le_of_ble_eq_true rfl, Nat.le_of_ble_eq_true rfl⟩) (yl_preV hE hK hP hD (ci := 8) (q := (RX8, TX8, 11)) (q0 := 0) rfl (wm_at (by decide) rc_0)) rfl rfl hl.1 rfl (lv_room (Nat.le_of_ble_eq_true rfl)) dL_law_626 hcs) (fun r_6 m_6 H locs hw_6 hP hD hS => ?_)
  have hP : va_P (dC, dI) vwCl (wl ad kv cy N c_3 ++ wm ad2 cy m_6) H := hP
  have hD : va_D (fun q : Nat => s.heap.size ≤ q) (wl ad kv cy N c_3 ++ wm ad2 cy m_6) := hD
  obtain ⟨hq, hpm⟩ := hw_6
  obtain ⟨hrr, hJ⟩ := S_rooms hJ hpc hpm
  subst hrr
  refine lv_pop hx hb dL_law_629 rfl ?_
  refine lv_goto (tgt := 1060) hx hb dL_law_630 (by decide) ?_
  exact kk c_3 m_6 _ _ ls hv hq hJ hP hD hS hl
set_option maxRecDepth 20000 in
theorem db_L_law_633 : (decode cL_law 633 = .ok (.aload_n 1, 1)) ∧ (decode cL_law 634 = .ok (.aload_n 0, 1)) ∧ (decode cL_law 635 = .ok (.iload_n 3, 1)) ∧ (decode cL_law 636 = .ok (.iconst 1, 1)) ∧ (decode cL_law 637 = .ok (.iadd, 1)) ∧ (decode cL_law 638 = .ok (.iaload, 1)) ∧ (decode cL_law 639 = .ok (.invokevirtual 70, 3)) ∧ (decode cL_law 642 = .ok (.pop, 1)) := by decide +kernel
theorem dL_law_633 : decode cL_law 633 = .ok (.aload_n 1, 1) := db_L_law_633.1
theorem dL_law_634 : decode cL_law 634 = .ok (.aload_n 0, 1) := db_L_law_633.2.1
theorem dL_law_635 : decode cL_law 635 = .ok (.iload_n 3, 1) := db_L_law_633.2.2.1
theorem dL_law_636 : decode cL_law 636 = .ok (.iconst 1, 1) := db_L_law_633.2.2.2.1
theorem dL_law_637 : decode cL_law 637 = .ok (.iadd, 1) := db_L_law_633.2.2.2.2.1
theorem dL_law_638 : decode cL_law 638 = .ok (.iaload, 1) := db_L_law_633.2.2.2.2.2.1
set_option maxRecDepth 20000 in
theorem ggL_law_X7_plan : GoodIn wsL_law wsX7_plan := goodIn_ch _ [(14, 21), (0, 15), (6, 12), (7, 10), (0, 19), (1, 1), (7, 11), (7, 12), (7, 13), (0, 2), (7, 14), (6, 11), (4, 5), (4, 6), (4, 7), (14, 22), (14, 23), (15, 0), (0, 18), (15, 1), (15, 2), (15, 3), (11, 19), (11, 20), (11, 21), (15, 4), (15, 5), (15, 6), (2, 21), (3, 2), (3, 3), (15, 7), (15, 8), (15, 9), (15, 10), (15, 11), (15, 12), (15, 13), (2, 20), (15, 14), (2, 22), (15, 15), (15, 16), (15, 17), (15, 18), (12, 18), (12, 19), (0, 14), (12, 20), (12, 21), (15, 19), (12, 23), (13, 0), (13, 1), (1, 9), (13, 2), (13, 3), (1, 7), (13, 4), (5, 17), (5, 18), (13, 5), (13, 6), (13, 7), (13, 8), (13, 9), (13, 10), (13, 11), (15, 20), (15, 21), (15, 22), (15, 23), (2, 23), (16, 0), (16, 1), (16, 2), (16, 3), (3, 0), (3, 1), (16, 4), (16, 5), (16, 6), (16, 7), (16, 8), (16, 9), (16, 10), (16, 11), (16, 12), (16, 13), (16, 14), (16, 15), (16, 16), (16, 17), (16, 18), (16, 19), (29, 0), (29, 1), (29, 2), (29, 3), (29, 4), (31, 0), (31, 1), (31, 2), (31, 3), (31, 4), (31, 5), (31, 6), (36, 0), (36, 1), (36, 2), (36, 3), (36, 4), (36, 5), (36, 6), (36, 7), (36, 8), (36, 9), (36, 10), (32, 0), (32, 1), (32, 2), (32, 3), (32, 4), (32, 5), (32, 6), (32, 7), (32, 8), (32, 9), (32, 10), (35, 0), (35, 1), (35, 2), (34, 0), (34, 1)] rfl (by decide +kernel)
set_option maxRecDepth 20000 in
theorem gL_law_X7_plan : GoodIn wsL_law (wsV RL 70 RX7 yX7_plan wsX7_plan) := goodIn_app (goodIn_ch _ [(14, 18), (14, 19), (14, 20), (0, 2)] rfl (by decide +kernel)) ggL_law_X7_plan
theorem dL_law_639 : decode cL_law 639 = .ok (.invokevirtual 70, 3) := db_L_law_633.2.2.2.2.2.2.1
theorem dL_law_642 : decode cL_law 642 = .ok (.pop, 1) := db_L_law_633.2.2.2.2.2.2.2
set_option maxRecDepth 20000 in
theorem db_L_law_643 : (decode cL_law 643 = .ok (.aload_n 2, 1)) ∧ (decode cL_law 644 = .ok (.aload_n 0, 1)) ∧ (decode cL_law 645 = .ok (.iload_n 3, 1)) ∧ (decode cL_law 646 = .ok (.iconst 1, 1)) ∧ (decode cL_law 647 = .ok (.iadd, 1)) ∧ (decode cL_law 648 = .ok (.iaload, 1)) ∧ (decode cL_law 649 = .ok (.invokevirtual 73, 3)) ∧ (decode cL_law 652 = .ok (.pop, 1)) := by decide +kernel
theorem dL_law_643 : decode cL_law 643 = .ok (.aload_n 2, 1) := db_L_law_643.1
theorem dL_law_644 : decode cL_law 644 = .ok (.aload_n 0, 1) := db_L_law_643.2.1
theorem dL_law_645 : decode cL_law 645 = .ok (.iload_n 3, 1) := db_L_law_643.2.2.1
theorem dL_law_646 : decode cL_law 646 = .ok (.iconst 1, 1) := db_L_law_643.2.2.2.1
theorem dL_law_647 : decode cL_law 647 = .ok (.iadd, 1) := db_L_law_643.2.2.2.2.1
theorem dL_law_648 : decode cL_law 648 = .ok (.iaload, 1) := db_L_law_643.2.2.2.2.2.1
set_option maxRecDepth 20000 in
theorem ggL_law_X8_plan : GoodIn wsL_law wsX8_plan := goodIn_ch _ [(16, 23), (3, 13), (17, 0), (3, 17), (3, 19), (7, 19), (7, 20), (7, 21), (0, 5), (7, 22), (4, 12), (4, 13), (4, 14), (7, 3), (7, 4), (7, 5), (17, 1), (17, 2), (17, 3), (17, 4), (17, 5), (17, 6), (3, 18), (17, 7), (17, 8), (17, 9), (17, 10), (17, 11), (17, 12), (17, 13), (17, 14), (17, 15), (17, 16), (17, 17), (17, 18), (3, 15), (13, 16), (13, 17), (13, 18), (13, 19), (13, 20), (13, 21), (13, 22), (5, 23), (6, 0), (6, 1), (6, 2), (13, 23), (14, 0), (14, 1), (14, 2), (14, 3), (14, 4), (14, 5), (14, 6), (14, 7), (14, 8), (14, 9), (30, 0), (30, 1), (30, 2), (30, 3), (30, 4), (30, 5), (30, 6), (30, 7), (30, 8), (30, 9), (30, 10)] rfl (by decide +kernel)
set_option maxRecDepth 20000 in
theorem gL_law_X8_plan : GoodIn wsL_law (wsV RL 73 RX8 yX8_plan wsX8_plan) := goodIn_app (goodIn_ch _ [(16, 20), (16, 21), (16, 22), (0, 5)] rfl (by decide +kernel)) ggL_law_X8_plan
theorem dL_law_649 : decode cL_law 649 = .ok (.invokevirtual 73, 3) := db_L_law_643.2.2.2.2.2.2.1
theorem dL_law_652 : decode cL_law 652 = .ok (.pop, 1) := db_L_law_643.2.2.2.2.2.2.2
set_option maxRecDepth 20000 in
theorem db_L_law_653 : (decode cL_law 653 = .ok (.goto 407, 3)) ∧ (decode cL_law 656 = .ok (.aload_n 1, 1)) ∧ (decode cL_law 657 = .ok (.invokevirtual 74, 3)) ∧ (decode cL_law 660 = .ok (.pop, 1)) ∧ (decode cL_law 661 = .ok (.aload_n 2, 1)) ∧ (decode cL_law 662 = .ok (.invokevirtual 78, 3)) ∧ (decode cL_law 665 = .ok (.pop, 1)) ∧ (decode cL_law 666 = .ok (.goto 394, 3)) := by decide +kernel
theorem dL_law_653 : decode cL_law 653 = .ok (.goto 407, 3) := db_L_law_653.1
theorem dL_law_656 : decode cL_law 656 = .ok (.aload_n 1, 1) := db_L_law_653.2.1
set_option maxRecDepth 20000 in
theorem ggL_law_X7_waits : GoodIn wsL_law wsX7_waits := goodIn_ch _ [(17, 22), (0, 19), (0, 15), (1, 1), (17, 23), (14, 22), (14, 23), (15, 0), (0, 18), (15, 1), (15, 2), (15, 3), (11, 19), (11, 20), (11, 21), (15, 4), (15, 5), (15, 6), (2, 21), (3, 2), (3, 3), (15, 7), (15, 8), (15, 9), (15, 10), (15, 11), (15, 12), (15, 13), (2, 20), (15, 14), (2, 22), (15, 15), (15, 16), (15, 17), (15, 18), (12, 18), (12, 19), (0, 14), (12, 20), (12, 21), (15, 19), (12, 23), (13, 0), (13, 1), (1, 9), (13, 2), (13, 3), (1, 7), (13, 4), (5, 17), (0, 2), (5, 18), (13, 5), (13, 6), (13, 7), (13, 8), (13, 9), (13, 10), (13, 11), (15, 20), (15, 21), (15, 22), (15, 23), (2, 23), (16, 0), (16, 1), (16, 2), (16, 3), (3, 0), (3, 1), (16, 4), (16, 5), (16, 6), (16, 7), (16, 8), (16, 9), (16, 10), (16, 11), (16, 12), (16, 13), (16, 14), (16, 15), (29, 0), (29, 1), (29, 2), (29, 3), (29, 4), (32, 0), (32, 1), (32, 2), (32, 3), (32, 4), (32, 5), (32, 6), (32, 7), (32, 8), (32, 9), (32, 10), (31, 0), (31, 1), (31, 2), (31, 3), (31, 4), (31, 5), (31, 6), (36, 0), (36, 1), (36, 2), (36, 3), (36, 4), (36, 5), (36, 6), (36, 7), (36, 8), (36, 9), (36, 10), (35, 0), (35, 1), (35, 2), (34, 0), (34, 1)] rfl (by decide +kernel)
set_option maxRecDepth 20000 in
theorem gL_law_X7_waits : GoodIn wsL_law (wsV RL 74 RX7 yX7_waits wsX7_waits) := goodIn_app (goodIn_ch _ [(17, 19), (17, 20), (17, 21), (0, 2)] rfl (by decide +kernel)) ggL_law_X7_waits
theorem dL_law_657 : decode cL_law 657 = .ok (.invokevirtual 74, 3) := db_L_law_653.2.2.1
theorem dL_law_660 : decode cL_law 660 = .ok (.pop, 1) := db_L_law_653.2.2.2.1
theorem dL_law_661 : decode cL_law 661 = .ok (.aload_n 2, 1) := db_L_law_653.2.2.2.2.1
set_option maxRecDepth 20000 in
theorem ggL_law_X8_waits : GoodIn wsL_law wsX8_waits := goodIn_ch _ [(18, 3), (17, 6), (17, 1), (17, 2), (17, 3), (0, 5), (17, 4), (17, 0), (3, 13), (3, 17), (17, 5), (3, 18), (7, 3), (7, 4), (7, 5), (17, 7), (17, 8), (17, 9), (17, 10), (3, 19), (17, 11), (17, 12), (17, 13), (17, 14), (17, 15), (17, 16), (17, 17), (17, 18), (3, 15), (13, 16), (13, 17), (13, 18), (13, 19), (4, 12), (4, 13), (4, 14), (13, 20), (13, 21), (13, 22), (5, 23), (6, 0), (6, 1), (6, 2), (13, 23), (14, 0), (14, 1), (14, 2), (14, 3), (14, 4), (14, 5), (14, 6), (14, 7), (14, 8), (14, 9), (30, 0), (30, 1), (30, 2), (30, 3), (30, 4), (30, 5), (30, 6), (30, 7), (30, 8), (30, 9), (30, 10)] rfl (by decide +kernel)
set_option maxRecDepth 20000 in
theorem gL_law_X8_waits : GoodIn wsL_law (wsV RL 78 RX8 yX8_waits wsX8_waits) := goodIn_app (goodIn_ch _ [(18, 0), (18, 1), (18, 2), (0, 5)] rfl (by decide +kernel)) ggL_law_X8_waits
theorem dL_law_662 : decode cL_law 662 = .ok (.invokevirtual 78, 3) := db_L_law_653.2.2.2.2.2.1
theorem dL_law_665 : decode cL_law 665 = .ok (.pop, 1) := db_L_law_653.2.2.2.2.2.2.1
theorem dL_law_666 : decode cL_law 666 = .ok (.goto 394, 3) := db_L_law_653.2.2.2.2.2.2.2
set_option maxRecDepth 20000 in
theorem db_L_law_669 : (decode cL_law 669 = .ok (.aload_n 1, 1)) ∧ (decode cL_law 670 = .ok (.aload_n 0, 1)) ∧ (decode cL_law 671 = .ok (.iload_n 3, 1)) ∧ (decode cL_law 672 = .ok (.iconst 1, 1)) ∧ (decode cL_law 673 = .ok (.iadd, 1)) ∧ (decode cL_law 674 = .ok (.iaload, 1)) ∧ (decode cL_law 675 = .ok (.aload_n 0, 1)) ∧ (decode cL_law 676 = .ok (.iload_n 3, 1)) := by decide +kernel
theorem dL_law_669 : decode cL_law 669 = .ok (.aload_n 1, 1) := db_L_law_669.1
theorem dL_law_670 : decode cL_law 670 = .ok (.aload_n 0, 1) := db_L_law_669.2.1
theorem dL_law_671 : decode cL_law 671 = .ok (.iload_n 3, 1) := db_L_law_669.2.2.1
theorem dL_law_672 : decode cL_law 672 = .ok (.iconst 1, 1) := db_L_law_669.2.2.2.1
theorem dL_law_673 : decode cL_law 673 = .ok (.iadd, 1) := db_L_law_669.2.2.2.2.1
theorem dL_law_674 : decode cL_law 674 = .ok (.iaload, 1) := db_L_law_669.2.2.2.2.2.1
theorem dL_law_675 : decode cL_law 675 = .ok (.aload_n 0, 1) := db_L_law_669.2.2.2.2.2.2.1
theorem dL_law_676 : decode cL_law 676 = .ok (.iload_n 3, 1) := db_L_law_669.2.2.2.2.2.2.2
set_option maxRecDepth 20000 in
theorem db_L_law_677 : (decode cL_law 677 = .ok (.iconst 2, 1)) ∧ (decode cL_law 678 = .ok (.iadd, 1)) ∧ (decode cL_law 679 = .ok (.iaload, 1)) ∧ (decode cL_law 680 = .ok (.aload_n 0, 1)) ∧ (decode cL_law 681 = .ok (.iload_n 3, 1)) ∧ (decode cL_law 682 = .ok (.iconst 3, 1)) ∧ (decode cL_law 683 = .ok (.iadd, 1)) ∧ (decode cL_law 684 = .ok (.iaload, 1)) := by decide +kernel
theorem dL_law_677 : decode cL_law 677 = .ok (.iconst 2, 1) := db_L_law_677.1
theorem dL_law_678 : decode cL_law 678 = .ok (.iadd, 1) := db_L_law_677.2.1
theorem dL_law_679 : decode cL_law 679 = .ok (.iaload, 1) := db_L_law_677.2.2.1
theorem dL_law_680 : decode cL_law 680 = .ok (.aload_n 0, 1) := db_L_law_677.2.2.2.1
theorem dL_law_681 : decode cL_law 681 = .ok (.iload_n 3, 1) := db_L_law_677.2.2.2.2.1
theorem dL_law_682 : decode cL_law 682 = .ok (.iconst 3, 1) := db_L_law_677.2.2.2.2.2.1
theorem dL_law_683 : decode cL_law 683 = .ok (.iadd, 1) := db_L_law_677.2.2.2.2.2.2.1
theorem dL_law_684 : decode cL_law 684 = .ok (.iaload, 1) := db_L_law_677.2.2.2.2.2.2.2
set_option maxRecDepth 20000 in
theorem db_L_law_685 : (decode cL_law 685 = .ok (.ifCond .eq 7, 3)) ∧ (decode cL_law 692 = .ok (.iconst 0, 1)) ∧ (decode cL_law 693 = .ok (.aload_n 0, 1)) ∧ (decode cL_law 694 = .ok (.iload_n 3, 1)) ∧ (decode cL_law 695 = .ok (.iconst 4, 1)) ∧ (decode cL_law 696 = .ok (.iadd, 1)) ∧ (decode cL_law 697 = .ok (.iaload, 1)) ∧ (decode cL_law 698 = .ok (.aload_n 0, 1)) := by decide +kernel
theorem dL_law_685 : decode cL_law 685 = .ok (.ifCond .eq 7, 3) := db_L_law_685.1
theorem dL_law_692 : decode cL_law 692 = .ok (.iconst 0, 1) := db_L_law_685.2.1
theorem dL_law_693 : decode cL_law 693 = .ok (.aload_n 0, 1) := db_L_law_685.2.2.1
theorem dL_law_694 : decode cL_law 694 = .ok (.iload_n 3, 1) := db_L_law_685.2.2.2.1
theorem dL_law_695 : decode cL_law 695 = .ok (.iconst 4, 1) := db_L_law_685.2.2.2.2.1
theorem dL_law_696 : decode cL_law 696 = .ok (.iadd, 1) := db_L_law_685.2.2.2.2.2.1
theorem dL_law_697 : decode cL_law 697 = .ok (.iaload, 1) := db_L_law_685.2.2.2.2.2.2.1
theorem dL_law_698 : decode cL_law 698 = .ok (.aload_n 0, 1) := db_L_law_685.2.2.2.2.2.2.2
set_option maxRecDepth 20000 in
theorem db_L_law_699 : (decode cL_law 699 = .ok (.iload_n 3, 1)) ∧ (decode cL_law 700 = .ok (.iconst 5, 1)) ∧ (decode cL_law 701 = .ok (.iadd, 1)) ∧ (decode cL_law 702 = .ok (.iaload, 1)) ∧ (decode cL_law 703 = .ok (.aload_n 0, 1)) ∧ (decode cL_law 704 = .ok (.iload_n 3, 1)) ∧ (decode cL_law 705 = .ok (.bipush 6, 2)) ∧ (decode cL_law 707 = .ok (.iadd, 1)) := by decide +kernel
theorem dL_law_699 : decode cL_law 699 = .ok (.iload_n 3, 1) := db_L_law_699.1
theorem dL_law_700 : decode cL_law 700 = .ok (.iconst 5, 1) := db_L_law_699.2.1
theorem dL_law_701 : decode cL_law 701 = .ok (.iadd, 1) := db_L_law_699.2.2.1
theorem dL_law_702 : decode cL_law 702 = .ok (.iaload, 1) := db_L_law_699.2.2.2.1
theorem dL_law_703 : decode cL_law 703 = .ok (.aload_n 0, 1) := db_L_law_699.2.2.2.2.1
theorem dL_law_704 : decode cL_law 704 = .ok (.iload_n 3, 1) := db_L_law_699.2.2.2.2.2.1
theorem dL_law_705 : decode cL_law 705 = .ok (.bipush 6, 2) := db_L_law_699.2.2.2.2.2.2.1
theorem dL_law_707 : decode cL_law 707 = .ok (.iadd, 1) := db_L_law_699.2.2.2.2.2.2.2
set_option maxRecDepth 20000 in
theorem db_L_law_708 : (decode cL_law 708 = .ok (.iaload, 1)) ∧ (decode cL_law 709 = .ok (.invokevirtual 79, 3)) ∧ (decode cL_law 712 = .ok (.pop, 1)) ∧ (decode cL_law 713 = .ok (.aload_n 2, 1)) ∧ (decode cL_law 714 = .ok (.aload_n 0, 1)) ∧ (decode cL_law 715 = .ok (.iload_n 3, 1)) ∧ (decode cL_law 716 = .ok (.iconst 1, 1)) ∧ (decode cL_law 717 = .ok (.iadd, 1)) := by decide +kernel
theorem dL_law_708 : decode cL_law 708 = .ok (.iaload, 1) := db_L_law_708.1
set_option maxRecDepth 20000 in
theorem ggL_law_X7_term : GoodIn wsL_law wsX7_term := goodIn_ch _ [(18, 7), (0, 15), (6, 12), (7, 10), (18, 8), (18, 9), (18, 10), (18, 11), (18, 12), (18, 13), (18, 14), (7, 11), (7, 12), (7, 13), (0, 2), (7, 14), (6, 11), (4, 5), (4, 6), (4, 7), (10, 12), (10, 13), (10, 14), (18, 15), (18, 16), (18, 17), (29, 0), (29, 1), (29, 2), (29, 3), (29, 4), (31, 0), (31, 1), (31, 2), (31, 3), (31, 4), (31, 5), (31, 6), (36, 0), (36, 1), (36, 2), (36, 3), (36, 4), (36, 5), (36, 6), (36, 7), (36, 8), (36, 9), (36, 10), (37, 0), (37, 1), (37, 2), (37, 3), (37, 4)] rfl (by decide +kernel)
set_option maxRecDepth 20000 in
theorem gL_law_X7_term : GoodIn wsL_law (wsV RL 79 RX7 yX7_term wsX7_term) := goodIn_app (goodIn_ch _ [(18, 4), (18, 5), (18, 6), (0, 2)] rfl (by decide +kernel)) ggL_law_X7_term
theorem dL_law_709 : decode cL_law 709 = .ok (.invokevirtual 79, 3) := db_L_law_708.2.1
theorem dL_law_712 : decode cL_law 712 = .ok (.pop, 1) := db_L_law_708.2.2.1
theorem dL_law_713 : decode cL_law 713 = .ok (.aload_n 2, 1) := db_L_law_708.2.2.2.1
theorem dL_law_714 : decode cL_law 714 = .ok (.aload_n 0, 1) := db_L_law_708.2.2.2.2.1
theorem dL_law_715 : decode cL_law 715 = .ok (.iload_n 3, 1) := db_L_law_708.2.2.2.2.2.1
theorem dL_law_716 : decode cL_law 716 = .ok (.iconst 1, 1) := db_L_law_708.2.2.2.2.2.2.1
theorem dL_law_717 : decode cL_law 717 = .ok (.iadd, 1) := db_L_law_708.2.2.2.2.2.2.2
set_option maxRecDepth 20000 in
theorem db_L_law_718 : (decode cL_law 718 = .ok (.iaload, 1)) ∧ (decode cL_law 719 = .ok (.aload_n 0, 1)) ∧ (decode cL_law 720 = .ok (.iload_n 3, 1)) ∧ (decode cL_law 721 = .ok (.iconst 2, 1)) ∧ (decode cL_law 722 = .ok (.iadd, 1)) ∧ (decode cL_law 723 = .ok (.iaload, 1)) ∧ (decode cL_law 724 = .ok (.aload_n 0, 1)) ∧ (decode cL_law 725 = .ok (.iload_n 3, 1)) := by decide +kernel
theorem dL_law_718 : decode cL_law 718 = .ok (.iaload, 1) := db_L_law_718.1
theorem dL_law_719 : decode cL_law 719 = .ok (.aload_n 0, 1) := db_L_law_718.2.1
theorem dL_law_720 : decode cL_law 720 = .ok (.iload_n 3, 1) := db_L_law_718.2.2.1
theorem dL_law_721 : decode cL_law 721 = .ok (.iconst 2, 1) := db_L_law_718.2.2.2.1
theorem dL_law_722 : decode cL_law 722 = .ok (.iadd, 1) := db_L_law_718.2.2.2.2.1
theorem dL_law_723 : decode cL_law 723 = .ok (.iaload, 1) := db_L_law_718.2.2.2.2.2.1
theorem dL_law_724 : decode cL_law 724 = .ok (.aload_n 0, 1) := db_L_law_718.2.2.2.2.2.2.1
theorem dL_law_725 : decode cL_law 725 = .ok (.iload_n 3, 1) := db_L_law_718.2.2.2.2.2.2.2
set_option maxRecDepth 20000 in
theorem db_L_law_726 : (decode cL_law 726 = .ok (.iconst 3, 1)) ∧ (decode cL_law 727 = .ok (.iadd, 1)) ∧ (decode cL_law 728 = .ok (.iaload, 1)) ∧ (decode cL_law 729 = .ok (.ifCond .eq 7, 3)) ∧ (decode cL_law 736 = .ok (.iconst 0, 1)) ∧ (decode cL_law 737 = .ok (.aload_n 0, 1)) ∧ (decode cL_law 738 = .ok (.iload_n 3, 1)) ∧ (decode cL_law 739 = .ok (.iconst 4, 1)) := by decide +kernel
theorem dL_law_726 : decode cL_law 726 = .ok (.iconst 3, 1) := db_L_law_726.1
theorem dL_law_727 : decode cL_law 727 = .ok (.iadd, 1) := db_L_law_726.2.1
theorem dL_law_728 : decode cL_law 728 = .ok (.iaload, 1) := db_L_law_726.2.2.1
theorem dL_law_729 : decode cL_law 729 = .ok (.ifCond .eq 7, 3) := db_L_law_726.2.2.2.1
theorem dL_law_736 : decode cL_law 736 = .ok (.iconst 0, 1) := db_L_law_726.2.2.2.2.1
theorem dL_law_737 : decode cL_law 737 = .ok (.aload_n 0, 1) := db_L_law_726.2.2.2.2.2.1
theorem dL_law_738 : decode cL_law 738 = .ok (.iload_n 3, 1) := db_L_law_726.2.2.2.2.2.2.1
theorem dL_law_739 : decode cL_law 739 = .ok (.iconst 4, 1) := db_L_law_726.2.2.2.2.2.2.2
set_option maxRecDepth 20000 in
theorem db_L_law_740 : (decode cL_law 740 = .ok (.iadd, 1)) ∧ (decode cL_law 741 = .ok (.iaload, 1)) ∧ (decode cL_law 742 = .ok (.aload_n 0, 1)) ∧ (decode cL_law 743 = .ok (.iload_n 3, 1)) ∧ (decode cL_law 744 = .ok (.iconst 5, 1)) ∧ (decode cL_law 745 = .ok (.iadd, 1)) ∧ (decode cL_law 746 = .ok (.iaload, 1)) ∧ (decode cL_law 747 = .ok (.aload_n 0, 1)) := by decide +kernel
theorem dL_law_740 : decode cL_law 740 = .ok (.iadd, 1) := db_L_law_740.1
theorem dL_law_741 : decode cL_law 741 = .ok (.iaload, 1) := db_L_law_740.2.1
theorem dL_law_742 : decode cL_law 742 = .ok (.aload_n 0, 1) := db_L_law_740.2.2.1
theorem dL_law_743 : decode cL_law 743 = .ok (.iload_n 3, 1) := db_L_law_740.2.2.2.1
theorem dL_law_744 : decode cL_law 744 = .ok (.iconst 5, 1) := db_L_law_740.2.2.2.2.1
theorem dL_law_745 : decode cL_law 745 = .ok (.iadd, 1) := db_L_law_740.2.2.2.2.2.1
theorem dL_law_746 : decode cL_law 746 = .ok (.iaload, 1) := db_L_law_740.2.2.2.2.2.2.1
theorem dL_law_747 : decode cL_law 747 = .ok (.aload_n 0, 1) := db_L_law_740.2.2.2.2.2.2.2
set_option maxRecDepth 20000 in
theorem db_L_law_748 : (decode cL_law 748 = .ok (.iload_n 3, 1)) ∧ (decode cL_law 749 = .ok (.bipush 6, 2)) ∧ (decode cL_law 751 = .ok (.iadd, 1)) ∧ (decode cL_law 752 = .ok (.iaload, 1)) ∧ (decode cL_law 753 = .ok (.invokevirtual 83, 3)) ∧ (decode cL_law 756 = .ok (.pop, 1)) ∧ (decode cL_law 757 = .ok (.goto 303, 3)) ∧ (decode cL_law 688 = .ok (.iconst 1, 1)) := by decide +kernel
theorem dL_law_748 : decode cL_law 748 = .ok (.iload_n 3, 1) := db_L_law_748.1
theorem dL_law_749 : decode cL_law 749 = .ok (.bipush 6, 2) := db_L_law_748.2.1
theorem dL_law_751 : decode cL_law 751 = .ok (.iadd, 1) := db_L_law_748.2.2.1
theorem dL_law_752 : decode cL_law 752 = .ok (.iaload, 1) := db_L_law_748.2.2.2.1
set_option maxRecDepth 20000 in
theorem ggL_law_X8_term : GoodIn wsL_law wsX8_term := goodIn_ch _ [(18, 21), (3, 13), (7, 19), (7, 20), (7, 21), (0, 5), (7, 22), (4, 12), (4, 13), (4, 14), (10, 23), (11, 0), (11, 1), (7, 3), (7, 4), (7, 5), (18, 22), (18, 23), (19, 0), (30, 0), (30, 1), (30, 2), (30, 3), (30, 4), (30, 5), (30, 6), (30, 7), (30, 8), (30, 9), (30, 10)] rfl (by decide +kernel)
set_option maxRecDepth 20000 in
theorem gL_law_X8_term : GoodIn wsL_law (wsV RL 83 RX8 yX8_term wsX8_term) := goodIn_app (goodIn_ch _ [(18, 18), (18, 19), (18, 20), (0, 5)] rfl (by decide +kernel)) ggL_law_X8_term
theorem dL_law_753 : decode cL_law 753 = .ok (.invokevirtual 83, 3) := db_L_law_748.2.2.2.2.1
theorem dL_law_756 : decode cL_law 756 = .ok (.pop, 1) := db_L_law_748.2.2.2.2.2.1
theorem dL_law_757 : decode cL_law 757 = .ok (.goto 303, 3) := db_L_law_748.2.2.2.2.2.2.1
theorem dL_law_688 : decode cL_law 688 = .ok (.iconst 1, 1) := db_L_law_748.2.2.2.2.2.2.2
set_option maxRecDepth 20000 in
theorem db_L_law_689 : (decode cL_law 689 = .ok (.goto 4, 3)) ∧ (decode cL_law 732 = .ok (.iconst 1, 1)) ∧ (decode cL_law 733 = .ok (.goto 4, 3)) ∧ (decode cL_law 760 = .ok (.aload_n 1, 1)) ∧ (decode cL_law 761 = .ok (.aload_n 0, 1)) ∧ (decode cL_law 762 = .ok (.iload_n 3, 1)) ∧ (decode cL_law 763 = .ok (.iconst 1, 1)) ∧ (decode cL_law 764 = .ok (.iadd, 1)) := by decide +kernel
theorem dL_law_689 : decode cL_law 689 = .ok (.goto 4, 3) := db_L_law_689.1
theorem dL_law_732 : decode cL_law 732 = .ok (.iconst 1, 1) := db_L_law_689.2.1
theorem dL_law_733 : decode cL_law 733 = .ok (.goto 4, 3) := db_L_law_689.2.2.1
theorem dL_law_760 : decode cL_law 760 = .ok (.aload_n 1, 1) := db_L_law_689.2.2.2.1
theorem dL_law_761 : decode cL_law 761 = .ok (.aload_n 0, 1) := db_L_law_689.2.2.2.2.1
theorem dL_law_762 : decode cL_law 762 = .ok (.iload_n 3, 1) := db_L_law_689.2.2.2.2.2.1
theorem dL_law_763 : decode cL_law 763 = .ok (.iconst 1, 1) := db_L_law_689.2.2.2.2.2.2.1
theorem dL_law_764 : decode cL_law 764 = .ok (.iadd, 1) := db_L_law_689.2.2.2.2.2.2.2
set_option maxRecDepth 20000 in
theorem db_L_law_765 : (decode cL_law 765 = .ok (.iaload, 1)) ∧ (decode cL_law 766 = .ok (.invokevirtual 84, 3)) ∧ (decode cL_law 769 = .ok (.pop, 1)) ∧ (decode cL_law 770 = .ok (.aload_n 2, 1)) ∧ (decode cL_law 771 = .ok (.aload_n 0, 1)) ∧ (decode cL_law 772 = .ok (.iload_n 3, 1)) ∧ (decode cL_law 773 = .ok (.iconst 1, 1)) ∧ (decode cL_law 774 = .ok (.iadd, 1)) := by decide +kernel
theorem dL_law_765 : decode cL_law 765 = .ok (.iaload, 1) := db_L_law_765.1
set_option maxRecDepth 20000 in
theorem ggL_law_X7_strike : GoodIn wsL_law wsX7_strike := goodIn_ch _ [(19, 4), (0, 15), (6, 12), (18, 8), (7, 11), (7, 12), (7, 13), (0, 2), (7, 14), (6, 11), (4, 5), (4, 6), (4, 7), (29, 0), (29, 1), (29, 2), (29, 3), (29, 4), (31, 0), (31, 1), (31, 2), (31, 3), (31, 4), (31, 5), (31, 6), (36, 0), (36, 1), (36, 2), (36, 3), (36, 4), (36, 5), (36, 6), (36, 7), (36, 8), (36, 9), (36, 10)] rfl (by decide +kernel)
set_option maxRecDepth 20000 in
theorem gL_law_X7_strike : GoodIn wsL_law (wsV RL 84 RX7 yX7_strike wsX7_strike) := goodIn_app (goodIn_ch _ [(19, 1), (19, 2), (19, 3), (0, 2)] rfl (by decide +kernel)) ggL_law_X7_strike
theorem dL_law_766 : decode cL_law 766 = .ok (.invokevirtual 84, 3) := db_L_law_765.2.1
theorem dL_law_769 : decode cL_law 769 = .ok (.pop, 1) := db_L_law_765.2.2.1
theorem dL_law_770 : decode cL_law 770 = .ok (.aload_n 2, 1) := db_L_law_765.2.2.2.1
theorem dL_law_771 : decode cL_law 771 = .ok (.aload_n 0, 1) := db_L_law_765.2.2.2.2.1
theorem dL_law_772 : decode cL_law 772 = .ok (.iload_n 3, 1) := db_L_law_765.2.2.2.2.2.1
theorem dL_law_773 : decode cL_law 773 = .ok (.iconst 1, 1) := db_L_law_765.2.2.2.2.2.2.1
theorem dL_law_774 : decode cL_law 774 = .ok (.iadd, 1) := db_L_law_765.2.2.2.2.2.2.2
set_option maxRecDepth 20000 in
theorem db_L_law_775 : (decode cL_law 775 = .ok (.iaload, 1)) ∧ (decode cL_law 776 = .ok (.invokevirtual 87, 3)) ∧ (decode cL_law 779 = .ok (.pop, 1)) ∧ (decode cL_law 780 = .ok (.goto 280, 3)) ∧ (decode cL_law 783 = .ok (.aload_n 1, 1)) ∧ (decode cL_law 784 = .ok (.aload_n 0, 1)) ∧ (decode cL_law 785 = .ok (.iload_n 3, 1)) ∧ (decode cL_law 786 = .ok (.iconst 1, 1)) := by decide +kernel
theorem dL_law_775 : decode cL_law 775 = .ok (.iaload, 1) := db_L_law_775.1
set_option maxRecDepth 20000 in
theorem ggL_law_X8_strike : GoodIn wsL_law wsX8_strike := goodIn_ch _ [(19, 8), (3, 13), (7, 19), (7, 20), (7, 21), (0, 5), (7, 22), (4, 12), (4, 13), (4, 14), (7, 3), (7, 4), (7, 5), (30, 0), (30, 1), (30, 2), (30, 3), (30, 4), (30, 5), (30, 6), (30, 7), (30, 8), (30, 9), (30, 10)] rfl (by decide +kernel)
set_option maxRecDepth 20000 in
theorem gL_law_X8_strike : GoodIn wsL_law (wsV RL 87 RX8 yX8_strike wsX8_strike) := goodIn_app (goodIn_ch _ [(19, 5), (19, 6), (19, 7), (0, 5)] rfl (by decide +kernel)) ggL_law_X8_strike
theorem dL_law_776 : decode cL_law 776 = .ok (.invokevirtual 87, 3) := db_L_law_775.2.1
theorem dL_law_779 : decode cL_law 779 = .ok (.pop, 1) := db_L_law_775.2.2.1
theorem dL_law_780 : decode cL_law 780 = .ok (.goto 280, 3) := db_L_law_775.2.2.2.1
theorem dL_law_783 : decode cL_law 783 = .ok (.aload_n 1, 1) := db_L_law_775.2.2.2.2.1
theorem dL_law_784 : decode cL_law 784 = .ok (.aload_n 0, 1) := db_L_law_775.2.2.2.2.2.1
theorem dL_law_785 : decode cL_law 785 = .ok (.iload_n 3, 1) := db_L_law_775.2.2.2.2.2.2.1
theorem dL_law_786 : decode cL_law 786 = .ok (.iconst 1, 1) := db_L_law_775.2.2.2.2.2.2.2
set_option maxRecDepth 20000 in
theorem db_L_law_787 : (decode cL_law 787 = .ok (.iadd, 1)) ∧ (decode cL_law 788 = .ok (.iaload, 1)) ∧ (decode cL_law 789 = .ok (.aload_n 0, 1)) ∧ (decode cL_law 790 = .ok (.iload_n 3, 1)) ∧ (decode cL_law 791 = .ok (.iconst 2, 1)) ∧ (decode cL_law 792 = .ok (.iadd, 1)) ∧ (decode cL_law 793 = .ok (.iaload, 1)) ∧ (decode cL_law 794 = .ok (.aload_n 0, 1)) := by decide +kernel
theorem dL_law_787 : decode cL_law 787 = .ok (.iadd, 1) := db_L_law_787.1
theorem dL_law_788 : decode cL_law 788 = .ok (.iaload, 1) := db_L_law_787.2.1
theorem dL_law_789 : decode cL_law 789 = .ok (.aload_n 0, 1) := db_L_law_787.2.2.1
theorem dL_law_790 : decode cL_law 790 = .ok (.iload_n 3, 1) := db_L_law_787.2.2.2.1
theorem dL_law_791 : decode cL_law 791 = .ok (.iconst 2, 1) := db_L_law_787.2.2.2.2.1
theorem dL_law_792 : decode cL_law 792 = .ok (.iadd, 1) := db_L_law_787.2.2.2.2.2.1
theorem dL_law_793 : decode cL_law 793 = .ok (.iaload, 1) := db_L_law_787.2.2.2.2.2.2.1
theorem dL_law_794 : decode cL_law 794 = .ok (.aload_n 0, 1) := db_L_law_787.2.2.2.2.2.2.2
set_option maxRecDepth 20000 in
theorem db_L_law_795 : (decode cL_law 795 = .ok (.iload_n 3, 1)) ∧ (decode cL_law 796 = .ok (.iconst 3, 1)) ∧ (decode cL_law 797 = .ok (.iadd, 1)) ∧ (decode cL_law 798 = .ok (.iaload, 1)) ∧ (decode cL_law 799 = .ok (.invokevirtual 88, 3)) ∧ (decode cL_law 802 = .ok (.pop, 1)) ∧ (decode cL_law 803 = .ok (.aload_n 2, 1)) ∧ (decode cL_law 804 = .ok (.aload_n 0, 1)) := by decide +kernel
theorem dL_law_795 : decode cL_law 795 = .ok (.iload_n 3, 1) := db_L_law_795.1
theorem dL_law_796 : decode cL_law 796 = .ok (.iconst 3, 1) := db_L_law_795.2.1
theorem dL_law_797 : decode cL_law 797 = .ok (.iadd, 1) := db_L_law_795.2.2.1
theorem dL_law_798 : decode cL_law 798 = .ok (.iaload, 1) := db_L_law_795.2.2.2.1
set_option maxRecDepth 20000 in
theorem ggL_law_X7_termOf : GoodIn wsL_law wsX7_termOf := goodIn_ch _ [(19, 12), (0, 15), (6, 12), (18, 9), (18, 10), (18, 11), (18, 12), (18, 13), (18, 14), (19, 13), (19, 14), (19, 15), (0, 2), (19, 16), (18, 8), (7, 11), (7, 12), (7, 13), (7, 14), (6, 11), (4, 5), (4, 6), (4, 7), (29, 0), (29, 1), (29, 2), (29, 3), (29, 4), (31, 0), (31, 1), (31, 2), (31, 3), (31, 4), (31, 5), (31, 6), (36, 0), (36, 1), (36, 2), (36, 3), (36, 4), (36, 5), (36, 6), (36, 7), (36, 8), (36, 9), (36, 10), (37, 0), (37, 1), (37, 2), (37, 3), (37, 4)] rfl (by decide +kernel)
set_option maxRecDepth 20000 in
theorem gL_law_X7_termOf : GoodIn wsL_law (wsV RL 88 RX7 yX7_termOf wsX7_termOf) := goodIn_app (goodIn_ch _ [(19, 9), (19, 10), (19, 11), (0, 2)] rfl (by decide +kernel)) ggL_law_X7_termOf
theorem dL_law_799 : decode cL_law 799 = .ok (.invokevirtual 88, 3) := db_L_law_795.2.2.2.2.1
theorem dL_law_802 : decode cL_law 802 = .ok (.pop, 1) := db_L_law_795.2.2.2.2.2.1
theorem dL_law_803 : decode cL_law 803 = .ok (.aload_n 2, 1) := db_L_law_795.2.2.2.2.2.2.1
theorem dL_law_804 : decode cL_law 804 = .ok (.aload_n 0, 1) := db_L_law_795.2.2.2.2.2.2.2
set_option maxRecDepth 20000 in
theorem db_L_law_805 : (decode cL_law 805 = .ok (.iload_n 3, 1)) ∧ (decode cL_law 806 = .ok (.iconst 1, 1)) ∧ (decode cL_law 807 = .ok (.iadd, 1)) ∧ (decode cL_law 808 = .ok (.iaload, 1)) ∧ (decode cL_law 809 = .ok (.aload_n 0, 1)) ∧ (decode cL_law 810 = .ok (.iload_n 3, 1)) ∧ (decode cL_law 811 = .ok (.iconst 2, 1)) ∧ (decode cL_law 812 = .ok (.iadd, 1)) := by decide +kernel
theorem dL_law_805 : decode cL_law 805 = .ok (.iload_n 3, 1) := db_L_law_805.1
theorem dL_law_806 : decode cL_law 806 = .ok (.iconst 1, 1) := db_L_law_805.2.1
theorem dL_law_807 : decode cL_law 807 = .ok (.iadd, 1) := db_L_law_805.2.2.1
theorem dL_law_808 : decode cL_law 808 = .ok (.iaload, 1) := db_L_law_805.2.2.2.1
theorem dL_law_809 : decode cL_law 809 = .ok (.aload_n 0, 1) := db_L_law_805.2.2.2.2.1
theorem dL_law_810 : decode cL_law 810 = .ok (.iload_n 3, 1) := db_L_law_805.2.2.2.2.2.1
theorem dL_law_811 : decode cL_law 811 = .ok (.iconst 2, 1) := db_L_law_805.2.2.2.2.2.2.1
theorem dL_law_812 : decode cL_law 812 = .ok (.iadd, 1) := db_L_law_805.2.2.2.2.2.2.2
set_option maxRecDepth 20000 in
theorem db_L_law_813 : (decode cL_law 813 = .ok (.iaload, 1)) ∧ (decode cL_law 814 = .ok (.aload_n 0, 1)) ∧ (decode cL_law 815 = .ok (.iload_n 3, 1)) ∧ (decode cL_law 816 = .ok (.iconst 3, 1)) ∧ (decode cL_law 817 = .ok (.iadd, 1)) ∧ (decode cL_law 818 = .ok (.iaload, 1)) ∧ (decode cL_law 819 = .ok (.invokevirtual 91, 3)) ∧ (decode cL_law 822 = .ok (.pop, 1)) := by decide +kernel
theorem dL_law_813 : decode cL_law 813 = .ok (.iaload, 1) := db_L_law_813.1
theorem dL_law_814 : decode cL_law 814 = .ok (.aload_n 0, 1) := db_L_law_813.2.1
theorem dL_law_815 : decode cL_law 815 = .ok (.iload_n 3, 1) := db_L_law_813.2.2.1
theorem dL_law_816 : decode cL_law 816 = .ok (.iconst 3, 1) := db_L_law_813.2.2.2.1
theorem dL_law_817 : decode cL_law 817 = .ok (.iadd, 1) := db_L_law_813.2.2.2.2.1
theorem dL_law_818 : decode cL_law 818 = .ok (.iaload, 1) := db_L_law_813.2.2.2.2.2.1
set_option maxRecDepth 20000 in
theorem ggL_law_X8_termOf : GoodIn wsL_law wsX8_termOf := goodIn_ch _ [(19, 20), (3, 13), (19, 21), (19, 22), (19, 23), (0, 5), (20, 0), (7, 19), (7, 20), (7, 21), (7, 22), (4, 12), (4, 13), (4, 14), (7, 3), (7, 4), (7, 5), (18, 22), (18, 23), (19, 0), (30, 0), (30, 1), (30, 2), (30, 3), (30, 4), (30, 5), (30, 6), (30, 7), (30, 8), (30, 9), (30, 10)] rfl (by decide +kernel)
set_option maxRecDepth 20000 in
theorem gL_law_X8_termOf : GoodIn wsL_law (wsV RL 91 RX8 yX8_termOf wsX8_termOf) := goodIn_app (goodIn_ch _ [(19, 17), (19, 18), (19, 19), (0, 5)] rfl (by decide +kernel)) ggL_law_X8_termOf
theorem dL_law_819 : decode cL_law 819 = .ok (.invokevirtual 91, 3) := db_L_law_813.2.2.2.2.2.2.1
theorem dL_law_822 : decode cL_law 822 = .ok (.pop, 1) := db_L_law_813.2.2.2.2.2.2.2
set_option maxRecDepth 20000 in
theorem db_L_law_823 : (decode cL_law 823 = .ok (.goto 237, 3)) ∧ (decode cL_law 826 = .ok (.aload_n 1, 1)) ∧ (decode cL_law 827 = .ok (.aload_n 0, 1)) ∧ (decode cL_law 828 = .ok (.iload_n 3, 1)) ∧ (decode cL_law 829 = .ok (.iconst 1, 1)) ∧ (decode cL_law 830 = .ok (.iadd, 1)) ∧ (decode cL_law 831 = .ok (.iaload, 1)) ∧ (decode cL_law 832 = .ok (.aload_n 0, 1)) := by decide +kernel
theorem dL_law_823 : decode cL_law 823 = .ok (.goto 237, 3) := db_L_law_823.1
theorem dL_law_826 : decode cL_law 826 = .ok (.aload_n 1, 1) := db_L_law_823.2.1
theorem dL_law_827 : decode cL_law 827 = .ok (.aload_n 0, 1) := db_L_law_823.2.2.1
theorem dL_law_828 : decode cL_law 828 = .ok (.iload_n 3, 1) := db_L_law_823.2.2.2.1
theorem dL_law_829 : decode cL_law 829 = .ok (.iconst 1, 1) := db_L_law_823.2.2.2.2.1
theorem dL_law_830 : decode cL_law 830 = .ok (.iadd, 1) := db_L_law_823.2.2.2.2.2.1
theorem dL_law_831 : decode cL_law 831 = .ok (.iaload, 1) := db_L_law_823.2.2.2.2.2.2.1
theorem dL_law_832 : decode cL_law 832 = .ok (.aload_n 0, 1) := db_L_law_823.2.2.2.2.2.2.2
set_option maxRecDepth 20000 in
theorem db_L_law_833 : (decode cL_law 833 = .ok (.iload_n 3, 1)) ∧ (decode cL_law 834 = .ok (.iconst 2, 1)) ∧ (decode cL_law 835 = .ok (.iadd, 1)) ∧ (decode cL_law 836 = .ok (.iaload, 1)) ∧ (decode cL_law 837 = .ok (.invokevirtual 92, 3)) ∧ (decode cL_law 840 = .ok (.pop, 1)) ∧ (decode cL_law 841 = .ok (.aload_n 2, 1)) ∧ (decode cL_law 842 = .ok (.aload_n 0, 1)) := by decide +kernel
theorem dL_law_833 : decode cL_law 833 = .ok (.iload_n 3, 1) := db_L_law_833.1
theorem dL_law_834 : decode cL_law 834 = .ok (.iconst 2, 1) := db_L_law_833.2.1
theorem dL_law_835 : decode cL_law 835 = .ok (.iadd, 1) := db_L_law_833.2.2.1
theorem dL_law_836 : decode cL_law 836 = .ok (.iaload, 1) := db_L_law_833.2.2.2.1
set_option maxRecDepth 20000 in
theorem ggL_law_X7_hour : GoodIn wsL_law wsX7_hour := goodIn_ch _ [(20, 4), (0, 15), (6, 12), (18, 9), (18, 11), (0, 23), (18, 10), (18, 8), (19, 13), (19, 14), (19, 15), (0, 2), (19, 16), (7, 11), (7, 12), (7, 13), (7, 14), (6, 11), (4, 5), (4, 6), (4, 7), (20, 5), (20, 6), (20, 7), (0, 22), (20, 8), (20, 9), (20, 10), (20, 11), (20, 12), (3, 7), (3, 8), (20, 13), (20, 14), (20, 15), (20, 16), (20, 17), (20, 18), (20, 19), (2, 13), (20, 20), (20, 21), (20, 22), (20, 23), (21, 0), (21, 1), (21, 2), (5, 17), (5, 18), (21, 3), (9, 13), (9, 14), (9, 15), (9, 16), (9, 17), (9, 18), (21, 4), (21, 5), (21, 6), (21, 7), (21, 8), (21, 9), (21, 10), (21, 11), (21, 12), (29, 0), (29, 1), (29, 2), (29, 3), (29, 4), (31, 0), (31, 1), (31, 2), (31, 3), (31, 4), (31, 5), (31, 6), (36, 0), (36, 1), (36, 2), (36, 3), (36, 4), (36, 5), (36, 6), (36, 7), (36, 8), (36, 9), (36, 10), (37, 0), (37, 1), (37, 2), (37, 3), (37, 4), (33, 0), (33, 1), (33, 2)] rfl (by decide +kernel)
set_option maxRecDepth 20000 in
theorem gL_law_X7_hour : GoodIn wsL_law (wsV RL 92 RX7 yX7_hour wsX7_hour) := goodIn_app (goodIn_ch _ [(20, 1), (20, 2), (20, 3), (0, 2)] rfl (by decide +kernel)) ggL_law_X7_hour
theorem dL_law_837 : decode cL_law 837 = .ok (.invokevirtual 92, 3) := db_L_law_833.2.2.2.2.1
theorem dL_law_840 : decode cL_law 840 = .ok (.pop, 1) := db_L_law_833.2.2.2.2.2.1
theorem dL_law_841 : decode cL_law 841 = .ok (.aload_n 2, 1) := db_L_law_833.2.2.2.2.2.2.1
theorem dL_law_842 : decode cL_law 842 = .ok (.aload_n 0, 1) := db_L_law_833.2.2.2.2.2.2.2
set_option maxRecDepth 20000 in
theorem db_L_law_843 : (decode cL_law 843 = .ok (.iload_n 3, 1)) ∧ (decode cL_law 844 = .ok (.iconst 1, 1)) ∧ (decode cL_law 845 = .ok (.iadd, 1)) ∧ (decode cL_law 846 = .ok (.iaload, 1)) ∧ (decode cL_law 847 = .ok (.aload_n 0, 1)) ∧ (decode cL_law 848 = .ok (.iload_n 3, 1)) ∧ (decode cL_law 849 = .ok (.iconst 2, 1)) ∧ (decode cL_law 850 = .ok (.iadd, 1)) := by decide +kernel
theorem dL_law_843 : decode cL_law 843 = .ok (.iload_n 3, 1) := db_L_law_843.1
theorem dL_law_844 : decode cL_law 844 = .ok (.iconst 1, 1) := db_L_law_843.2.1
theorem dL_law_845 : decode cL_law 845 = .ok (.iadd, 1) := db_L_law_843.2.2.1
theorem dL_law_846 : decode cL_law 846 = .ok (.iaload, 1) := db_L_law_843.2.2.2.1
theorem dL_law_847 : decode cL_law 847 = .ok (.aload_n 0, 1) := db_L_law_843.2.2.2.2.1
theorem dL_law_848 : decode cL_law 848 = .ok (.iload_n 3, 1) := db_L_law_843.2.2.2.2.2.1
theorem dL_law_849 : decode cL_law 849 = .ok (.iconst 2, 1) := db_L_law_843.2.2.2.2.2.2.1
theorem dL_law_850 : decode cL_law 850 = .ok (.iadd, 1) := db_L_law_843.2.2.2.2.2.2.2
set_option maxRecDepth 20000 in
theorem db_L_law_851 : (decode cL_law 851 = .ok (.iaload, 1)) ∧ (decode cL_law 852 = .ok (.invokevirtual 95, 3)) ∧ (decode cL_law 855 = .ok (.pop, 1)) ∧ (decode cL_law 856 = .ok (.goto 204, 3)) ∧ (decode cL_law 859 = .ok (.aload_n 1, 1)) ∧ (decode cL_law 860 = .ok (.aload_n 0, 1)) ∧ (decode cL_law 861 = .ok (.iload_n 3, 1)) ∧ (decode cL_law 862 = .ok (.iconst 1, 1)) := by decide +kernel
theorem dL_law_851 : decode cL_law 851 = .ok (.iaload, 1) := db_L_law_851.1
set_option maxRecDepth 20000 in
theorem ggL_law_X8_hour : GoodIn wsL_law wsX8_hour := goodIn_ch _ [(21, 16), (3, 13), (3, 20), (19, 21), (19, 22), (19, 23), (0, 5), (20, 0), (7, 19), (7, 20), (7, 21), (7, 22), (4, 12), (4, 13), (4, 14), (7, 3), (7, 4), (7, 5), (18, 22), (18, 23), (19, 0), (21, 17), (21, 18), (21, 19), (21, 20), (21, 21), (21, 22), (21, 23), (22, 0), (22, 1), (22, 2), (22, 3), (22, 4), (22, 5), (22, 6), (22, 7), (22, 8), (22, 9), (22, 10), (22, 11), (22, 12), (30, 0), (30, 1), (30, 2), (30, 3), (30, 4), (30, 5), (30, 6), (30, 7), (30, 8), (30, 9), (30, 10)] rfl (by decide +kernel)
set_option maxRecDepth 20000 in
theorem gL_law_X8_hour : GoodIn wsL_law (wsV RL 95 RX8 yX8_hour wsX8_hour) := goodIn_app (goodIn_ch _ [(21, 13), (21, 14), (21, 15), (0, 5)] rfl (by decide +kernel)) ggL_law_X8_hour
theorem dL_law_852 : decode cL_law 852 = .ok (.invokevirtual 95, 3) := db_L_law_851.2.1
theorem dL_law_855 : decode cL_law 855 = .ok (.pop, 1) := db_L_law_851.2.2.1
theorem dL_law_856 : decode cL_law 856 = .ok (.goto 204, 3) := db_L_law_851.2.2.2.1
theorem dL_law_859 : decode cL_law 859 = .ok (.aload_n 1, 1) := db_L_law_851.2.2.2.2.1
theorem dL_law_860 : decode cL_law 860 = .ok (.aload_n 0, 1) := db_L_law_851.2.2.2.2.2.1
theorem dL_law_861 : decode cL_law 861 = .ok (.iload_n 3, 1) := db_L_law_851.2.2.2.2.2.2.1
theorem dL_law_862 : decode cL_law 862 = .ok (.iconst 1, 1) := db_L_law_851.2.2.2.2.2.2.2
set_option maxRecDepth 20000 in
theorem db_L_law_863 : (decode cL_law 863 = .ok (.iadd, 1)) ∧ (decode cL_law 864 = .ok (.iaload, 1)) ∧ (decode cL_law 865 = .ok (.aload_n 0, 1)) ∧ (decode cL_law 866 = .ok (.iload_n 3, 1)) ∧ (decode cL_law 867 = .ok (.iconst 2, 1)) ∧ (decode cL_law 868 = .ok (.iadd, 1)) ∧ (decode cL_law 869 = .ok (.iaload, 1)) ∧ (decode cL_law 870 = .ok (.invokevirtual 96, 3)) := by decide +kernel
theorem dL_law_863 : decode cL_law 863 = .ok (.iadd, 1) := db_L_law_863.1
theorem dL_law_864 : decode cL_law 864 = .ok (.iaload, 1) := db_L_law_863.2.1
theorem dL_law_865 : decode cL_law 865 = .ok (.aload_n 0, 1) := db_L_law_863.2.2.1
theorem dL_law_866 : decode cL_law 866 = .ok (.iload_n 3, 1) := db_L_law_863.2.2.2.1
theorem dL_law_867 : decode cL_law 867 = .ok (.iconst 2, 1) := db_L_law_863.2.2.2.2.1
theorem dL_law_868 : decode cL_law 868 = .ok (.iadd, 1) := db_L_law_863.2.2.2.2.2.1
theorem dL_law_869 : decode cL_law 869 = .ok (.iaload, 1) := db_L_law_863.2.2.2.2.2.2.1
set_option maxRecDepth 20000 in
theorem ggL_law_X7_canHold : GoodIn wsL_law wsX7_canHold := goodIn_ch _ [(22, 16), (0, 23), (0, 15), (6, 12), (18, 8), (7, 11), (7, 12), (7, 13), (0, 2), (7, 14), (6, 11), (4, 5), (4, 6), (4, 7), (10, 12), (10, 13), (10, 14), (20, 5), (20, 6), (20, 7), (0, 22), (20, 8), (20, 9), (20, 10), (20, 11), (20, 12), (3, 7), (3, 8), (20, 13), (20, 14), (20, 15), (20, 16), (20, 17), (20, 18), (20, 19), (2, 13), (20, 20), (20, 21), (20, 22), (20, 23), (21, 0), (21, 1), (21, 2), (5, 17), (5, 18), (21, 3), (9, 13), (9, 14), (9, 15), (9, 16), (9, 17), (9, 18), (29, 0), (29, 1), (29, 2), (29, 3), (29, 4), (31, 0), (31, 1), (31, 2), (31, 3), (31, 4), (31, 5), (31, 6), (36, 0), (36, 1), (36, 2), (36, 3), (36, 4), (36, 5), (36, 6), (36, 7), (36, 8), (36, 9), (36, 10), (33, 0), (33, 1), (33, 2), (37, 0), (37, 1), (37, 2), (37, 3), (37, 4)] rfl (by decide +kernel)
set_option maxRecDepth 20000 in
theorem gL_law_X7_canHold : GoodIn wsL_law (wsV RL 96 RX7 yX7_canHold wsX7_canHold) := goodIn_app (goodIn_ch _ [(22, 13), (22, 14), (22, 15), (0, 2)] rfl (by decide +kernel)) ggL_law_X7_canHold
theorem dL_law_870 : decode cL_law 870 = .ok (.invokevirtual 96, 3) := db_L_law_863.2.2.2.2.2.2.2
set_option maxRecDepth 20000 in
theorem db_L_law_873 : (decode cL_law 873 = .ok (.pop, 1)) ∧ (decode cL_law 874 = .ok (.aload_n 2, 1)) ∧ (decode cL_law 875 = .ok (.aload_n 0, 1)) ∧ (decode cL_law 876 = .ok (.iload_n 3, 1)) ∧ (decode cL_law 877 = .ok (.iconst 1, 1)) ∧ (decode cL_law 878 = .ok (.iadd, 1)) ∧ (decode cL_law 879 = .ok (.iaload, 1)) ∧ (decode cL_law 880 = .ok (.aload_n 0, 1)) := by decide +kernel
theorem dL_law_873 : decode cL_law 873 = .ok (.pop, 1) := db_L_law_873.1
theorem dL_law_874 : decode cL_law 874 = .ok (.aload_n 2, 1) := db_L_law_873.2.1
theorem dL_law_875 : decode cL_law 875 = .ok (.aload_n 0, 1) := db_L_law_873.2.2.1
theorem dL_law_876 : decode cL_law 876 = .ok (.iload_n 3, 1) := db_L_law_873.2.2.2.1
theorem dL_law_877 : decode cL_law 877 = .ok (.iconst 1, 1) := db_L_law_873.2.2.2.2.1
theorem dL_law_878 : decode cL_law 878 = .ok (.iadd, 1) := db_L_law_873.2.2.2.2.2.1
theorem dL_law_879 : decode cL_law 879 = .ok (.iaload, 1) := db_L_law_873.2.2.2.2.2.2.1
theorem dL_law_880 : decode cL_law 880 = .ok (.aload_n 0, 1) := db_L_law_873.2.2.2.2.2.2.2
set_option maxRecDepth 20000 in
theorem db_L_law_881 : (decode cL_law 881 = .ok (.iload_n 3, 1)) ∧ (decode cL_law 882 = .ok (.iconst 2, 1)) ∧ (decode cL_law 883 = .ok (.iadd, 1)) ∧ (decode cL_law 884 = .ok (.iaload, 1)) ∧ (decode cL_law 885 = .ok (.invokevirtual 99, 3)) ∧ (decode cL_law 888 = .ok (.pop, 1)) ∧ (decode cL_law 889 = .ok (.goto 171, 3)) ∧ (decode cL_law 892 = .ok (.aload_n 1, 1)) := by decide +kernel
theorem dL_law_881 : decode cL_law 881 = .ok (.iload_n 3, 1) := db_L_law_881.1
theorem dL_law_882 : decode cL_law 882 = .ok (.iconst 2, 1) := db_L_law_881.2.1
theorem dL_law_883 : decode cL_law 883 = .ok (.iadd, 1) := db_L_law_881.2.2.1
theorem dL_law_884 : decode cL_law 884 = .ok (.iaload, 1) := db_L_law_881.2.2.2.1
set_option maxRecDepth 20000 in
theorem ggL_law_X8_canHold : GoodIn wsL_law wsX8_canHold := goodIn_ch _ [(22, 20), (3, 13), (7, 19), (7, 20), (7, 21), (0, 5), (7, 22), (4, 12), (4, 13), (4, 14), (10, 23), (11, 0), (11, 1), (7, 3), (7, 4), (7, 5), (21, 17), (21, 18), (21, 19), (21, 20), (3, 20), (21, 21), (21, 22), (21, 23), (22, 0), (22, 1), (22, 2), (22, 3), (22, 4), (18, 22), (18, 23), (19, 0), (22, 5), (22, 6), (22, 7), (22, 8), (22, 9), (22, 10), (22, 11), (22, 12), (30, 0), (30, 1), (30, 2), (30, 3), (30, 4), (30, 5), (30, 6), (30, 7), (30, 8), (30, 9), (30, 10)] rfl (by decide +kernel)
set_option maxRecDepth 20000 in
theorem gL_law_X8_canHold : GoodIn wsL_law (wsV RL 99 RX8 yX8_canHold wsX8_canHold) := goodIn_app (goodIn_ch _ [(22, 17), (22, 18), (22, 19), (0, 5)] rfl (by decide +kernel)) ggL_law_X8_canHold
theorem dL_law_885 : decode cL_law 885 = .ok (.invokevirtual 99, 3) := db_L_law_881.2.2.2.2.1
theorem dL_law_888 : decode cL_law 888 = .ok (.pop, 1) := db_L_law_881.2.2.2.2.2.1
theorem dL_law_889 : decode cL_law 889 = .ok (.goto 171, 3) := db_L_law_881.2.2.2.2.2.2.1
theorem dL_law_892 : decode cL_law 892 = .ok (.aload_n 1, 1) := db_L_law_881.2.2.2.2.2.2.2
set_option maxRecDepth 20000 in
theorem db_L_law_893 : (decode cL_law 893 = .ok (.aload_n 0, 1)) ∧ (decode cL_law 894 = .ok (.iload_n 3, 1)) ∧ (decode cL_law 895 = .ok (.iconst 1, 1)) ∧ (decode cL_law 896 = .ok (.iadd, 1)) ∧ (decode cL_law 897 = .ok (.iaload, 1)) ∧ (decode cL_law 898 = .ok (.aload_n 0, 1)) ∧ (decode cL_law 899 = .ok (.iload_n 3, 1)) ∧ (decode cL_law 900 = .ok (.iconst 2, 1)) := by decide +kernel
theorem dL_law_893 : decode cL_law 893 = .ok (.aload_n 0, 1) := db_L_law_893.1
theorem dL_law_894 : decode cL_law 894 = .ok (.iload_n 3, 1) := db_L_law_893.2.1
theorem dL_law_895 : decode cL_law 895 = .ok (.iconst 1, 1) := db_L_law_893.2.2.1
theorem dL_law_896 : decode cL_law 896 = .ok (.iadd, 1) := db_L_law_893.2.2.2.1
theorem dL_law_897 : decode cL_law 897 = .ok (.iaload, 1) := db_L_law_893.2.2.2.2.1
theorem dL_law_898 : decode cL_law 898 = .ok (.aload_n 0, 1) := db_L_law_893.2.2.2.2.2.1
theorem dL_law_899 : decode cL_law 899 = .ok (.iload_n 3, 1) := db_L_law_893.2.2.2.2.2.2.1
theorem dL_law_900 : decode cL_law 900 = .ok (.iconst 2, 1) := db_L_law_893.2.2.2.2.2.2.2
set_option maxRecDepth 20000 in
theorem db_L_law_901 : (decode cL_law 901 = .ok (.iadd, 1)) ∧ (decode cL_law 902 = .ok (.iaload, 1)) ∧ (decode cL_law 903 = .ok (.invokevirtual 100, 3)) ∧ (decode cL_law 906 = .ok (.aload_n 2, 1)) ∧ (decode cL_law 907 = .ok (.aload_n 0, 1)) ∧ (decode cL_law 908 = .ok (.iload_n 3, 1)) ∧ (decode cL_law 909 = .ok (.iconst 1, 1)) ∧ (decode cL_law 910 = .ok (.iadd, 1)) := by decide +kernel
theorem dL_law_901 : decode cL_law 901 = .ok (.iadd, 1) := db_L_law_901.1
theorem dL_law_902 : decode cL_law 902 = .ok (.iaload, 1) := db_L_law_901.2.1
set_option maxRecDepth 20000 in
theorem ggL_law_X7_breaks : GoodIn wsL_law wsX7_breaks := goodIn_ch _ [(23, 0), (0, 15), (6, 12), (18, 8), (18, 9), (18, 10), (0, 23), (7, 11), (7, 12), (7, 13), (0, 2), (7, 14), (6, 11), (4, 5), (4, 6), (4, 7), (10, 12), (10, 13), (10, 14), (20, 5), (20, 6), (20, 7), (0, 22), (20, 8), (20, 9), (20, 10), (20, 11), (20, 12), (3, 7), (3, 8), (20, 13), (20, 14), (20, 15), (20, 16), (20, 17), (20, 18), (20, 19), (2, 13), (20, 20), (20, 21), (20, 22), (20, 23), (21, 0), (21, 1), (21, 2), (5, 17), (5, 18), (21, 3), (9, 13), (9, 14), (9, 15), (9, 16), (9, 17), (9, 18), (29, 0), (29, 1), (29, 2), (29, 3), (29, 4), (31, 0), (31, 1), (31, 2), (31, 3), (31, 4), (31, 5), (31, 6), (36, 0), (36, 1), (36, 2), (36, 3), (36, 4), (36, 5), (36, 6), (36, 7), (36, 8), (36, 9), (36, 10), (37, 0), (37, 1), (37, 2), (37, 3), (37, 4), (33, 0), (33, 1), (33, 2)] rfl (by decide +kernel)
set_option maxRecDepth 20000 in
theorem gL_law_X7_breaks : GoodIn wsL_law (wsV RL 100 RX7 yX7_breaks wsX7_breaks) := goodIn_app (goodIn_ch _ [(22, 21), (22, 22), (22, 23), (0, 2)] rfl (by decide +kernel)) ggL_law_X7_breaks
theorem dL_law_903 : decode cL_law 903 = .ok (.invokevirtual 100, 3) := db_L_law_901.2.2.1
theorem dL_law_906 : decode cL_law 906 = .ok (.aload_n 2, 1) := db_L_law_901.2.2.2.1
theorem dL_law_907 : decode cL_law 907 = .ok (.aload_n 0, 1) := db_L_law_901.2.2.2.2.1
theorem dL_law_908 : decode cL_law 908 = .ok (.iload_n 3, 1) := db_L_law_901.2.2.2.2.2.1
theorem dL_law_909 : decode cL_law 909 = .ok (.iconst 1, 1) := db_L_law_901.2.2.2.2.2.2.1
theorem dL_law_910 : decode cL_law 910 = .ok (.iadd, 1) := db_L_law_901.2.2.2.2.2.2.2
set_option maxRecDepth 20000 in
theorem db_L_law_911 : (decode cL_law 911 = .ok (.iaload, 1)) ∧ (decode cL_law 912 = .ok (.aload_n 0, 1)) ∧ (decode cL_law 913 = .ok (.iload_n 3, 1)) ∧ (decode cL_law 914 = .ok (.iconst 2, 1)) ∧ (decode cL_law 915 = .ok (.iadd, 1)) ∧ (decode cL_law 916 = .ok (.iaload, 1)) ∧ (decode cL_law 917 = .ok (.invokevirtual 103, 3)) ∧ (decode cL_law 920 = .ok (.if_icmp .eq 140, 3)) := by decide +kernel
theorem dL_law_911 : decode cL_law 911 = .ok (.iaload, 1) := db_L_law_911.1
theorem dL_law_912 : decode cL_law 912 = .ok (.aload_n 0, 1) := db_L_law_911.2.1
theorem dL_law_913 : decode cL_law 913 = .ok (.iload_n 3, 1) := db_L_law_911.2.2.1
theorem dL_law_914 : decode cL_law 914 = .ok (.iconst 2, 1) := db_L_law_911.2.2.2.1
theorem dL_law_915 : decode cL_law 915 = .ok (.iadd, 1) := db_L_law_911.2.2.2.2.1
theorem dL_law_916 : decode cL_law 916 = .ok (.iaload, 1) := db_L_law_911.2.2.2.2.2.1
set_option maxRecDepth 20000 in
theorem ggL_law_X8_breaks : GoodIn wsL_law wsX8_breaks := goodIn_ch _ [(23, 4), (3, 13), (7, 19), (7, 20), (7, 21), (0, 5), (7, 22), (4, 12), (4, 13), (4, 14), (10, 23), (11, 0), (11, 1), (7, 3), (7, 4), (7, 5), (18, 22), (18, 23), (19, 0), (21, 17), (21, 18), (21, 19), (21, 20), (3, 20), (21, 21), (21, 22), (21, 23), (22, 0), (22, 1), (22, 2), (22, 3), (22, 4), (22, 5), (22, 6), (22, 7), (22, 8), (22, 9), (22, 10), (22, 11), (22, 12), (30, 0), (30, 1), (30, 2), (30, 3), (30, 4), (30, 5), (30, 6), (30, 7), (30, 8), (30, 9), (30, 10)] rfl (by decide +kernel)
set_option maxRecDepth 20000 in
theorem gL_law_X8_breaks : GoodIn wsL_law (wsV RL 103 RX8 yX8_breaks wsX8_breaks) := goodIn_app (goodIn_ch _ [(23, 1), (23, 2), (23, 3), (0, 5)] rfl (by decide +kernel)) ggL_law_X8_breaks
theorem dL_law_917 : decode cL_law 917 = .ok (.invokevirtual 103, 3) := db_L_law_911.2.2.2.2.2.2.1
theorem dL_law_920 : decode cL_law 920 = .ok (.if_icmp .eq 140, 3) := db_L_law_911.2.2.2.2.2.2.2
set_option maxRecDepth 20000 in
theorem db_L_law_925 : (decode cL_law 925 = .ok (.aload_n 1, 1)) ∧ (decode cL_law 926 = .ok (.aload_n 0, 1)) ∧ (decode cL_law 927 = .ok (.iload_n 3, 1)) ∧ (decode cL_law 928 = .ok (.iconst 1, 1)) ∧ (decode cL_law 929 = .ok (.iadd, 1)) ∧ (decode cL_law 930 = .ok (.iaload, 1)) ∧ (decode cL_law 931 = .ok (.aload_n 0, 1)) ∧ (decode cL_law 932 = .ok (.iload_n 3, 1)) := by decide +kernel
theorem dL_law_925 : decode cL_law 925 = .ok (.aload_n 1, 1) := db_L_law_925.1
theorem dL_law_926 : decode cL_law 926 = .ok (.aload_n 0, 1) := db_L_law_925.2.1
theorem dL_law_927 : decode cL_law 927 = .ok (.iload_n 3, 1) := db_L_law_925.2.2.1
theorem dL_law_928 : decode cL_law 928 = .ok (.iconst 1, 1) := db_L_law_925.2.2.2.1
theorem dL_law_929 : decode cL_law 929 = .ok (.iadd, 1) := db_L_law_925.2.2.2.2.1
theorem dL_law_930 : decode cL_law 930 = .ok (.iaload, 1) := db_L_law_925.2.2.2.2.2.1
theorem dL_law_931 : decode cL_law 931 = .ok (.aload_n 0, 1) := db_L_law_925.2.2.2.2.2.2.1
theorem dL_law_932 : decode cL_law 932 = .ok (.iload_n 3, 1) := db_L_law_925.2.2.2.2.2.2.2
set_option maxRecDepth 20000 in
theorem db_L_law_933 : (decode cL_law 933 = .ok (.iconst 2, 1)) ∧ (decode cL_law 934 = .ok (.iadd, 1)) ∧ (decode cL_law 935 = .ok (.iaload, 1)) ∧ (decode cL_law 936 = .ok (.aload_n 0, 1)) ∧ (decode cL_law 937 = .ok (.iload_n 3, 1)) ∧ (decode cL_law 938 = .ok (.iconst 3, 1)) ∧ (decode cL_law 939 = .ok (.iadd, 1)) ∧ (decode cL_law 940 = .ok (.iaload, 1)) := by decide +kernel
theorem dL_law_933 : decode cL_law 933 = .ok (.iconst 2, 1) := db_L_law_933.1
theorem dL_law_934 : decode cL_law 934 = .ok (.iadd, 1) := db_L_law_933.2.1
theorem dL_law_935 : decode cL_law 935 = .ok (.iaload, 1) := db_L_law_933.2.2.1
theorem dL_law_936 : decode cL_law 936 = .ok (.aload_n 0, 1) := db_L_law_933.2.2.2.1
theorem dL_law_937 : decode cL_law 937 = .ok (.iload_n 3, 1) := db_L_law_933.2.2.2.2.1
theorem dL_law_938 : decode cL_law 938 = .ok (.iconst 3, 1) := db_L_law_933.2.2.2.2.2.1
theorem dL_law_939 : decode cL_law 939 = .ok (.iadd, 1) := db_L_law_933.2.2.2.2.2.2.1
theorem dL_law_940 : decode cL_law 940 = .ok (.iaload, 1) := db_L_law_933.2.2.2.2.2.2.2
set_option maxRecDepth 20000 in
theorem db_L_law_941 : (decode cL_law 941 = .ok (.aload_n 0, 1)) ∧ (decode cL_law 942 = .ok (.iload_n 3, 1)) ∧ (decode cL_law 943 = .ok (.iconst 4, 1)) ∧ (decode cL_law 944 = .ok (.iadd, 1)) ∧ (decode cL_law 945 = .ok (.iaload, 1)) ∧ (decode cL_law 946 = .ok (.invokevirtual 104, 3)) ∧ (decode cL_law 949 = .ok (.pop, 1)) ∧ (decode cL_law 950 = .ok (.aload_n 2, 1)) := by decide +kernel
theorem dL_law_941 : decode cL_law 941 = .ok (.aload_n 0, 1) := db_L_law_941.1
theorem dL_law_942 : decode cL_law 942 = .ok (.iload_n 3, 1) := db_L_law_941.2.1
theorem dL_law_943 : decode cL_law 943 = .ok (.iconst 4, 1) := db_L_law_941.2.2.1
theorem dL_law_944 : decode cL_law 944 = .ok (.iadd, 1) := db_L_law_941.2.2.2.1
theorem dL_law_945 : decode cL_law 945 = .ok (.iaload, 1) := db_L_law_941.2.2.2.2.1
set_option maxRecDepth 20000 in
theorem ggL_law_X7_log : GoodIn wsL_law wsX7_log := goodIn_ch _ [(23, 8), (0, 15), (6, 12), (23, 9), (7, 11), (7, 12), (7, 13), (0, 2), (7, 14), (6, 11), (4, 5), (4, 6), (4, 7), (10, 12), (10, 13), (10, 14), (18, 15), (18, 16), (18, 17), (29, 0), (29, 1), (29, 2), (29, 3), (29, 4), (31, 0), (31, 1), (31, 2), (31, 3), (31, 4), (31, 5), (31, 6), (36, 0), (36, 1), (36, 2), (36, 3), (36, 4), (36, 5), (36, 6), (36, 7), (36, 8), (36, 9), (36, 10)] rfl (by decide +kernel)
set_option maxRecDepth 20000 in
theorem gL_law_X7_log : GoodIn wsL_law (wsV RL 104 RX7 yX7_log wsX7_log) := goodIn_app (goodIn_ch _ [(23, 5), (23, 6), (23, 7), (0, 2)] rfl (by decide +kernel)) ggL_law_X7_log
theorem dL_law_946 : decode cL_law 946 = .ok (.invokevirtual 104, 3) := db_L_law_941.2.2.2.2.2.1
theorem dL_law_949 : decode cL_law 949 = .ok (.pop, 1) := db_L_law_941.2.2.2.2.2.2.1
theorem dL_law_950 : decode cL_law 950 = .ok (.aload_n 2, 1) := db_L_law_941.2.2.2.2.2.2.2
set_option maxRecDepth 20000 in
theorem db_L_law_951 : (decode cL_law 951 = .ok (.aload_n 0, 1)) ∧ (decode cL_law 952 = .ok (.iload_n 3, 1)) ∧ (decode cL_law 953 = .ok (.iconst 1, 1)) ∧ (decode cL_law 954 = .ok (.iadd, 1)) ∧ (decode cL_law 955 = .ok (.iaload, 1)) ∧ (decode cL_law 956 = .ok (.aload_n 0, 1)) ∧ (decode cL_law 957 = .ok (.iload_n 3, 1)) ∧ (decode cL_law 958 = .ok (.iconst 2, 1)) := by decide +kernel
theorem dL_law_951 : decode cL_law 951 = .ok (.aload_n 0, 1) := db_L_law_951.1
theorem dL_law_952 : decode cL_law 952 = .ok (.iload_n 3, 1) := db_L_law_951.2.1
theorem dL_law_953 : decode cL_law 953 = .ok (.iconst 1, 1) := db_L_law_951.2.2.1
theorem dL_law_954 : decode cL_law 954 = .ok (.iadd, 1) := db_L_law_951.2.2.2.1
theorem dL_law_955 : decode cL_law 955 = .ok (.iaload, 1) := db_L_law_951.2.2.2.2.1
theorem dL_law_956 : decode cL_law 956 = .ok (.aload_n 0, 1) := db_L_law_951.2.2.2.2.2.1
theorem dL_law_957 : decode cL_law 957 = .ok (.iload_n 3, 1) := db_L_law_951.2.2.2.2.2.2.1
theorem dL_law_958 : decode cL_law 958 = .ok (.iconst 2, 1) := db_L_law_951.2.2.2.2.2.2.2
set_option maxRecDepth 20000 in
theorem db_L_law_959 : (decode cL_law 959 = .ok (.iadd, 1)) ∧ (decode cL_law 960 = .ok (.iaload, 1)) ∧ (decode cL_law 961 = .ok (.aload_n 0, 1)) ∧ (decode cL_law 962 = .ok (.iload_n 3, 1)) ∧ (decode cL_law 963 = .ok (.iconst 3, 1)) ∧ (decode cL_law 964 = .ok (.iadd, 1)) ∧ (decode cL_law 965 = .ok (.iaload, 1)) ∧ (decode cL_law 966 = .ok (.aload_n 0, 1)) := by decide +kernel
theorem dL_law_959 : decode cL_law 959 = .ok (.iadd, 1) := db_L_law_959.1
theorem dL_law_960 : decode cL_law 960 = .ok (.iaload, 1) := db_L_law_959.2.1
theorem dL_law_961 : decode cL_law 961 = .ok (.aload_n 0, 1) := db_L_law_959.2.2.1
theorem dL_law_962 : decode cL_law 962 = .ok (.iload_n 3, 1) := db_L_law_959.2.2.2.1
theorem dL_law_963 : decode cL_law 963 = .ok (.iconst 3, 1) := db_L_law_959.2.2.2.2.1
theorem dL_law_964 : decode cL_law 964 = .ok (.iadd, 1) := db_L_law_959.2.2.2.2.2.1
theorem dL_law_965 : decode cL_law 965 = .ok (.iaload, 1) := db_L_law_959.2.2.2.2.2.2.1
theorem dL_law_966 : decode cL_law 966 = .ok (.aload_n 0, 1) := db_L_law_959.2.2.2.2.2.2.2
set_option maxRecDepth 20000 in
theorem db_L_law_967 : (decode cL_law 967 = .ok (.iload_n 3, 1)) ∧ (decode cL_law 968 = .ok (.iconst 4, 1)) ∧ (decode cL_law 969 = .ok (.iadd, 1)) ∧ (decode cL_law 970 = .ok (.iaload, 1)) ∧ (decode cL_law 971 = .ok (.invokevirtual 108, 3)) ∧ (decode cL_law 974 = .ok (.pop, 1)) ∧ (decode cL_law 975 = .ok (.goto 85, 3)) ∧ (decode cL_law 978 = .ok (.aload_n 1, 1)) := by decide +kernel
theorem dL_law_967 : decode cL_law 967 = .ok (.iload_n 3, 1) := db_L_law_967.1
theorem dL_law_968 : decode cL_law 968 = .ok (.iconst 4, 1) := db_L_law_967.2.1
theorem dL_law_969 : decode cL_law 969 = .ok (.iadd, 1) := db_L_law_967.2.2.1
theorem dL_law_970 : decode cL_law 970 = .ok (.iaload, 1) := db_L_law_967.2.2.2.1
set_option maxRecDepth 20000 in
theorem ggL_law_X8_log : GoodIn wsL_law wsX8_log := goodIn_ch _ [(23, 13), (3, 13), (7, 19), (7, 20), (7, 21), (0, 5), (7, 22), (4, 12), (4, 13), (4, 14), (10, 23), (11, 0), (11, 1), (30, 0), (30, 1), (30, 2), (30, 3), (30, 4), (30, 5), (30, 6), (30, 7), (30, 8), (30, 9), (30, 10)] rfl (by decide +kernel)
set_option maxRecDepth 20000 in
theorem gL_law_X8_log : GoodIn wsL_law (wsV RL 108 RX8 yX8_log wsX8_log) := goodIn_app (goodIn_ch _ [(23, 10), (23, 11), (23, 12), (0, 5)] rfl (by decide +kernel)) ggL_law_X8_log
theorem dL_law_971 : decode cL_law 971 = .ok (.invokevirtual 108, 3) := db_L_law_967.2.2.2.2.1
theorem dL_law_974 : decode cL_law 974 = .ok (.pop, 1) := db_L_law_967.2.2.2.2.2.1
theorem dL_law_975 : decode cL_law 975 = .ok (.goto 85, 3) := db_L_law_967.2.2.2.2.2.2.1
theorem dL_law_978 : decode cL_law 978 = .ok (.aload_n 1, 1) := db_L_law_967.2.2.2.2.2.2.2
set_option maxRecDepth 20000 in
theorem db_L_law_979 : (decode cL_law 979 = .ok (.aload_n 0, 1)) ∧ (decode cL_law 980 = .ok (.iload_n 3, 1)) ∧ (decode cL_law 981 = .ok (.iconst 1, 1)) ∧ (decode cL_law 982 = .ok (.iadd, 1)) ∧ (decode cL_law 983 = .ok (.iaload, 1)) ∧ (decode cL_law 984 = .ok (.aload_n 0, 1)) ∧ (decode cL_law 985 = .ok (.iload_n 3, 1)) ∧ (decode cL_law 986 = .ok (.iconst 2, 1)) := by decide +kernel
theorem dL_law_979 : decode cL_law 979 = .ok (.aload_n 0, 1) := db_L_law_979.1
theorem dL_law_980 : decode cL_law 980 = .ok (.iload_n 3, 1) := db_L_law_979.2.1
theorem dL_law_981 : decode cL_law 981 = .ok (.iconst 1, 1) := db_L_law_979.2.2.1
theorem dL_law_982 : decode cL_law 982 = .ok (.iadd, 1) := db_L_law_979.2.2.2.1
theorem dL_law_983 : decode cL_law 983 = .ok (.iaload, 1) := db_L_law_979.2.2.2.2.1
theorem dL_law_984 : decode cL_law 984 = .ok (.aload_n 0, 1) := db_L_law_979.2.2.2.2.2.1
theorem dL_law_985 : decode cL_law 985 = .ok (.iload_n 3, 1) := db_L_law_979.2.2.2.2.2.2.1
theorem dL_law_986 : decode cL_law 986 = .ok (.iconst 2, 1) := db_L_law_979.2.2.2.2.2.2.2
set_option maxRecDepth 20000 in
theorem db_L_law_987 : (decode cL_law 987 = .ok (.iadd, 1)) ∧ (decode cL_law 988 = .ok (.iaload, 1)) ∧ (decode cL_law 989 = .ok (.invokevirtual 109, 3)) ∧ (decode cL_law 992 = .ok (.pop, 1)) ∧ (decode cL_law 993 = .ok (.aload_n 2, 1)) ∧ (decode cL_law 994 = .ok (.aload_n 0, 1)) ∧ (decode cL_law 995 = .ok (.iload_n 3, 1)) ∧ (decode cL_law 996 = .ok (.iconst 1, 1)) := by decide +kernel
theorem dL_law_987 : decode cL_law 987 = .ok (.iadd, 1) := db_L_law_987.1
theorem dL_law_988 : decode cL_law 988 = .ok (.iaload, 1) := db_L_law_987.2.1
set_option maxRecDepth 20000 in
theorem ggL_law_X7_judged : GoodIn wsL_law wsX7_judged := goodIn_ch _ [(23, 17), (0, 15), (6, 12), (19, 13), (19, 14), (19, 15), (0, 2), (19, 16), (18, 8), (7, 11), (7, 12), (7, 13), (7, 14), (6, 11), (4, 5), (4, 6), (4, 7), (23, 18), (23, 19), (23, 20), (1, 17), (23, 21), (2, 11), (23, 22), (23, 23), (2, 9), (24, 0), (24, 1), (24, 2), (29, 0), (29, 1), (29, 2), (29, 3), (29, 4), (31, 0), (31, 1), (31, 2), (31, 3), (31, 4), (31, 5), (31, 6), (36, 0), (36, 1), (36, 2), (36, 3), (36, 4), (36, 5), (36, 6), (36, 7), (36, 8), (36, 9), (36, 10), (37, 0), (37, 1), (37, 2), (37, 3), (37, 4)] rfl (by decide +kernel)
set_option maxRecDepth 20000 in
theorem gL_law_X7_judged : GoodIn wsL_law (wsV RL 109 RX7 yX7_judged wsX7_judged) := goodIn_app (goodIn_ch _ [(23, 14), (23, 15), (23, 16), (0, 2)] rfl (by decide +kernel)) ggL_law_X7_judged
theorem dL_law_989 : decode cL_law 989 = .ok (.invokevirtual 109, 3) := db_L_law_987.2.2.1
theorem dL_law_992 : decode cL_law 992 = .ok (.pop, 1) := db_L_law_987.2.2.2.1
theorem dL_law_993 : decode cL_law 993 = .ok (.aload_n 2, 1) := db_L_law_987.2.2.2.2.1
theorem dL_law_994 : decode cL_law 994 = .ok (.aload_n 0, 1) := db_L_law_987.2.2.2.2.2.1
theorem dL_law_995 : decode cL_law 995 = .ok (.iload_n 3, 1) := db_L_law_987.2.2.2.2.2.2.1
theorem dL_law_996 : decode cL_law 996 = .ok (.iconst 1, 1) := db_L_law_987.2.2.2.2.2.2.2
set_option maxRecDepth 20000 in
theorem db_L_law_997 : (decode cL_law 997 = .ok (.iadd, 1)) ∧ (decode cL_law 998 = .ok (.iaload, 1)) ∧ (decode cL_law 999 = .ok (.aload_n 0, 1)) ∧ (decode cL_law 1000 = .ok (.iload_n 3, 1)) ∧ (decode cL_law 1001 = .ok (.iconst 2, 1)) ∧ (decode cL_law 1002 = .ok (.iadd, 1)) ∧ (decode cL_law 1003 = .ok (.iaload, 1)) ∧ (decode cL_law 1004 = .ok (.invokevirtual 112, 3)) := by decide +kernel
theorem dL_law_997 : decode cL_law 997 = .ok (.iadd, 1) := db_L_law_997.1
theorem dL_law_998 : decode cL_law 998 = .ok (.iaload, 1) := db_L_law_997.2.1
theorem dL_law_999 : decode cL_law 999 = .ok (.aload_n 0, 1) := db_L_law_997.2.2.1
theorem dL_law_1000 : decode cL_law 1000 = .ok (.iload_n 3, 1) := db_L_law_997.2.2.2.1
theorem dL_law_1001 : decode cL_law 1001 = .ok (.iconst 2, 1) := db_L_law_997.2.2.2.2.1
theorem dL_law_1002 : decode cL_law 1002 = .ok (.iadd, 1) := db_L_law_997.2.2.2.2.2.1
theorem dL_law_1003 : decode cL_law 1003 = .ok (.iaload, 1) := db_L_law_997.2.2.2.2.2.2.1
set_option maxRecDepth 20000 in
theorem ggL_law_X8_judged : GoodIn wsL_law wsX8_judged := goodIn_ch _ [(24, 6), (19, 21), (19, 22), (19, 23), (0, 5), (20, 0), (3, 13), (7, 19), (7, 20), (7, 21), (7, 22), (4, 12), (4, 13), (4, 14), (7, 3), (7, 4), (7, 5), (24, 7), (24, 8), (24, 9), (24, 10), (18, 22), (18, 23), (19, 0), (30, 0), (30, 1), (30, 2), (30, 3), (30, 4), (30, 5), (30, 6), (30, 7), (30, 8), (30, 9), (30, 10)] rfl (by decide +kernel)
set_option maxRecDepth 20000 in
theorem gL_law_X8_judged : GoodIn wsL_law (wsV RL 112 RX8 yX8_judged wsX8_judged) := goodIn_app (goodIn_ch _ [(24, 3), (24, 4), (24, 5), (0, 5)] rfl (by decide +kernel)) ggL_law_X8_judged
theorem dL_law_1004 : decode cL_law 1004 = .ok (.invokevirtual 112, 3) := db_L_law_997.2.2.2.2.2.2.2
set_option maxRecDepth 20000 in
theorem db_L_law_1007 : (decode cL_law 1007 = .ok (.pop, 1)) ∧ (decode cL_law 1008 = .ok (.goto 52, 3)) ∧ (decode cL_law 1011 = .ok (.aload_n 1, 1)) ∧ (decode cL_law 1012 = .ok (.aload_n 0, 1)) ∧ (decode cL_law 1013 = .ok (.iload_n 3, 1)) ∧ (decode cL_law 1014 = .ok (.iconst 1, 1)) ∧ (decode cL_law 1015 = .ok (.iadd, 1)) ∧ (decode cL_law 1016 = .ok (.iaload, 1)) := by decide +kernel
theorem dL_law_1007 : decode cL_law 1007 = .ok (.pop, 1) := db_L_law_1007.1
theorem dL_law_1008 : decode cL_law 1008 = .ok (.goto 52, 3) := db_L_law_1007.2.1
theorem dL_law_1011 : decode cL_law 1011 = .ok (.aload_n 1, 1) := db_L_law_1007.2.2.1
theorem dL_law_1012 : decode cL_law 1012 = .ok (.aload_n 0, 1) := db_L_law_1007.2.2.2.1
theorem dL_law_1013 : decode cL_law 1013 = .ok (.iload_n 3, 1) := db_L_law_1007.2.2.2.2.1
theorem dL_law_1014 : decode cL_law 1014 = .ok (.iconst 1, 1) := db_L_law_1007.2.2.2.2.2.1
theorem dL_law_1015 : decode cL_law 1015 = .ok (.iadd, 1) := db_L_law_1007.2.2.2.2.2.2.1
theorem dL_law_1016 : decode cL_law 1016 = .ok (.iaload, 1) := db_L_law_1007.2.2.2.2.2.2.2
set_option maxRecDepth 20000 in
theorem ggL_law_X7_many : GoodIn wsL_law wsX7_many := goodIn_ch _ [(24, 14), (0, 15), (4, 1), (4, 19), (6, 11), (8, 13), (24, 15), (24, 16), (24, 17), (0, 14), (24, 18), (9, 9), (1, 11), (24, 19), (24, 20), (24, 21), (24, 22), (24, 23), (25, 0), (9, 2), (9, 3), (9, 4), (9, 5), (9, 6), (9, 7), (9, 8), (9, 10), (5, 17), (0, 2), (5, 18), (25, 1), (25, 2), (25, 3), (25, 4), (25, 5), (25, 6), (25, 7), (25, 8), (25, 9), (25, 10), (23, 19), (23, 20), (1, 17), (23, 21), (2, 11), (23, 22), (23, 23), (2, 9), (24, 0), (24, 1), (24, 2), (29, 0), (29, 1), (29, 2), (29, 3), (29, 4), (31, 0), (31, 1), (31, 2), (31, 3), (31, 4), (31, 5), (31, 6), (36, 0), (36, 1), (36, 2), (36, 3), (36, 4), (36, 5), (36, 6), (36, 7), (36, 8), (36, 9), (36, 10), (37, 0), (37, 1), (37, 2), (37, 3), (37, 4)] rfl (by decide +kernel)
set_option maxRecDepth 20000 in
theorem gL_law_X7_many : GoodIn wsL_law (wsV RL 113 RX7 yX7_many wsX7_many) := goodIn_app (goodIn_ch _ [(24, 11), (24, 12), (24, 13), (0, 2)] rfl (by decide +kernel)) ggL_law_X7_many
set_option maxRecDepth 20000 in
theorem db_L_law_1017 : (decode cL_law 1017 = .ok (.invokevirtual 113, 3)) ∧ (decode cL_law 1020 = .ok (.pop, 1)) ∧ (decode cL_law 1021 = .ok (.aload_n 2, 1)) ∧ (decode cL_law 1022 = .ok (.aload_n 0, 1)) ∧ (decode cL_law 1023 = .ok (.iload_n 3, 1)) ∧ (decode cL_law 1024 = .ok (.iconst 1, 1)) ∧ (decode cL_law 1025 = .ok (.iadd, 1)) ∧ (decode cL_law 1026 = .ok (.iaload, 1)) := by decide +kernel
theorem dL_law_1017 : decode cL_law 1017 = .ok (.invokevirtual 113, 3) := db_L_law_1017.1
theorem dL_law_1020 : decode cL_law 1020 = .ok (.pop, 1) := db_L_law_1017.2.1
theorem dL_law_1021 : decode cL_law 1021 = .ok (.aload_n 2, 1) := db_L_law_1017.2.2.1
theorem dL_law_1022 : decode cL_law 1022 = .ok (.aload_n 0, 1) := db_L_law_1017.2.2.2.1
theorem dL_law_1023 : decode cL_law 1023 = .ok (.iload_n 3, 1) := db_L_law_1017.2.2.2.2.1
theorem dL_law_1024 : decode cL_law 1024 = .ok (.iconst 1, 1) := db_L_law_1017.2.2.2.2.2.1
theorem dL_law_1025 : decode cL_law 1025 = .ok (.iadd, 1) := db_L_law_1017.2.2.2.2.2.2.1
theorem dL_law_1026 : decode cL_law 1026 = .ok (.iaload, 1) := db_L_law_1017.2.2.2.2.2.2.2
set_option maxRecDepth 20000 in
theorem ggL_law_X8_many : GoodIn wsL_law wsX8_many := goodIn_ch _ [(25, 14), (3, 13), (25, 15), (25, 16), (25, 17), (0, 5), (25, 18), (7, 3), (7, 4), (7, 5), (25, 19), (25, 20), (25, 21), (25, 22), (3, 16), (9, 23), (10, 0), (10, 1), (10, 2), (25, 23), (26, 0), (26, 1), (26, 2), (24, 7), (24, 8), (24, 9), (24, 10), (18, 22), (18, 23), (19, 0), (30, 0), (30, 1), (30, 2), (30, 3), (30, 4), (30, 5), (30, 6), (30, 7), (30, 8), (30, 9), (30, 10)] rfl (by decide +kernel)
set_option maxRecDepth 20000 in
theorem gL_law_X8_many : GoodIn wsL_law (wsV RL 116 RX8 yX8_many wsX8_many) := goodIn_app (goodIn_ch _ [(25, 11), (25, 12), (25, 13), (0, 5)] rfl (by decide +kernel)) ggL_law_X8_many
set_option maxRecDepth 20000 in
theorem db_L_law_1027 : (decode cL_law 1027 = .ok (.invokevirtual 116, 3)) ∧ (decode cL_law 1030 = .ok (.pop, 1)) ∧ (decode cL_law 1031 = .ok (.goto 29, 3)) := by decide +kernel
theorem dL_law_1027 : decode cL_law 1027 = .ok (.invokevirtual 116, 3) := db_L_law_1027.1
theorem dL_law_1030 : decode cL_law 1030 = .ok (.pop, 1) := db_L_law_1027.2.1
theorem dL_law_1031 : decode cL_law 1031 = .ok (.goto 29, 3) := db_L_law_1027.2.2
set_option maxHeartbeats 4000000 in
set_option maxRecDepth 100000 in
/-- the case of plan -/
theorem lc_13 {p : Program} {l : Launch} {e : Env} {s : State} {m : MethodId} {below : List Frame} {meth : Method} {c : Code} {dC : Nat → ClassId} {dI : Nat → Nat → Nat} {cy : Nat → ClassId} {b L : Nat} {xs : Nat → Int32} (C0 : lw_At p s m meth c b L xs) {t1 t2 : Nat} (hSt : ex_St t1 t2 (fun q : Nat => s.heap.size ≤ q) s) (hE : ex_K s) (hK : va_K (dC, dI) vwCl (ty_L cy) s) (hL : L ≤ 3584) {ad ad2 : Nat → Nat} {kv : Value} {N : Nat} (hN : 119 ≤ N) {v v2 : Nat → Nat → Int32} (hv : Iv v) (hq : Ir v2) {n : Int32} (hJ : RR3 n v v2) {i : Int32} (hi : 0 ≤ i.toInt ∧ i.toInt + 7 ≤ (L : Int)) {cells slots : Nat} (hcs : cells ≤ room_1.cells ∧ slots ≤ room_1.slots) {H : Heap} {locs : List Loc} (hP : va_P (dC, dI) vwCl (wl ad kv cy N v ++ wm ad2 cy v2) H) (hD : va_D (fun q : Nat => s.heap.size ≤ q) (wl ad kv cy N v ++ wm ad2 cy v2)) (hS : va_S (fun q : Nat => s.heap.size ≤ q) s.heap H locs) (ls : Array Slot) (hl : lv_has ls 4 [(3, .int i), (2, .ref (ad2 0)), (1, .ref (ad 0)), (0, .ref b)]) (kk : ∀ (v1 v3 : Nat → Nat → Int32) (H1 : Heap) (locs1 : List Loc) (ls1 : Array Slot), Iv v1 → Ir v3 → RR3 n v1 v3 → va_P (dC, dI) vwCl (wl ad kv cy N v1 ++ wm ad2 cy v3) H1 → va_D (fun q : Nat => s.heap.size ≤ q) (wl ad kv cy N v1 ++ wm ad2 cy v3) → va_S (fun q : Nat => s.heap.size ≤ q) s.heap H1 locs1 → lv_has ls1 4 [(3, .int i), (2, .ref (ad2 0)), (1, .ref (ad 0)), (0, .ref b)] → W p l e room_1 s m #[Value.ref b] below meth c H1 locs1 cells slots (lw_Z below #[Value.ref b] s) (F0 m 1060 ls1 [])) : W p l e room_1 s m #[Value.ref b] below meth c H locs cells slots (lw_Z below #[Value.ref b] s) (F0 m 633 ls []) := by
  obtain ⟨hx, hb, hr, hml, hown, hts0, hX, hbl, hlocks, hgv⟩ := id C0
  have hts : ∀ w ∈ wsL_law, w.before #[Value.ref b] s = true := fun w h => hts0 w (wsL_law_in w h)
  have hown : s.vm.findClass RL = some m.cls := hown
  have hA : ∀ q : Nat, s.heap.size ≤ q → (fun q : Nat => s.heap.size ≤ q) q := fun _ h => h
  have hbA : ¬ (fun q : Nat => s.heap.size ≤ q) b := Nat.not_le.mpr hbl
  refine lv_aload_n hx hb dL_law_633 rfl (lv_at hl 2 rfl) ?_
  refine lv_aload_n hx hb dL_law_634 rfl (lv_at hl 3 rfl) ?_
  refine lv_iload_n hx hb dL_law_635 rfl (lv_at hl 0 rfl) ?_
  refine lv_iconst (v := 1) hx hb dL_law_636 (by decide) ?_
  refine lv_iadd hx hb dL_law_637 ?_
  refine lv_topi (fun x_1 ex_1 => ?_)
  have k_1 : (1 : Int32).toInt = 1 := by decide
  have tx_1 : x_1.toInt = i.toInt + (1 : Int32).toInt := by rw [ex_1]; exact t_add ⟨by omega, by omega⟩
  refine va_sld hx hb hX hbl hbA hS (vp_in_iff.mpr ⟨by omega, by omega⟩) dL_law_638 ?_
  refine lv_topi (fun x_2 ex_2 => ?_)
  refine yl_i (X := wl ad kv cy N v) (Y := wm ad2 cy v2) (w1 := fun (u : Nat → Nat → Int32) => wl ad kv cy N u) hP hD hS hA (va_runV (As := [.int x_2]) (rest := []) ⟨hx, hb, hml, hown, hts⟩ (g_X7_plan l dC dI cy _ ad kv N hN v hv x_2 t1 t2) (cwV 1 hts gL_law_X7_plan rfl rfl rfl hd_V_X7_plan_1 ⟨Nat.le_of_ble_eq_true rfl, Nat.le_of_ble_eq_true rfl⟩) ⟨ex_blindT, va_recv hK (yl_P hP) (ci := 7) (q := (RX7, TX7, 5)) (q0 := 0) rfl (wl_at (by omega) (ce_0 (by decide))), fun U hU hW => ⟨rfl, ((yw_preS (As := []) hE hK (yl_P hP) (yl_D hD)).2 U hU hW).2, hSt.go hS (yw_F (yl_D hD) hS hA) hU hW⟩⟩ rfl rfl hl.1 rfl (lv_room (Nat.le_of_ble_eq_true rfl)) dL_law_639 hcs) (fun r_3 c_3 H locs hw_3 hP hD hS => ?_)
  have hP : va_P (dC, dI) vwCl (wm ad2 cy v2 ++ wl ad kv cy N c_3) H := hP
  have hD : va_D (fun q : Nat => s.heap.size ≤ q) (wm ad2 cy v2 ++ wl ad kv cy N c_3) := hD
  obtain ⟨hv, hf_c_3⟩ := hw_3
  refine lv_pop hx hb dL_law_642 rfl ?_
  refine lv_aload_n hx hb dL_law_643 rfl (lv_at hl 1 rfl) ?_
  refine lv_aload_n hx hb dL_law_644 rfl (lv_at hl 3 rfl) ?_
  refine lv_iload_n hx hb dL_law_645 rfl (lv_at hl 0 rfl) ?_
  refine lv_iconst (v := 1) hx hb dL_law_646 (by decide) ?_
  refine lv_iadd hx hb dL_law_647 ?_
  refine lv_topi (fun x_4 ex_4 => ?_)
  obtain rfl : x_1 = x_4 := ex_1.trans ex_4.symm
  refine va_sld hx hb hX hbl hbA hS (vp_in_iff.mpr ⟨by omega, by omega⟩) dL_law_648 ?_
  refine lv_topi (fun x_5 ex_5 => ?_)
  obtain rfl : x_2 = x_5 := ex_2.trans ex_5.symm
  refine yl_i (X := wm ad2 cy v2) (Y := wl ad kv cy N c_3) (w1 := fun (u : Nat → Nat → Int32) => wm ad2 cy u) hP hD hS hA (va_runV (As := [.int x_2]) (rest := []) ⟨hx, hb, hml, hown, hts⟩ (q_X8_plan l dC dI cy _ ad2 v2 hq x_2) (cwV 1 hts gL_law_X8_plan rfl rfl rfl hd_V_X8_plan_1 ⟨Nat.le_of_ble_eq_true rfl, Nat.le_of_ble_eq_true rfl⟩) (yl_preV hE hK hP hD (ci := 8) (q := (RX8, TX8, 11)) (q0 := 0) rfl (wm_at (by decide) rc_0)) rfl rfl hl.1 rfl (lv_room (Nat.le_of_ble_eq_true rfl)) dL_law_649 hcs) (fun r_6 m_6 H locs hw_6 hP hD hS => ?_)
  have hP : va_P (dC, dI) vwCl (wl ad kv cy N c_3 ++ wm ad2 cy m_6) H := hP
  have hD : va_D (fun q : Nat => s.heap.size ≤ q) (wl ad kv cy N c_3 ++ wm ad2 cy m_6) := hD
  obtain ⟨hq, hf_m_6⟩ := hw_6
  have hJ := hJ.mv hf_c_3 hf_m_6
  refine lv_pop hx hb dL_law_652 rfl ?_
  refine lv_goto (tgt := 1060) hx hb dL_law_653 (by decide) ?_
  exact kk c_3 m_6 _ _ ls hv hq hJ hP hD hS hl

set_option maxHeartbeats 4000000 in
set_option maxRecDepth 100000 in
/-- the case of waits -/
theorem lc_14 {p : Program} {l : Launch} {e : Env} {s : State} {m : MethodId} {below : List Frame} {meth : Method} {c : Code} {dC : Nat → ClassId} {dI : Nat → Nat → Nat} {cy : Nat → ClassId} {b L : Nat} {xs : Nat → Int32} (C0 : lw_At p s m meth c b L xs) {t1 t2 : Nat} (hSt : ex_St t1 t2 (fun q : Nat => s.heap.size ≤ q) s) (hE : ex_K s) (hK : va_K (dC, dI) vwCl (ty_L cy) s) (hL : L ≤ 3584) {ad ad2 : Nat → Nat} {kv : Value} {N : Nat} (hN : 119 ≤ N) {v v2 : Nat → Nat → Int32} (hv : Iv v) (hq : Ir v2) {n : Int32} (hJ : RR3 n v v2) {i : Int32} (hi : 0 ≤ i.toInt ∧ i.toInt + 7 ≤ (L : Int)) {cells slots : Nat} (hcs : cells ≤ room_1.cells ∧ slots ≤ room_1.slots) {H : Heap} {locs : List Loc} (hP : va_P (dC, dI) vwCl (wl ad kv cy N v ++ wm ad2 cy v2) H) (hD : va_D (fun q : Nat => s.heap.size ≤ q) (wl ad kv cy N v ++ wm ad2 cy v2)) (hS : va_S (fun q : Nat => s.heap.size ≤ q) s.heap H locs) (ls : Array Slot) (hl : lv_has ls 4 [(3, .int i), (2, .ref (ad2 0)), (1, .ref (ad 0)), (0, .ref b)]) (kk : ∀ (v1 v3 : Nat → Nat → Int32) (H1 : Heap) (locs1 : List Loc) (ls1 : Array Slot), Iv v1 → Ir v3 → RR3 n v1 v3 → va_P (dC, dI) vwCl (wl ad kv cy N v1 ++ wm ad2 cy v3) H1 → va_D (fun q : Nat => s.heap.size ≤ q) (wl ad kv cy N v1 ++ wm ad2 cy v3) → va_S (fun q : Nat => s.heap.size ≤ q) s.heap H1 locs1 → lv_has ls1 4 [(3, .int i), (2, .ref (ad2 0)), (1, .ref (ad 0)), (0, .ref b)] → W p l e room_1 s m #[Value.ref b] below meth c H1 locs1 cells slots (lw_Z below #[Value.ref b] s) (F0 m 1060 ls1 [])) : W p l e room_1 s m #[Value.ref b] below meth c H locs cells slots (lw_Z below #[Value.ref b] s) (F0 m 656 ls []) := by
  obtain ⟨hx, hb, hr, hml, hown, hts0, hX, hbl, hlocks, hgv⟩ := id C0
  have hts : ∀ w ∈ wsL_law, w.before #[Value.ref b] s = true := fun w h => hts0 w (wsL_law_in w h)
  have hown : s.vm.findClass RL = some m.cls := hown
  have hA : ∀ q : Nat, s.heap.size ≤ q → (fun q : Nat => s.heap.size ≤ q) q := fun _ h => h
  have hbA : ¬ (fun q : Nat => s.heap.size ≤ q) b := Nat.not_le.mpr hbl
  refine lv_aload_n hx hb dL_law_656 rfl (lv_at hl 2 rfl) ?_
  refine yl_i (X := wl ad kv cy N v) (Y := wm ad2 cy v2) (w1 := fun (u : Nat → Nat → Int32) => wl ad kv cy N u) hP hD hS hA (va_runV (As := []) (rest := []) ⟨hx, hb, hml, hown, hts⟩ (g_X7_waits l dC dI cy _ ad kv N hN v hv t1 t2) (cwV 0 hts gL_law_X7_waits rfl rfl rfl hd_V_X7_waits_0 ⟨Nat.le_of_ble_eq_true rfl, Nat.le_of_ble_eq_true rfl⟩) ⟨ex_blindT, va_recv hK (yl_P hP) (ci := 7) (q := (RX7, TX7, 5)) (q0 := 0) rfl (wl_at (by omega) (ce_0 (by decide))), fun U hU hW => ⟨rfl, ((yw_preS (As := []) hE hK (yl_P hP) (yl_D hD)).2 U hU hW).2, hSt.go hS (yw_F (yl_D hD) hS hA) hU hW⟩⟩ rfl rfl hl.1 rfl (lv_room (Nat.le_of_ble_eq_true rfl)) dL_law_657 hcs) (fun r_1 c_1 H locs hw_1 hP hD hS => ?_)
  have hP : va_P (dC, dI) vwCl (wm ad2 cy v2 ++ wl ad kv cy N c_1) H := hP
  have hD : va_D (fun q : Nat => s.heap.size ≤ q) (wm ad2 cy v2 ++ wl ad kv cy N c_1) := hD
  obtain ⟨hv, hf_c_1⟩ := hw_1
  refine lv_pop hx hb dL_law_660 rfl ?_
  refine lv_aload_n hx hb dL_law_661 rfl (lv_at hl 1 rfl) ?_
  refine yl_i (X := wm ad2 cy v2) (Y := wl ad kv cy N c_1) (w1 := fun (u : Nat → Nat → Int32) => wm ad2 cy u) hP hD hS hA (va_runV (As := []) (rest := []) ⟨hx, hb, hml, hown, hts⟩ (q_X8_waits l dC dI cy _ ad2 v2 hq ) (cwV 0 hts gL_law_X8_waits rfl rfl rfl hd_V_X8_waits_0 ⟨Nat.le_of_ble_eq_true rfl, Nat.le_of_ble_eq_true rfl⟩) (yl_preV hE hK hP hD (ci := 8) (q := (RX8, TX8, 11)) (q0 := 0) rfl (wm_at (by decide) rc_0)) rfl rfl hl.1 rfl (lv_room (Nat.le_of_ble_eq_true rfl)) dL_law_662 hcs) (fun r_2 m_2 H locs hw_2 hP hD hS => ?_)
  have hP : va_P (dC, dI) vwCl (wl ad kv cy N c_1 ++ wm ad2 cy m_2) H := hP
  have hD : va_D (fun q : Nat => s.heap.size ≤ q) (wl ad kv cy N c_1 ++ wm ad2 cy m_2) := hD
  obtain ⟨hq, hf_m_2⟩ := hw_2
  have hJ := hJ.mv hf_c_1 hf_m_2
  refine lv_pop hx hb dL_law_665 rfl ?_
  refine lv_goto (tgt := 1060) hx hb dL_law_666 (by decide) ?_
  exact kk c_1 m_2 _ _ ls hv hq hJ hP hD hS hl

set_option maxHeartbeats 4000000 in
set_option maxRecDepth 100000 in
/-- the case of term -/
theorem lc_15 {p : Program} {l : Launch} {e : Env} {s : State} {m : MethodId} {below : List Frame} {meth : Method} {c : Code} {dC : Nat → ClassId} {dI : Nat → Nat → Nat} {cy : Nat → ClassId} {b L : Nat} {xs : Nat → Int32} (C0 : lw_At p s m meth c b L xs) {t1 t2 : Nat} (hSt : ex_St t1 t2 (fun q : Nat => s.heap.size ≤ q) s) (hE : ex_K s) (hK : va_K (dC, dI) vwCl (ty_L cy) s) (hL : L ≤ 3584) {ad ad2 : Nat → Nat} {kv : Value} {N : Nat} (hN : 119 ≤ N) {v v2 : Nat → Nat → Int32} (hv : Iv v) (hq : Ir v2) {n : Int32} (hJ : RR3 n v v2) {i : Int32} (hi : 0 ≤ i.toInt ∧ i.toInt + 7 ≤ (L : Int)) {cells slots : Nat} (hcs : cells ≤ room_1.cells ∧ slots ≤ room_1.slots) {H : Heap} {locs : List Loc} (hP : va_P (dC, dI) vwCl (wl ad kv cy N v ++ wm ad2 cy v2) H) (hD : va_D (fun q : Nat => s.heap.size ≤ q) (wl ad kv cy N v ++ wm ad2 cy v2)) (hS : va_S (fun q : Nat => s.heap.size ≤ q) s.heap H locs) (ls : Array Slot) (hl : lv_has ls 4 [(3, .int i), (2, .ref (ad2 0)), (1, .ref (ad 0)), (0, .ref b)]) (kk : ∀ (v1 v3 : Nat → Nat → Int32) (H1 : Heap) (locs1 : List Loc) (ls1 : Array Slot), Iv v1 → Ir v3 → RR3 n v1 v3 → va_P (dC, dI) vwCl (wl ad kv cy N v1 ++ wm ad2 cy v3) H1 → va_D (fun q : Nat => s.heap.size ≤ q) (wl ad kv cy N v1 ++ wm ad2 cy v3) → va_S (fun q : Nat => s.heap.size ≤ q) s.heap H1 locs1 → lv_has ls1 4 [(3, .int i), (2, .ref (ad2 0)), (1, .ref (ad 0)), (0, .ref b)] → W p l e room_1 s m #[Value.ref b] below meth c H1 locs1 cells slots (lw_Z below #[Value.ref b] s) (F0 m 1060 ls1 [])) : W p l e room_1 s m #[Value.ref b] below meth c H locs cells slots (lw_Z below #[Value.ref b] s) (F0 m 669 ls []) := by
  obtain ⟨hx, hb, hr, hml, hown, hts0, hX, hbl, hlocks, hgv⟩ := id C0
  have hts : ∀ w ∈ wsL_law, w.before #[Value.ref b] s = true := fun w h => hts0 w (wsL_law_in w h)
  have hown : s.vm.findClass RL = some m.cls := hown
  have hA : ∀ q : Nat, s.heap.size ≤ q → (fun q : Nat => s.heap.size ≤ q) q := fun _ h => h
  have hbA : ¬ (fun q : Nat => s.heap.size ≤ q) b := Nat.not_le.mpr hbl
  refine lv_aload_n hx hb dL_law_669 rfl (lv_at hl 2 rfl) ?_
  refine lv_aload_n hx hb dL_law_670 rfl (lv_at hl 3 rfl) ?_
  refine lv_iload_n hx hb dL_law_671 rfl (lv_at hl 0 rfl) ?_
  refine lv_iconst (v := 1) hx hb dL_law_672 (by decide) ?_
  refine lv_iadd hx hb dL_law_673 ?_
  refine lv_topi (fun x_1 ex_1 => ?_)
  have k_1 : (1 : Int32).toInt = 1 := by decide
  have tx_1 : x_1.toInt = i.toInt + (1 : Int32).toInt := by rw [ex_1]; exact t_add ⟨by omega, by omega⟩
  refine va_sld hx hb hX hbl hbA hS (vp_in_iff.mpr ⟨by omega, by omega⟩) dL_law_674 ?_
  refine lv_topi (fun x_2 ex_2 => ?_)
  refine lv_aload_n hx hb dL_law_675 rfl (lv_at hl 3 rfl) ?_
  refine lv_iload_n hx hb dL_law_676 rfl (lv_at hl 0 rfl) ?_
  refine lv_iconst (v := 2) hx hb dL_law_677 (by decide) ?_
  refine lv_iadd hx hb dL_law_678 ?_
  refine lv_topi (fun x_3 ex_3 => ?_)
  have k_2 : (2 : Int32).toInt = 2 := by decide
  have tx_3 : x_3.toInt = i.toInt + (2 : Int32).toInt := by rw [ex_3]; exact t_add ⟨by omega, by omega⟩
  refine va_sld hx hb hX hbl hbA hS (vp_in_iff.mpr ⟨by omega, by omega⟩) dL_law_679 ?_
  refine lv_topi (fun x_4 ex_4 => ?_)
  refine lv_aload_n hx hb dL_law_680 rfl (lv_at hl 3 rfl) ?_
  refine lv_iload_n hx hb dL_law_681 rfl (lv_at hl 0 rfl) ?_
  refine lv_iconst (v := 3) hx hb dL_law_682 (by decide) ?_
  refine lv_iadd hx hb dL_law_683 ?_
  refine lv_topi (fun x_5 ex_5 => ?_)
  have k_3 : (3 : Int32).toInt = 3 := by decide
  have tx_5 : x_5.toInt = i.toInt + (3 : Int32).toInt := by rw [ex_5]; exact t_add ⟨by omega, by omega⟩
  refine va_sld hx hb hX hbl hbA hS (vp_in_iff.mpr ⟨by omega, by omega⟩) dL_law_684 ?_
  refine lv_topi (fun x_6 ex_6 => ?_)
  have k_0 : (0 : Int32).toInt = 0 := by decide
  refine lv_if_eq (tgt := 692) hx hb dL_law_685 (by decide) (fun c_7 => ?_) (fun c_7 => ?_)
  · have tc_7 : x_6.toInt = (0 : Int32).toInt := by rw [c_7]
    refine lv_iconst (v := 0) hx hb dL_law_692 (by decide) ?_
    refine lv_aload_n hx hb dL_law_693 rfl (lv_at hl 3 rfl) ?_
    refine lv_iload_n hx hb dL_law_694 rfl (lv_at hl 0 rfl) ?_
    refine lv_iconst (v := 4) hx hb dL_law_695 (by decide) ?_
    refine lv_iadd hx hb dL_law_696 ?_
    refine lv_topi (fun x_8 ex_8 => ?_)
    have k_4 : (4 : Int32).toInt = 4 := by decide
    have tx_8 : x_8.toInt = i.toInt + (4 : Int32).toInt := by rw [ex_8]; exact t_add ⟨by omega, by omega⟩
    refine va_sld hx hb hX hbl hbA hS (vp_in_iff.mpr ⟨by omega, by omega⟩) dL_law_697 ?_
    refine lv_topi (fun x_9 ex_9 => ?_)
    refine lv_aload_n hx hb dL_law_698 rfl (lv_at hl 3 rfl) ?_
    refine lv_iload_n hx hb dL_law_699 rfl (lv_at hl 0 rfl) ?_
    refine lv_iconst (v := 5) hx hb dL_law_700 (by decide) ?_
    refine lv_iadd hx hb dL_law_701 ?_
    refine lv_topi (fun x_10 ex_10 => ?_)
    have k_5 : (5 : Int32).toInt = 5 := by decide
    have tx_10 : x_10.toInt = i.toInt + (5 : Int32).toInt := by rw [ex_10]; exact t_add ⟨by omega, by omega⟩
    refine va_sld hx hb hX hbl hbA hS (vp_in_iff.mpr ⟨by omega, by omega⟩) dL_law_702 ?_
    refine lv_topi (fun x_11 ex_11 => ?_)
    refine lv_aload_n hx hb dL_law_703 rfl (lv_at hl 3 rfl) ?_
    refine lv_iload_n hx hb dL_law_704 rfl (lv_at hl 0 rfl) ?_
    refine lv_bipush (v := 6) hx hb dL_law_705 (by decide) ?_
    refine lv_iadd hx hb dL_law_707 ?_
    refine lv_topi (fun x_12 ex_12 => ?_)
    have k_6 : (6 : Int32).toInt = 6 := by decide
    have tx_12 : x_12.toInt = i.toInt + (6 : Int32).toInt := by rw [ex_12]; exact t_add ⟨by omega, by omega⟩
    refine va_sld hx hb hX hbl hbA hS (vp_in_iff.mpr ⟨by omega, by omega⟩) dL_law_708 ?_
    refine lv_topi (fun x_13 ex_13 => ?_)
    have hv0 := hv
    refine yl_i (X := wl ad kv cy N v) (Y := wm ad2 cy v2) (w1 := fun (u : Nat → Nat → Int32) => wl ad kv cy N u) hP hD hS hA (va_runV (As := [.int x_2, .int x_4, .int 0, .int x_9, .int x_11, .int x_13]) (rest := []) ⟨hx, hb, hml, hown, hts⟩ (e_X7_term_0 l dC dI cy _ ad kv N hN v hv x_2 x_4 x_9 x_11 x_13) (cwV 6 hts gL_law_X7_term rfl rfl rfl hd_V_X7_term_6 ⟨Nat.le_of_ble_eq_true rfl, Nat.le_of_ble_eq_true rfl⟩) (yl_preV hE hK hP hD (ci := 7) (q := (RX7, TX7, 5)) (q0 := 0) rfl (wl_at (by omega) (ce_0 (by decide)))) rfl rfl hl.1 rfl (lv_room (Nat.le_of_ble_eq_true rfl)) dL_law_709 hcs) (fun r_14 c_14 H locs hw_14 hP hD hS => ?_)
    have hP : va_P (dC, dI) vwCl (wm ad2 cy v2 ++ wl ad kv cy N c_14) H := hP
    have hD : va_D (fun q : Nat => s.heap.size ≤ q) (wm ad2 cy v2 ++ wl ad kv cy N c_14) := hD
    obtain ⟨hv, hpc⟩ := hw_14
    refine lv_pop hx hb dL_law_712 rfl ?_
    refine lv_aload_n hx hb dL_law_713 rfl (lv_at hl 1 rfl) ?_
    refine lv_aload_n hx hb dL_law_714 rfl (lv_at hl 3 rfl) ?_
    refine lv_iload_n hx hb dL_law_715 rfl (lv_at hl 0 rfl) ?_
    refine lv_iconst (v := 1) hx hb dL_law_716 (by decide) ?_
    refine lv_iadd hx hb dL_law_717 ?_
    refine lv_topi (fun x_15 ex_15 => ?_)
    obtain rfl : x_1 = x_15 := ex_1.trans ex_15.symm
    refine va_sld hx hb hX hbl hbA hS (vp_in_iff.mpr ⟨by omega, by omega⟩) dL_law_718 ?_
    refine lv_topi (fun x_16 ex_16 => ?_)
    obtain rfl : x_2 = x_16 := ex_2.trans ex_16.symm
    refine lv_aload_n hx hb dL_law_719 rfl (lv_at hl 3 rfl) ?_
    refine lv_iload_n hx hb dL_law_720 rfl (lv_at hl 0 rfl) ?_
    refine lv_iconst (v := 2) hx hb dL_law_721 (by decide) ?_
    refine lv_iadd hx hb dL_law_722 ?_
    refine lv_topi (fun x_17 ex_17 => ?_)
    obtain rfl : x_3 = x_17 := ex_3.trans ex_17.symm
    refine va_sld hx hb hX hbl hbA hS (vp_in_iff.mpr ⟨by omega, by omega⟩) dL_law_723 ?_
    refine lv_topi (fun x_18 ex_18 => ?_)
    obtain rfl : x_4 = x_18 := ex_4.trans ex_18.symm
    refine lv_aload_n hx hb dL_law_724 rfl (lv_at hl 3 rfl) ?_
    refine lv_iload_n hx hb dL_law_725 rfl (lv_at hl 0 rfl) ?_
    refine lv_iconst (v := 3) hx hb dL_law_726 (by decide) ?_
    refine lv_iadd hx hb dL_law_727 ?_
    refine lv_topi (fun x_19 ex_19 => ?_)
    obtain rfl : x_5 = x_19 := ex_5.trans ex_19.symm
    refine va_sld hx hb hX hbl hbA hS (vp_in_iff.mpr ⟨by omega, by omega⟩) dL_law_728 ?_
    refine lv_topi (fun x_20 ex_20 => ?_)
    obtain rfl : x_6 = x_20 := ex_6.trans ex_20.symm
    refine lv_if_eq (tgt := 736) hx hb dL_law_729 (by decide) (fun c_21 => ?_) (fun c_21 => ?_)
    · have tc_21 : x_6.toInt = (0 : Int32).toInt := by rw [c_21]
      refine lv_iconst (v := 0) hx hb dL_law_736 (by decide) ?_
      refine lv_aload_n hx hb dL_law_737 rfl (lv_at hl 3 rfl) ?_
      refine lv_iload_n hx hb dL_law_738 rfl (lv_at hl 0 rfl) ?_
      refine lv_iconst (v := 4) hx hb dL_law_739 (by decide) ?_
      refine lv_iadd hx hb dL_law_740 ?_
      refine lv_topi (fun x_22 ex_22 => ?_)
      obtain rfl : x_8 = x_22 := ex_8.trans ex_22.symm
      refine va_sld hx hb hX hbl hbA hS (vp_in_iff.mpr ⟨by omega, by omega⟩) dL_law_741 ?_
      refine lv_topi (fun x_23 ex_23 => ?_)
      obtain rfl : x_9 = x_23 := ex_9.trans ex_23.symm
      refine lv_aload_n hx hb dL_law_742 rfl (lv_at hl 3 rfl) ?_
      refine lv_iload_n hx hb dL_law_743 rfl (lv_at hl 0 rfl) ?_
      refine lv_iconst (v := 5) hx hb dL_law_744 (by decide) ?_
      refine lv_iadd hx hb dL_law_745 ?_
      refine lv_topi (fun x_24 ex_24 => ?_)
      obtain rfl : x_10 = x_24 := ex_10.trans ex_24.symm
      refine va_sld hx hb hX hbl hbA hS (vp_in_iff.mpr ⟨by omega, by omega⟩) dL_law_746 ?_
      refine lv_topi (fun x_25 ex_25 => ?_)
      obtain rfl : x_11 = x_25 := ex_11.trans ex_25.symm
      refine lv_aload_n hx hb dL_law_747 rfl (lv_at hl 3 rfl) ?_
      refine lv_iload_n hx hb dL_law_748 rfl (lv_at hl 0 rfl) ?_
      refine lv_bipush (v := 6) hx hb dL_law_749 (by decide) ?_
      refine lv_iadd hx hb dL_law_751 ?_
      refine lv_topi (fun x_26 ex_26 => ?_)
      obtain rfl : x_12 = x_26 := ex_12.trans ex_26.symm
      refine va_sld hx hb hX hbl hbA hS (vp_in_iff.mpr ⟨by omega, by omega⟩) dL_law_752 ?_
      refine lv_topi (fun x_27 ex_27 => ?_)
      obtain rfl : x_13 = x_27 := ex_13.trans ex_27.symm
      have hq0 := hq
      refine yl_i (X := wm ad2 cy v2) (Y := wl ad kv cy N c_14) (w1 := fun (u : Nat → Nat → Int32) => wm ad2 cy u) hP hD hS hA (va_runV (As := [.int x_2, .int x_4, .int 0, .int x_9, .int x_11, .int x_13]) (rest := []) ⟨hx, hb, hml, hown, hts⟩ (e_X8_term_0 l dC dI cy _ ad2 v2 hq x_2 x_4 x_9 x_11 x_13) (cwV 6 hts gL_law_X8_term rfl rfl rfl hd_V_X8_term_6 ⟨Nat.le_of_ble_eq_true rfl, Nat.le_of_ble_eq_true rfl⟩) (yl_preV hE hK hP hD (ci := 8) (q := (RX8, TX8, 11)) (q0 := 0) rfl (wm_at (by decide) rc_0)) rfl rfl hl.1 rfl (lv_room (Nat.le_of_ble_eq_true rfl)) dL_law_753 hcs) (fun r_28 m_28 H locs hw_28 hP hD hS => ?_)
      have hP : va_P (dC, dI) vwCl (wl ad kv cy N c_14 ++ wm ad2 cy m_28) H := hP
      have hD : va_D (fun q : Nat => s.heap.size ≤ q) (wl ad kv cy N c_14 ++ wm ad2 cy m_28) := hD
      obtain ⟨hq, hpm⟩ := hw_28
      obtain ⟨hrr, hJ⟩ := S_term_0 hv0 hq0 hJ hpc hpm
      subst hrr
      refine lv_pop hx hb dL_law_756 rfl ?_
      refine lv_goto (tgt := 1060) hx hb dL_law_757 (by decide) ?_
      exact kk c_14 m_28 _ _ ls hv hq hJ hP hD hS hl
    · have tc_21 : x_6.toInt ≠ (0 : Int32).toInt := fun q => absurd (Int32.toInt_inj.mp q) c_21
      exfalso
      first | contradiction | omega
  · have tc_7 : x_6.toInt ≠ (0 : Int32).toInt := fun q => absurd (Int32.toInt_inj.mp q) c_7
    refine lv_iconst (v := 1) hx hb dL_law_688 (by decide) ?_
    refine lv_goto (tgt := 693) hx hb dL_law_689 (by decide) ?_
    refine lv_aload_n hx hb dL_law_693 rfl (lv_at hl 3 rfl) ?_
    refine lv_iload_n hx hb dL_law_694 rfl (lv_at hl 0 rfl) ?_
    refine lv_iconst (v := 4) hx hb dL_law_695 (by decide) ?_
    refine lv_iadd hx hb dL_law_696 ?_
    refine lv_topi (fun x_8 ex_8 => ?_)
    have k_4 : (4 : Int32).toInt = 4 := by decide
    have tx_8 : x_8.toInt = i.toInt + (4 : Int32).toInt := by rw [ex_8]; exact t_add ⟨by omega, by omega⟩
    refine va_sld hx hb hX hbl hbA hS (vp_in_iff.mpr ⟨by omega, by omega⟩) dL_law_697 ?_
    refine lv_topi (fun x_9 ex_9 => ?_)
    refine lv_aload_n hx hb dL_law_698 rfl (lv_at hl 3 rfl) ?_
    refine lv_iload_n hx hb dL_law_699 rfl (lv_at hl 0 rfl) ?_
    refine lv_iconst (v := 5) hx hb dL_law_700 (by decide) ?_
    refine lv_iadd hx hb dL_law_701 ?_
    refine lv_topi (fun x_10 ex_10 => ?_)
    have k_5 : (5 : Int32).toInt = 5 := by decide
    have tx_10 : x_10.toInt = i.toInt + (5 : Int32).toInt := by rw [ex_10]; exact t_add ⟨by omega, by omega⟩
    refine va_sld hx hb hX hbl hbA hS (vp_in_iff.mpr ⟨by omega, by omega⟩) dL_law_702 ?_
    refine lv_topi (fun x_11 ex_11 => ?_)
    refine lv_aload_n hx hb dL_law_703 rfl (lv_at hl 3 rfl) ?_
    refine lv_iload_n hx hb dL_law_704 rfl (lv_at hl 0 rfl) ?_
    refine lv_bipush (v := 6) hx hb dL_law_705 (by decide) ?_
    refine lv_iadd hx hb dL_law_707 ?_
    refine lv_topi (fun x_12 ex_12 => ?_)
    have k_6 : (6 : Int32).toInt = 6 := by decide
    have tx_12 : x_12.toInt = i.toInt + (6 : Int32).toInt := by rw [ex_12]; exact t_add ⟨by omega, by omega⟩
    refine va_sld hx hb hX hbl hbA hS (vp_in_iff.mpr ⟨by omega, by omega⟩) dL_law_708 ?_
    refine lv_topi (fun x_13 ex_13 => ?_)
    have hv0 := hv
    refine yl_i (X := wl ad kv cy N v) (Y := wm ad2 cy v2) (w1 := fun (u : Nat → Nat → Int32) => wl ad kv cy N u) hP hD hS hA (va_runV (As := [.int x_2, .int x_4, .int 1, .int x_9, .int x_11, .int x_13]) (rest := []) ⟨hx, hb, hml, hown, hts⟩ (e_X7_term_1 l dC dI cy _ ad kv N hN v hv x_2 x_4 x_9 x_11 x_13) (cwV 6 hts gL_law_X7_term rfl rfl rfl hd_V_X7_term_6 ⟨Nat.le_of_ble_eq_true rfl, Nat.le_of_ble_eq_true rfl⟩) (yl_preV hE hK hP hD (ci := 7) (q := (RX7, TX7, 5)) (q0 := 0) rfl (wl_at (by omega) (ce_0 (by decide)))) rfl rfl hl.1 rfl (lv_room (Nat.le_of_ble_eq_true rfl)) dL_law_709 hcs) (fun r_14 c_14 H locs hw_14 hP hD hS => ?_)
    have hP : va_P (dC, dI) vwCl (wm ad2 cy v2 ++ wl ad kv cy N c_14) H := hP
    have hD : va_D (fun q : Nat => s.heap.size ≤ q) (wm ad2 cy v2 ++ wl ad kv cy N c_14) := hD
    obtain ⟨hv, hpc⟩ := hw_14
    refine lv_pop hx hb dL_law_712 rfl ?_
    refine lv_aload_n hx hb dL_law_713 rfl (lv_at hl 1 rfl) ?_
    refine lv_aload_n hx hb dL_law_714 rfl (lv_at hl 3 rfl) ?_
    refine lv_iload_n hx hb dL_law_715 rfl (lv_at hl 0 rfl) ?_
    refine lv_iconst (v := 1) hx hb dL_law_716 (by decide) ?_
    refine lv_iadd hx hb dL_law_717 ?_
    refine lv_topi (fun x_15 ex_15 => ?_)
    obtain rfl : x_1 = x_15 := ex_1.trans ex_15.symm
    refine va_sld hx hb hX hbl hbA hS (vp_in_iff.mpr ⟨by omega, by omega⟩) dL_law_718 ?_
    refine lv_topi (fun x_16 ex_16 => ?_)
    obtain rfl : x_2 = x_16 := ex_2.trans ex_16.symm
    refine lv_aload_n hx hb dL_law_719 rfl (lv_at hl 3 rfl) ?_
    refine lv_iload_n hx hb dL_law_720 rfl (lv_at hl 0 rfl) ?_
    refine lv_iconst (v := 2) hx hb dL_law_721 (by decide) ?_
    refine lv_iadd hx hb dL_law_722 ?_
    refine lv_topi (fun x_17 ex_17 => ?_)
    obtain rfl : x_3 = x_17 := ex_3.trans ex_17.symm
    refine va_sld hx hb hX hbl hbA hS (vp_in_iff.mpr ⟨by omega, by omega⟩) dL_law_723 ?_
    refine lv_topi (fun x_18 ex_18 => ?_)
    obtain rfl : x_4 = x_18 := ex_4.trans ex_18.symm
    refine lv_aload_n hx hb dL_law_724 rfl (lv_at hl 3 rfl) ?_
    refine lv_iload_n hx hb dL_law_725 rfl (lv_at hl 0 rfl) ?_
    refine lv_iconst (v := 3) hx hb dL_law_726 (by decide) ?_
    refine lv_iadd hx hb dL_law_727 ?_
    refine lv_topi (fun x_19 ex_19 => ?_)
    obtain rfl : x_5 = x_19 := ex_5.trans ex_19.symm
    refine va_sld hx hb hX hbl hbA hS (vp_in_iff.mpr ⟨by omega, by omega⟩) dL_law_728 ?_
    refine lv_topi (fun x_20 ex_20 => ?_)
    obtain rfl : x_6 = x_20 := ex_6.trans ex_20.symm
    refine lv_if_eq (tgt := 736) hx hb dL_law_729 (by decide) (fun c_21 => ?_) (fun c_21 => ?_)
    · have tc_21 : x_6.toInt = (0 : Int32).toInt := by rw [c_21]
      exfalso
      first | contradiction | omega
    · have tc_21 : x_6.toInt ≠ (0 : Int32).toInt := fun q => absurd (Int32.toInt_inj.mp q) c_21
      refine lv_iconst (v := 1) hx hb dL_law_732 (by decide) ?_
      refine lv_goto (tgt := 737) hx hb dL_law_733 (by decide) ?_
      refine lv_aload_n hx hb dL_law_737 rfl (lv_at hl 3 rfl) ?_
      refine lv_iload_n hx hb dL_law_738 rfl (lv_at hl 0 rfl) ?_
      refine lv_iconst (v := 4) hx hb dL_law_739 (by decide) ?_
      refine lv_iadd hx hb dL_law_740 ?_
      refine lv_topi (fun x_22 ex_22 => ?_)
      obtain rfl : x_8 = x_22 := ex_8.trans ex_22.symm
      refine va_sld hx hb hX hbl hbA hS (vp_in_iff.mpr ⟨by omega, by omega⟩) dL_law_741 ?_
      refine lv_topi (fun x_23 ex_23 => ?_)
      obtain rfl : x_9 = x_23 := ex_9.trans ex_23.symm
      refine lv_aload_n hx hb dL_law_742 rfl (lv_at hl 3 rfl) ?_
      refine lv_iload_n hx hb dL_law_743 rfl (lv_at hl 0 rfl) ?_
      refine lv_iconst (v := 5) hx hb dL_law_744 (by decide) ?_
      refine lv_iadd hx hb dL_law_745 ?_
      refine lv_topi (fun x_24 ex_24 => ?_)
      obtain rfl : x_10 = x_24 := ex_10.trans ex_24.symm
      refine va_sld hx hb hX hbl hbA hS (vp_in_iff.mpr ⟨by omega, by omega⟩) dL_law_746 ?_
      refine lv_topi (fun x_25 ex_25 => ?_)
      obtain rfl : x_11 = x_25 := ex_11.trans ex_25.symm
      refine lv_aload_n hx hb dL_law_747 rfl (lv_at hl 3 rfl) ?_
      refine lv_iload_n hx hb dL_law_748 rfl (lv_at hl 0 rfl) ?_
      refine lv_bipush (v := 6) hx hb dL_law_749 (by decide) ?_
      refine lv_iadd hx hb dL_law_751 ?_
      refine lv_topi (fun x_26 ex_26 => ?_)
      obtain rfl : x_12 = x_26 := ex_12.trans ex_26.symm
      refine va_sld hx hb hX hbl hbA hS (vp_in_iff.mpr ⟨by omega, by omega⟩) dL_law_752 ?_
      refine lv_topi (fun x_27 ex_27 => ?_)
      obtain rfl : x_13 = x_27 := ex_13.trans ex_27.symm
      have hq0 := hq
      refine yl_i (X := wm ad2 cy v2) (Y := wl ad kv cy N c_14) (w1 := fun (u : Nat → Nat → Int32) => wm ad2 cy u) hP hD hS hA (va_runV (As := [.int x_2, .int x_4, .int 1, .int x_9, .int x_11, .int x_13]) (rest := []) ⟨hx, hb, hml, hown, hts⟩ (e_X8_term_1 l dC dI cy _ ad2 v2 hq x_2 x_4 x_9 x_11 x_13) (cwV 6 hts gL_law_X8_term rfl rfl rfl hd_V_X8_term_6 ⟨Nat.le_of_ble_eq_true rfl, Nat.le_of_ble_eq_true rfl⟩) (yl_preV hE hK hP hD (ci := 8) (q := (RX8, TX8, 11)) (q0 := 0) rfl (wm_at (by decide) rc_0)) rfl rfl hl.1 rfl (lv_room (Nat.le_of_ble_eq_true rfl)) dL_law_753 hcs) (fun r_28 m_28 H locs hw_28 hP hD hS => ?_)
      have hP : va_P (dC, dI) vwCl (wl ad kv cy N c_14 ++ wm ad2 cy m_28) H := hP
      have hD : va_D (fun q : Nat => s.heap.size ≤ q) (wl ad kv cy N c_14 ++ wm ad2 cy m_28) := hD
      obtain ⟨hq, hpm⟩ := hw_28
      obtain ⟨hrr, hJ⟩ := S_term_1 hv0 hq0 hJ hpc hpm
      subst hrr
      refine lv_pop hx hb dL_law_756 rfl ?_
      refine lv_goto (tgt := 1060) hx hb dL_law_757 (by decide) ?_
      exact kk c_14 m_28 _ _ ls hv hq hJ hP hD hS hl

set_option maxHeartbeats 4000000 in
set_option maxRecDepth 100000 in
/-- the case of strike -/
theorem lc_16 {p : Program} {l : Launch} {e : Env} {s : State} {m : MethodId} {below : List Frame} {meth : Method} {c : Code} {dC : Nat → ClassId} {dI : Nat → Nat → Nat} {cy : Nat → ClassId} {b L : Nat} {xs : Nat → Int32} (C0 : lw_At p s m meth c b L xs) {t1 t2 : Nat} (hSt : ex_St t1 t2 (fun q : Nat => s.heap.size ≤ q) s) (hE : ex_K s) (hK : va_K (dC, dI) vwCl (ty_L cy) s) (hL : L ≤ 3584) {ad ad2 : Nat → Nat} {kv : Value} {N : Nat} (hN : 119 ≤ N) {v v2 : Nat → Nat → Int32} (hv : Iv v) (hq : Ir v2) {n : Int32} (hJ : RR3 n v v2) {i : Int32} (hi : 0 ≤ i.toInt ∧ i.toInt + 7 ≤ (L : Int)) {cells slots : Nat} (hcs : cells ≤ room_1.cells ∧ slots ≤ room_1.slots) {H : Heap} {locs : List Loc} (hP : va_P (dC, dI) vwCl (wl ad kv cy N v ++ wm ad2 cy v2) H) (hD : va_D (fun q : Nat => s.heap.size ≤ q) (wl ad kv cy N v ++ wm ad2 cy v2)) (hS : va_S (fun q : Nat => s.heap.size ≤ q) s.heap H locs) (ls : Array Slot) (hl : lv_has ls 4 [(3, .int i), (2, .ref (ad2 0)), (1, .ref (ad 0)), (0, .ref b)]) (kk : ∀ (v1 v3 : Nat → Nat → Int32) (H1 : Heap) (locs1 : List Loc) (ls1 : Array Slot), Iv v1 → Ir v3 → RR3 n v1 v3 → va_P (dC, dI) vwCl (wl ad kv cy N v1 ++ wm ad2 cy v3) H1 → va_D (fun q : Nat => s.heap.size ≤ q) (wl ad kv cy N v1 ++ wm ad2 cy v3) → va_S (fun q : Nat => s.heap.size ≤ q) s.heap H1 locs1 → lv_has ls1 4 [(3, .int i), (2, .ref (ad2 0)), (1, .ref (ad 0)), (0, .ref b)] → W p l e room_1 s m #[Value.ref b] below meth c H1 locs1 cells slots (lw_Z below #[Value.ref b] s) (F0 m 1060 ls1 [])) : W p l e room_1 s m #[Value.ref b] below meth c H locs cells slots (lw_Z below #[Value.ref b] s) (F0 m 760 ls []) := by
  obtain ⟨hx, hb, hr, hml, hown, hts0, hX, hbl, hlocks, hgv⟩ := id C0
  have hts : ∀ w ∈ wsL_law, w.before #[Value.ref b] s = true := fun w h => hts0 w (wsL_law_in w h)
  have hown : s.vm.findClass RL = some m.cls := hown
  have hA : ∀ q : Nat, s.heap.size ≤ q → (fun q : Nat => s.heap.size ≤ q) q := fun _ h => h
  have hbA : ¬ (fun q : Nat => s.heap.size ≤ q) b := Nat.not_le.mpr hbl
  refine lv_aload_n hx hb dL_law_760 rfl (lv_at hl 2 rfl) ?_
  refine lv_aload_n hx hb dL_law_761 rfl (lv_at hl 3 rfl) ?_
  refine lv_iload_n hx hb dL_law_762 rfl (lv_at hl 0 rfl) ?_
  refine lv_iconst (v := 1) hx hb dL_law_763 (by decide) ?_
  refine lv_iadd hx hb dL_law_764 ?_
  refine lv_topi (fun x_1 ex_1 => ?_)
  have k_1 : (1 : Int32).toInt = 1 := by decide
  have tx_1 : x_1.toInt = i.toInt + (1 : Int32).toInt := by rw [ex_1]; exact t_add ⟨by omega, by omega⟩
  refine va_sld hx hb hX hbl hbA hS (vp_in_iff.mpr ⟨by omega, by omega⟩) dL_law_765 ?_
  refine lv_topi (fun x_2 ex_2 => ?_)
  have hv0 := hv
  refine yl_i (X := wl ad kv cy N v) (Y := wm ad2 cy v2) (w1 := fun (u : Nat → Nat → Int32) => wl ad kv cy N u) hP hD hS hA (va_runV (As := [.int x_2]) (rest := []) ⟨hx, hb, hml, hown, hts⟩ (e_X7_strike l dC dI cy _ ad kv N hN v hv x_2) (cwV 1 hts gL_law_X7_strike rfl rfl rfl hd_V_X7_strike_1 ⟨Nat.le_of_ble_eq_true rfl, Nat.le_of_ble_eq_true rfl⟩) (yl_preV hE hK hP hD (ci := 7) (q := (RX7, TX7, 5)) (q0 := 0) rfl (wl_at (by omega) (ce_0 (by decide)))) rfl rfl hl.1 rfl (lv_room (Nat.le_of_ble_eq_true rfl)) dL_law_766 hcs) (fun r_3 c_3 H locs hw_3 hP hD hS => ?_)
  have hP : va_P (dC, dI) vwCl (wm ad2 cy v2 ++ wl ad kv cy N c_3) H := hP
  have hD : va_D (fun q : Nat => s.heap.size ≤ q) (wm ad2 cy v2 ++ wl ad kv cy N c_3) := hD
  obtain ⟨hv, hpc⟩ := hw_3
  refine lv_pop hx hb dL_law_769 rfl ?_
  refine lv_aload_n hx hb dL_law_770 rfl (lv_at hl 1 rfl) ?_
  refine lv_aload_n hx hb dL_law_771 rfl (lv_at hl 3 rfl) ?_
  refine lv_iload_n hx hb dL_law_772 rfl (lv_at hl 0 rfl) ?_
  refine lv_iconst (v := 1) hx hb dL_law_773 (by decide) ?_
  refine lv_iadd hx hb dL_law_774 ?_
  refine lv_topi (fun x_4 ex_4 => ?_)
  obtain rfl : x_1 = x_4 := ex_1.trans ex_4.symm
  refine va_sld hx hb hX hbl hbA hS (vp_in_iff.mpr ⟨by omega, by omega⟩) dL_law_775 ?_
  refine lv_topi (fun x_5 ex_5 => ?_)
  obtain rfl : x_2 = x_5 := ex_2.trans ex_5.symm
  have hq0 := hq
  refine yl_i (X := wm ad2 cy v2) (Y := wl ad kv cy N c_3) (w1 := fun (u : Nat → Nat → Int32) => wm ad2 cy u) hP hD hS hA (va_runV (As := [.int x_2]) (rest := []) ⟨hx, hb, hml, hown, hts⟩ (e_X8_strike l dC dI cy _ ad2 v2 hq x_2) (cwV 1 hts gL_law_X8_strike rfl rfl rfl hd_V_X8_strike_1 ⟨Nat.le_of_ble_eq_true rfl, Nat.le_of_ble_eq_true rfl⟩) (yl_preV hE hK hP hD (ci := 8) (q := (RX8, TX8, 11)) (q0 := 0) rfl (wm_at (by decide) rc_0)) rfl rfl hl.1 rfl (lv_room (Nat.le_of_ble_eq_true rfl)) dL_law_776 hcs) (fun r_6 m_6 H locs hw_6 hP hD hS => ?_)
  have hP : va_P (dC, dI) vwCl (wl ad kv cy N c_3 ++ wm ad2 cy m_6) H := hP
  have hD : va_D (fun q : Nat => s.heap.size ≤ q) (wl ad kv cy N c_3 ++ wm ad2 cy m_6) := hD
  obtain ⟨hq, hpm⟩ := hw_6
  obtain ⟨hrr, hJ⟩ := S_strike hv0 hq0 hJ hpc hpm
  subst hrr
  refine lv_pop hx hb dL_law_779 rfl ?_
  refine lv_goto (tgt := 1060) hx hb dL_law_780 (by decide) ?_
  exact kk c_3 m_6 _ _ ls hv hq hJ hP hD hS hl

set_option maxHeartbeats 4000000 in
set_option maxRecDepth 100000 in
/-- the case of termOf -/
theorem lc_17 {p : Program} {l : Launch} {e : Env} {s : State} {m : MethodId} {below : List Frame} {meth : Method} {c : Code} {dC : Nat → ClassId} {dI : Nat → Nat → Nat} {cy : Nat → ClassId} {b L : Nat} {xs : Nat → Int32} (C0 : lw_At p s m meth c b L xs) {t1 t2 : Nat} (hSt : ex_St t1 t2 (fun q : Nat => s.heap.size ≤ q) s) (hE : ex_K s) (hK : va_K (dC, dI) vwCl (ty_L cy) s) (hL : L ≤ 3584) {ad ad2 : Nat → Nat} {kv : Value} {N : Nat} (hN : 119 ≤ N) {v v2 : Nat → Nat → Int32} (hv : Iv v) (hq : Ir v2) {n : Int32} (hJ : RR3 n v v2) {i : Int32} (hi : 0 ≤ i.toInt ∧ i.toInt + 7 ≤ (L : Int)) {cells slots : Nat} (hcs : cells ≤ room_1.cells ∧ slots ≤ room_1.slots) {H : Heap} {locs : List Loc} (hP : va_P (dC, dI) vwCl (wl ad kv cy N v ++ wm ad2 cy v2) H) (hD : va_D (fun q : Nat => s.heap.size ≤ q) (wl ad kv cy N v ++ wm ad2 cy v2)) (hS : va_S (fun q : Nat => s.heap.size ≤ q) s.heap H locs) (ls : Array Slot) (hl : lv_has ls 4 [(3, .int i), (2, .ref (ad2 0)), (1, .ref (ad 0)), (0, .ref b)]) (kk : ∀ (v1 v3 : Nat → Nat → Int32) (H1 : Heap) (locs1 : List Loc) (ls1 : Array Slot), Iv v1 → Ir v3 → RR3 n v1 v3 → va_P (dC, dI) vwCl (wl ad kv cy N v1 ++ wm ad2 cy v3) H1 → va_D (fun q : Nat => s.heap.size ≤ q) (wl ad kv cy N v1 ++ wm ad2 cy v3) → va_S (fun q : Nat => s.heap.size ≤ q) s.heap H1 locs1 → lv_has ls1 4 [(3, .int i), (2, .ref (ad2 0)), (1, .ref (ad 0)), (0, .ref b)] → W p l e room_1 s m #[Value.ref b] below meth c H1 locs1 cells slots (lw_Z below #[Value.ref b] s) (F0 m 1060 ls1 [])) : W p l e room_1 s m #[Value.ref b] below meth c H locs cells slots (lw_Z below #[Value.ref b] s) (F0 m 783 ls []) := by
  obtain ⟨hx, hb, hr, hml, hown, hts0, hX, hbl, hlocks, hgv⟩ := id C0
  have hts : ∀ w ∈ wsL_law, w.before #[Value.ref b] s = true := fun w h => hts0 w (wsL_law_in w h)
  have hown : s.vm.findClass RL = some m.cls := hown
  have hA : ∀ q : Nat, s.heap.size ≤ q → (fun q : Nat => s.heap.size ≤ q) q := fun _ h => h
  have hbA : ¬ (fun q : Nat => s.heap.size ≤ q) b := Nat.not_le.mpr hbl
  refine lv_aload_n hx hb dL_law_783 rfl (lv_at hl 2 rfl) ?_
  refine lv_aload_n hx hb dL_law_784 rfl (lv_at hl 3 rfl) ?_
  refine lv_iload_n hx hb dL_law_785 rfl (lv_at hl 0 rfl) ?_
  refine lv_iconst (v := 1) hx hb dL_law_786 (by decide) ?_
  refine lv_iadd hx hb dL_law_787 ?_
  refine lv_topi (fun x_1 ex_1 => ?_)
  have k_1 : (1 : Int32).toInt = 1 := by decide
  have tx_1 : x_1.toInt = i.toInt + (1 : Int32).toInt := by rw [ex_1]; exact t_add ⟨by omega, by omega⟩
  refine va_sld hx hb hX hbl hbA hS (vp_in_iff.mpr ⟨by omega, by omega⟩) dL_law_788 ?_
  refine lv_topi (fun x_2 ex_2 => ?_)
  refine lv_aload_n hx hb dL_law_789 rfl (lv_at hl 3 rfl) ?_
  refine lv_iload_n hx hb dL_law_790 rfl (lv_at hl 0 rfl) ?_
  refine lv_iconst (v := 2) hx hb dL_law_791 (by decide) ?_
  refine lv_iadd hx hb dL_law_792 ?_
  refine lv_topi (fun x_3 ex_3 => ?_)
  have k_2 : (2 : Int32).toInt = 2 := by decide
  have tx_3 : x_3.toInt = i.toInt + (2 : Int32).toInt := by rw [ex_3]; exact t_add ⟨by omega, by omega⟩
  refine va_sld hx hb hX hbl hbA hS (vp_in_iff.mpr ⟨by omega, by omega⟩) dL_law_793 ?_
  refine lv_topi (fun x_4 ex_4 => ?_)
  refine lv_aload_n hx hb dL_law_794 rfl (lv_at hl 3 rfl) ?_
  refine lv_iload_n hx hb dL_law_795 rfl (lv_at hl 0 rfl) ?_
  refine lv_iconst (v := 3) hx hb dL_law_796 (by decide) ?_
  refine lv_iadd hx hb dL_law_797 ?_
  refine lv_topi (fun x_5 ex_5 => ?_)
  have k_3 : (3 : Int32).toInt = 3 := by decide
  have tx_5 : x_5.toInt = i.toInt + (3 : Int32).toInt := by rw [ex_5]; exact t_add ⟨by omega, by omega⟩
  refine va_sld hx hb hX hbl hbA hS (vp_in_iff.mpr ⟨by omega, by omega⟩) dL_law_798 ?_
  refine lv_topi (fun x_6 ex_6 => ?_)
  refine yl_i (X := wl ad kv cy N v) (Y := wm ad2 cy v2) (w1 := fun (u : Nat → Nat → Int32) => wl ad kv cy N u) hP hD hS hA (va_runV (As := [.int x_2, .int x_4, .int x_6]) (rest := []) ⟨hx, hb, hml, hown, hts⟩ (g_X7_termOf l dC dI cy _ ad kv N hN v hv x_2 x_4 x_6) (cwV 3 hts gL_law_X7_termOf rfl rfl rfl hd_V_X7_termOf_3 ⟨Nat.le_of_ble_eq_true rfl, Nat.le_of_ble_eq_true rfl⟩) (yl_preV hE hK hP hD (ci := 7) (q := (RX7, TX7, 5)) (q0 := 0) rfl (wl_at (by omega) (ce_0 (by decide)))) rfl rfl hl.1 rfl (lv_room (Nat.le_of_ble_eq_true rfl)) dL_law_799 hcs) (fun r_7 c_7 H locs hw_7 hP hD hS => ?_)
  have hP : va_P (dC, dI) vwCl (wm ad2 cy v2 ++ wl ad kv cy N c_7) H := hP
  have hD : va_D (fun q : Nat => s.heap.size ≤ q) (wm ad2 cy v2 ++ wl ad kv cy N c_7) := hD
  obtain ⟨hv, hf_c_7⟩ := hw_7
  refine lv_pop hx hb dL_law_802 rfl ?_
  refine lv_aload_n hx hb dL_law_803 rfl (lv_at hl 1 rfl) ?_
  refine lv_aload_n hx hb dL_law_804 rfl (lv_at hl 3 rfl) ?_
  refine lv_iload_n hx hb dL_law_805 rfl (lv_at hl 0 rfl) ?_
  refine lv_iconst (v := 1) hx hb dL_law_806 (by decide) ?_
  refine lv_iadd hx hb dL_law_807 ?_
  refine lv_topi (fun x_8 ex_8 => ?_)
  obtain rfl : x_1 = x_8 := ex_1.trans ex_8.symm
  refine va_sld hx hb hX hbl hbA hS (vp_in_iff.mpr ⟨by omega, by omega⟩) dL_law_808 ?_
  refine lv_topi (fun x_9 ex_9 => ?_)
  obtain rfl : x_2 = x_9 := ex_2.trans ex_9.symm
  refine lv_aload_n hx hb dL_law_809 rfl (lv_at hl 3 rfl) ?_
  refine lv_iload_n hx hb dL_law_810 rfl (lv_at hl 0 rfl) ?_
  refine lv_iconst (v := 2) hx hb dL_law_811 (by decide) ?_
  refine lv_iadd hx hb dL_law_812 ?_
  refine lv_topi (fun x_10 ex_10 => ?_)
  obtain rfl : x_3 = x_10 := ex_3.trans ex_10.symm
  refine va_sld hx hb hX hbl hbA hS (vp_in_iff.mpr ⟨by omega, by omega⟩) dL_law_813 ?_
  refine lv_topi (fun x_11 ex_11 => ?_)
  obtain rfl : x_4 = x_11 := ex_4.trans ex_11.symm
  refine lv_aload_n hx hb dL_law_814 rfl (lv_at hl 3 rfl) ?_
  refine lv_iload_n hx hb dL_law_815 rfl (lv_at hl 0 rfl) ?_
  refine lv_iconst (v := 3) hx hb dL_law_816 (by decide) ?_
  refine lv_iadd hx hb dL_law_817 ?_
  refine lv_topi (fun x_12 ex_12 => ?_)
  obtain rfl : x_5 = x_12 := ex_5.trans ex_12.symm
  refine va_sld hx hb hX hbl hbA hS (vp_in_iff.mpr ⟨by omega, by omega⟩) dL_law_818 ?_
  refine lv_topi (fun x_13 ex_13 => ?_)
  obtain rfl : x_6 = x_13 := ex_6.trans ex_13.symm
  refine yl_i (X := wm ad2 cy v2) (Y := wl ad kv cy N c_7) (w1 := fun (u : Nat → Nat → Int32) => wm ad2 cy u) hP hD hS hA (va_runV (As := [.int x_2, .int x_4, .int x_6]) (rest := []) ⟨hx, hb, hml, hown, hts⟩ (q_X8_termOf l dC dI cy _ ad2 v2 hq x_2 x_4 x_6) (cwV 3 hts gL_law_X8_termOf rfl rfl rfl hd_V_X8_termOf_3 ⟨Nat.le_of_ble_eq_true rfl, Nat.le_of_ble_eq_true rfl⟩) (yl_preV hE hK hP hD (ci := 8) (q := (RX8, TX8, 11)) (q0 := 0) rfl (wm_at (by decide) rc_0)) rfl rfl hl.1 rfl (lv_room (Nat.le_of_ble_eq_true rfl)) dL_law_819 hcs) (fun r_14 m_14 H locs hw_14 hP hD hS => ?_)
  have hP : va_P (dC, dI) vwCl (wl ad kv cy N c_7 ++ wm ad2 cy m_14) H := hP
  have hD : va_D (fun q : Nat => s.heap.size ≤ q) (wl ad kv cy N c_7 ++ wm ad2 cy m_14) := hD
  obtain ⟨hq, hf_m_14⟩ := hw_14
  have hJ := hJ.mv hf_c_7 (Fq_e hf_m_14)
  refine lv_pop hx hb dL_law_822 rfl ?_
  refine lv_goto (tgt := 1060) hx hb dL_law_823 (by decide) ?_
  exact kk c_7 m_14 _ _ ls hv hq hJ hP hD hS hl

set_option maxHeartbeats 4000000 in
set_option maxRecDepth 100000 in
/-- the case of hour -/
theorem lc_18 {p : Program} {l : Launch} {e : Env} {s : State} {m : MethodId} {below : List Frame} {meth : Method} {c : Code} {dC : Nat → ClassId} {dI : Nat → Nat → Nat} {cy : Nat → ClassId} {b L : Nat} {xs : Nat → Int32} (C0 : lw_At p s m meth c b L xs) {t1 t2 : Nat} (hSt : ex_St t1 t2 (fun q : Nat => s.heap.size ≤ q) s) (hE : ex_K s) (hK : va_K (dC, dI) vwCl (ty_L cy) s) (hL : L ≤ 3584) {ad ad2 : Nat → Nat} {kv : Value} {N : Nat} (hN : 119 ≤ N) {v v2 : Nat → Nat → Int32} (hv : Iv v) (hq : Ir v2) {n : Int32} (hJ : RR3 n v v2) {i : Int32} (hi : 0 ≤ i.toInt ∧ i.toInt + 7 ≤ (L : Int)) {cells slots : Nat} (hcs : cells ≤ room_1.cells ∧ slots ≤ room_1.slots) {H : Heap} {locs : List Loc} (hP : va_P (dC, dI) vwCl (wl ad kv cy N v ++ wm ad2 cy v2) H) (hD : va_D (fun q : Nat => s.heap.size ≤ q) (wl ad kv cy N v ++ wm ad2 cy v2)) (hS : va_S (fun q : Nat => s.heap.size ≤ q) s.heap H locs) (ls : Array Slot) (hl : lv_has ls 4 [(3, .int i), (2, .ref (ad2 0)), (1, .ref (ad 0)), (0, .ref b)]) (kk : ∀ (v1 v3 : Nat → Nat → Int32) (H1 : Heap) (locs1 : List Loc) (ls1 : Array Slot), Iv v1 → Ir v3 → RR3 n v1 v3 → va_P (dC, dI) vwCl (wl ad kv cy N v1 ++ wm ad2 cy v3) H1 → va_D (fun q : Nat => s.heap.size ≤ q) (wl ad kv cy N v1 ++ wm ad2 cy v3) → va_S (fun q : Nat => s.heap.size ≤ q) s.heap H1 locs1 → lv_has ls1 4 [(3, .int i), (2, .ref (ad2 0)), (1, .ref (ad 0)), (0, .ref b)] → W p l e room_1 s m #[Value.ref b] below meth c H1 locs1 cells slots (lw_Z below #[Value.ref b] s) (F0 m 1060 ls1 [])) : W p l e room_1 s m #[Value.ref b] below meth c H locs cells slots (lw_Z below #[Value.ref b] s) (F0 m 826 ls []) := by
  obtain ⟨hx, hb, hr, hml, hown, hts0, hX, hbl, hlocks, hgv⟩ := id C0
  have hts : ∀ w ∈ wsL_law, w.before #[Value.ref b] s = true := fun w h => hts0 w (wsL_law_in w h)
  have hown : s.vm.findClass RL = some m.cls := hown
  have hA : ∀ q : Nat, s.heap.size ≤ q → (fun q : Nat => s.heap.size ≤ q) q := fun _ h => h
  have hbA : ¬ (fun q : Nat => s.heap.size ≤ q) b := Nat.not_le.mpr hbl
  refine lv_aload_n hx hb dL_law_826 rfl (lv_at hl 2 rfl) ?_
  refine lv_aload_n hx hb dL_law_827 rfl (lv_at hl 3 rfl) ?_
  refine lv_iload_n hx hb dL_law_828 rfl (lv_at hl 0 rfl) ?_
  refine lv_iconst (v := 1) hx hb dL_law_829 (by decide) ?_
  refine lv_iadd hx hb dL_law_830 ?_
  refine lv_topi (fun x_1 ex_1 => ?_)
  have k_1 : (1 : Int32).toInt = 1 := by decide
  have tx_1 : x_1.toInt = i.toInt + (1 : Int32).toInt := by rw [ex_1]; exact t_add ⟨by omega, by omega⟩
  refine va_sld hx hb hX hbl hbA hS (vp_in_iff.mpr ⟨by omega, by omega⟩) dL_law_831 ?_
  refine lv_topi (fun x_2 ex_2 => ?_)
  refine lv_aload_n hx hb dL_law_832 rfl (lv_at hl 3 rfl) ?_
  refine lv_iload_n hx hb dL_law_833 rfl (lv_at hl 0 rfl) ?_
  refine lv_iconst (v := 2) hx hb dL_law_834 (by decide) ?_
  refine lv_iadd hx hb dL_law_835 ?_
  refine lv_topi (fun x_3 ex_3 => ?_)
  have k_2 : (2 : Int32).toInt = 2 := by decide
  have tx_3 : x_3.toInt = i.toInt + (2 : Int32).toInt := by rw [ex_3]; exact t_add ⟨by omega, by omega⟩
  refine va_sld hx hb hX hbl hbA hS (vp_in_iff.mpr ⟨by omega, by omega⟩) dL_law_836 ?_
  refine lv_topi (fun x_4 ex_4 => ?_)
  refine yl_i (X := wl ad kv cy N v) (Y := wm ad2 cy v2) (w1 := fun (u : Nat → Nat → Int32) => wl ad kv cy N u) hP hD hS hA (va_runV (As := [.int x_2, .int x_4]) (rest := []) ⟨hx, hb, hml, hown, hts⟩ (g_X7_hour l dC dI cy _ ad kv N hN v hv x_2 x_4) (cwV 2 hts gL_law_X7_hour rfl rfl rfl hd_V_X7_hour_2 ⟨Nat.le_of_ble_eq_true rfl, Nat.le_of_ble_eq_true rfl⟩) (yl_preV hE hK hP hD (ci := 7) (q := (RX7, TX7, 5)) (q0 := 0) rfl (wl_at (by omega) (ce_0 (by decide)))) rfl rfl hl.1 rfl (lv_room (Nat.le_of_ble_eq_true rfl)) dL_law_837 hcs) (fun r_5 c_5 H locs hw_5 hP hD hS => ?_)
  have hP : va_P (dC, dI) vwCl (wm ad2 cy v2 ++ wl ad kv cy N c_5) H := hP
  have hD : va_D (fun q : Nat => s.heap.size ≤ q) (wm ad2 cy v2 ++ wl ad kv cy N c_5) := hD
  obtain ⟨hv, hf_c_5⟩ := hw_5
  refine lv_pop hx hb dL_law_840 rfl ?_
  refine lv_aload_n hx hb dL_law_841 rfl (lv_at hl 1 rfl) ?_
  refine lv_aload_n hx hb dL_law_842 rfl (lv_at hl 3 rfl) ?_
  refine lv_iload_n hx hb dL_law_843 rfl (lv_at hl 0 rfl) ?_
  refine lv_iconst (v := 1) hx hb dL_law_844 (by decide) ?_
  refine lv_iadd hx hb dL_law_845 ?_
  refine lv_topi (fun x_6 ex_6 => ?_)
  obtain rfl : x_1 = x_6 := ex_1.trans ex_6.symm
  refine va_sld hx hb hX hbl hbA hS (vp_in_iff.mpr ⟨by omega, by omega⟩) dL_law_846 ?_
  refine lv_topi (fun x_7 ex_7 => ?_)
  obtain rfl : x_2 = x_7 := ex_2.trans ex_7.symm
  refine lv_aload_n hx hb dL_law_847 rfl (lv_at hl 3 rfl) ?_
  refine lv_iload_n hx hb dL_law_848 rfl (lv_at hl 0 rfl) ?_
  refine lv_iconst (v := 2) hx hb dL_law_849 (by decide) ?_
  refine lv_iadd hx hb dL_law_850 ?_
  refine lv_topi (fun x_8 ex_8 => ?_)
  obtain rfl : x_3 = x_8 := ex_3.trans ex_8.symm
  refine va_sld hx hb hX hbl hbA hS (vp_in_iff.mpr ⟨by omega, by omega⟩) dL_law_851 ?_
  refine lv_topi (fun x_9 ex_9 => ?_)
  obtain rfl : x_4 = x_9 := ex_4.trans ex_9.symm
  refine yl_i (X := wm ad2 cy v2) (Y := wl ad kv cy N c_5) (w1 := fun (u : Nat → Nat → Int32) => wm ad2 cy u) hP hD hS hA (va_runV (As := [.int x_2, .int x_4]) (rest := []) ⟨hx, hb, hml, hown, hts⟩ (q_X8_hour l dC dI cy _ ad2 v2 hq x_2 x_4) (cwV 2 hts gL_law_X8_hour rfl rfl rfl hd_V_X8_hour_2 ⟨Nat.le_of_ble_eq_true rfl, Nat.le_of_ble_eq_true rfl⟩) (yl_preV hE hK hP hD (ci := 8) (q := (RX8, TX8, 11)) (q0 := 0) rfl (wm_at (by decide) rc_0)) rfl rfl hl.1 rfl (lv_room (Nat.le_of_ble_eq_true rfl)) dL_law_852 hcs) (fun r_10 m_10 H locs hw_10 hP hD hS => ?_)
  have hP : va_P (dC, dI) vwCl (wl ad kv cy N c_5 ++ wm ad2 cy m_10) H := hP
  have hD : va_D (fun q : Nat => s.heap.size ≤ q) (wl ad kv cy N c_5 ++ wm ad2 cy m_10) := hD
  obtain ⟨hq, hf_m_10⟩ := hw_10
  have hJ := hJ.mv hf_c_5 hf_m_10
  refine lv_pop hx hb dL_law_855 rfl ?_
  refine lv_goto (tgt := 1060) hx hb dL_law_856 (by decide) ?_
  exact kk c_5 m_10 _ _ ls hv hq hJ hP hD hS hl

set_option maxHeartbeats 4000000 in
set_option maxRecDepth 100000 in
/-- the case of canHold -/
theorem lc_19 {p : Program} {l : Launch} {e : Env} {s : State} {m : MethodId} {below : List Frame} {meth : Method} {c : Code} {dC : Nat → ClassId} {dI : Nat → Nat → Nat} {cy : Nat → ClassId} {b L : Nat} {xs : Nat → Int32} (C0 : lw_At p s m meth c b L xs) {t1 t2 : Nat} (hSt : ex_St t1 t2 (fun q : Nat => s.heap.size ≤ q) s) (hE : ex_K s) (hK : va_K (dC, dI) vwCl (ty_L cy) s) (hL : L ≤ 3584) {ad ad2 : Nat → Nat} {kv : Value} {N : Nat} (hN : 119 ≤ N) {v v2 : Nat → Nat → Int32} (hv : Iv v) (hq : Ir v2) {n : Int32} (hJ : RR3 n v v2) {i : Int32} (hi : 0 ≤ i.toInt ∧ i.toInt + 7 ≤ (L : Int)) {cells slots : Nat} (hcs : cells ≤ room_1.cells ∧ slots ≤ room_1.slots) {H : Heap} {locs : List Loc} (hP : va_P (dC, dI) vwCl (wl ad kv cy N v ++ wm ad2 cy v2) H) (hD : va_D (fun q : Nat => s.heap.size ≤ q) (wl ad kv cy N v ++ wm ad2 cy v2)) (hS : va_S (fun q : Nat => s.heap.size ≤ q) s.heap H locs) (ls : Array Slot) (hl : lv_has ls 4 [(3, .int i), (2, .ref (ad2 0)), (1, .ref (ad 0)), (0, .ref b)]) (kk : ∀ (v1 v3 : Nat → Nat → Int32) (H1 : Heap) (locs1 : List Loc) (ls1 : Array Slot), Iv v1 → Ir v3 → RR3 n v1 v3 → va_P (dC, dI) vwCl (wl ad kv cy N v1 ++ wm ad2 cy v3) H1 → va_D (fun q : Nat => s.heap.size ≤ q) (wl ad kv cy N v1 ++ wm ad2 cy v3) → va_S (fun q : Nat => s.heap.size ≤ q) s.heap H1 locs1 → lv_has ls1 4 [(3, .int i), (2, .ref (ad2 0)), (1, .ref (ad 0)), (0, .ref b)] → W p l e room_1 s m #[Value.ref b] below meth c H1 locs1 cells slots (lw_Z below #[Value.ref b] s) (F0 m 1060 ls1 [])) : W p l e room_1 s m #[Value.ref b] below meth c H locs cells slots (lw_Z below #[Value.ref b] s) (F0 m 859 ls []) := by
  obtain ⟨hx, hb, hr, hml, hown, hts0, hX, hbl, hlocks, hgv⟩ := id C0
  have hts : ∀ w ∈ wsL_law, w.before #[Value.ref b] s = true := fun w h => hts0 w (wsL_law_in w h)
  have hown : s.vm.findClass RL = some m.cls := hown
  have hA : ∀ q : Nat, s.heap.size ≤ q → (fun q : Nat => s.heap.size ≤ q) q := fun _ h => h
  have hbA : ¬ (fun q : Nat => s.heap.size ≤ q) b := Nat.not_le.mpr hbl
  refine lv_aload_n hx hb dL_law_859 rfl (lv_at hl 2 rfl) ?_
  refine lv_aload_n hx hb dL_law_860 rfl (lv_at hl 3 rfl) ?_
  refine lv_iload_n hx hb dL_law_861 rfl (lv_at hl 0 rfl) ?_
  refine lv_iconst (v := 1) hx hb dL_law_862 (by decide) ?_
  refine lv_iadd hx hb dL_law_863 ?_
  refine lv_topi (fun x_1 ex_1 => ?_)
  have k_1 : (1 : Int32).toInt = 1 := by decide
  have tx_1 : x_1.toInt = i.toInt + (1 : Int32).toInt := by rw [ex_1]; exact t_add ⟨by omega, by omega⟩
  refine va_sld hx hb hX hbl hbA hS (vp_in_iff.mpr ⟨by omega, by omega⟩) dL_law_864 ?_
  refine lv_topi (fun x_2 ex_2 => ?_)
  refine lv_aload_n hx hb dL_law_865 rfl (lv_at hl 3 rfl) ?_
  refine lv_iload_n hx hb dL_law_866 rfl (lv_at hl 0 rfl) ?_
  refine lv_iconst (v := 2) hx hb dL_law_867 (by decide) ?_
  refine lv_iadd hx hb dL_law_868 ?_
  refine lv_topi (fun x_3 ex_3 => ?_)
  have k_2 : (2 : Int32).toInt = 2 := by decide
  have tx_3 : x_3.toInt = i.toInt + (2 : Int32).toInt := by rw [ex_3]; exact t_add ⟨by omega, by omega⟩
  refine va_sld hx hb hX hbl hbA hS (vp_in_iff.mpr ⟨by omega, by omega⟩) dL_law_869 ?_
  refine lv_topi (fun x_4 ex_4 => ?_)
  refine yl_i (X := wl ad kv cy N v) (Y := wm ad2 cy v2) (w1 := fun (u : Nat → Nat → Int32) => wl ad kv cy N u) hP hD hS hA (va_runV (As := [.int x_2, .int x_4]) (rest := []) ⟨hx, hb, hml, hown, hts⟩ (g_X7_canHold l dC dI cy _ ad kv N hN v hv x_2 x_4) (cwV 2 hts gL_law_X7_canHold rfl rfl rfl hd_V_X7_canHold_2 ⟨Nat.le_of_ble_eq_true rfl, Nat.le_of_ble_eq_true rfl⟩) (yl_preV hE hK hP hD (ci := 7) (q := (RX7, TX7, 5)) (q0 := 0) rfl (wl_at (by omega) (ce_0 (by decide)))) rfl rfl hl.1 rfl (lv_room (Nat.le_of_ble_eq_true rfl)) dL_law_870 hcs) (fun r_5 c_5 H locs hw_5 hP hD hS => ?_)
  have hP : va_P (dC, dI) vwCl (wm ad2 cy v2 ++ wl ad kv cy N c_5) H := hP
  have hD : va_D (fun q : Nat => s.heap.size ≤ q) (wm ad2 cy v2 ++ wl ad kv cy N c_5) := hD
  obtain ⟨hv, hf_c_5⟩ := hw_5
  refine lv_pop hx hb dL_law_873 rfl ?_
  refine lv_aload_n hx hb dL_law_874 rfl (lv_at hl 1 rfl) ?_
  refine lv_aload_n hx hb dL_law_875 rfl (lv_at hl 3 rfl) ?_
  refine lv_iload_n hx hb dL_law_876 rfl (lv_at hl 0 rfl) ?_
  refine lv_iconst (v := 1) hx hb dL_law_877 (by decide) ?_
  refine lv_iadd hx hb dL_law_878 ?_
  refine lv_topi (fun x_6 ex_6 => ?_)
  obtain rfl : x_1 = x_6 := ex_1.trans ex_6.symm
  refine va_sld hx hb hX hbl hbA hS (vp_in_iff.mpr ⟨by omega, by omega⟩) dL_law_879 ?_
  refine lv_topi (fun x_7 ex_7 => ?_)
  obtain rfl : x_2 = x_7 := ex_2.trans ex_7.symm
  refine lv_aload_n hx hb dL_law_880 rfl (lv_at hl 3 rfl) ?_
  refine lv_iload_n hx hb dL_law_881 rfl (lv_at hl 0 rfl) ?_
  refine lv_iconst (v := 2) hx hb dL_law_882 (by decide) ?_
  refine lv_iadd hx hb dL_law_883 ?_
  refine lv_topi (fun x_8 ex_8 => ?_)
  obtain rfl : x_3 = x_8 := ex_3.trans ex_8.symm
  refine va_sld hx hb hX hbl hbA hS (vp_in_iff.mpr ⟨by omega, by omega⟩) dL_law_884 ?_
  refine lv_topi (fun x_9 ex_9 => ?_)
  obtain rfl : x_4 = x_9 := ex_4.trans ex_9.symm
  refine yl_i (X := wm ad2 cy v2) (Y := wl ad kv cy N c_5) (w1 := fun (u : Nat → Nat → Int32) => wm ad2 cy u) hP hD hS hA (va_runV (As := [.int x_2, .int x_4]) (rest := []) ⟨hx, hb, hml, hown, hts⟩ (q_X8_canHold l dC dI cy _ ad2 v2 hq x_2 x_4) (cwV 2 hts gL_law_X8_canHold rfl rfl rfl hd_V_X8_canHold_2 ⟨Nat.le_of_ble_eq_true rfl, Nat.le_of_ble_eq_true rfl⟩) (yl_preV hE hK hP hD (ci := 8) (q := (RX8, TX8, 11)) (q0 := 0) rfl (wm_at (by decide) rc_0)) rfl rfl hl.1 rfl (lv_room (Nat.le_of_ble_eq_true rfl)) dL_law_885 hcs) (fun r_10 m_10 H locs hw_10 hP hD hS => ?_)
  have hP : va_P (dC, dI) vwCl (wl ad kv cy N c_5 ++ wm ad2 cy m_10) H := hP
  have hD : va_D (fun q : Nat => s.heap.size ≤ q) (wl ad kv cy N c_5 ++ wm ad2 cy m_10) := hD
  obtain ⟨hq, hf_m_10⟩ := hw_10
  have hJ := hJ.mv hf_c_5 hf_m_10
  refine lv_pop hx hb dL_law_888 rfl ?_
  refine lv_goto (tgt := 1060) hx hb dL_law_889 (by decide) ?_
  exact kk c_5 m_10 _ _ ls hv hq hJ hP hD hS hl

set_option maxHeartbeats 4000000 in
set_option maxRecDepth 100000 in
/-- the case of breaks -/
theorem lc_20 {p : Program} {l : Launch} {e : Env} {s : State} {m : MethodId} {below : List Frame} {meth : Method} {c : Code} {dC : Nat → ClassId} {dI : Nat → Nat → Nat} {cy : Nat → ClassId} {b L : Nat} {xs : Nat → Int32} (C0 : lw_At p s m meth c b L xs) {t1 t2 : Nat} (hSt : ex_St t1 t2 (fun q : Nat => s.heap.size ≤ q) s) (hE : ex_K s) (hK : va_K (dC, dI) vwCl (ty_L cy) s) (hL : L ≤ 3584) {ad ad2 : Nat → Nat} {kv : Value} {N : Nat} (hN : 119 ≤ N) {v v2 : Nat → Nat → Int32} (hv : Iv v) (hq : Ir v2) {n : Int32} (hJ : RR3 n v v2) {i : Int32} (hi : 0 ≤ i.toInt ∧ i.toInt + 7 ≤ (L : Int)) {cells slots : Nat} (hcs : cells ≤ room_1.cells ∧ slots ≤ room_1.slots) {H : Heap} {locs : List Loc} (hP : va_P (dC, dI) vwCl (wl ad kv cy N v ++ wm ad2 cy v2) H) (hD : va_D (fun q : Nat => s.heap.size ≤ q) (wl ad kv cy N v ++ wm ad2 cy v2)) (hS : va_S (fun q : Nat => s.heap.size ≤ q) s.heap H locs) (ls : Array Slot) (hl : lv_has ls 4 [(3, .int i), (2, .ref (ad2 0)), (1, .ref (ad 0)), (0, .ref b)]) (kk : ∀ (v1 v3 : Nat → Nat → Int32) (H1 : Heap) (locs1 : List Loc) (ls1 : Array Slot), Iv v1 → Ir v3 → RR3 n v1 v3 → va_P (dC, dI) vwCl (wl ad kv cy N v1 ++ wm ad2 cy v3) H1 → va_D (fun q : Nat => s.heap.size ≤ q) (wl ad kv cy N v1 ++ wm ad2 cy v3) → va_S (fun q : Nat => s.heap.size ≤ q) s.heap H1 locs1 → lv_has ls1 4 [(3, .int i), (2, .ref (ad2 0)), (1, .ref (ad 0)), (0, .ref b)] → W p l e room_1 s m #[Value.ref b] below meth c H1 locs1 cells slots (lw_Z below #[Value.ref b] s) (F0 m 1060 ls1 [])) : W p l e room_1 s m #[Value.ref b] below meth c H locs cells slots (lw_Z below #[Value.ref b] s) (F0 m 892 ls []) := by
  obtain ⟨hx, hb, hr, hml, hown, hts0, hX, hbl, hlocks, hgv⟩ := id C0
  have hts : ∀ w ∈ wsL_law, w.before #[Value.ref b] s = true := fun w h => hts0 w (wsL_law_in w h)
  have hown : s.vm.findClass RL = some m.cls := hown
  have hA : ∀ q : Nat, s.heap.size ≤ q → (fun q : Nat => s.heap.size ≤ q) q := fun _ h => h
  have hbA : ¬ (fun q : Nat => s.heap.size ≤ q) b := Nat.not_le.mpr hbl
  refine lv_aload_n hx hb dL_law_892 rfl (lv_at hl 2 rfl) ?_
  refine lv_aload_n hx hb dL_law_893 rfl (lv_at hl 3 rfl) ?_
  refine lv_iload_n hx hb dL_law_894 rfl (lv_at hl 0 rfl) ?_
  refine lv_iconst (v := 1) hx hb dL_law_895 (by decide) ?_
  refine lv_iadd hx hb dL_law_896 ?_
  refine lv_topi (fun x_1 ex_1 => ?_)
  have k_1 : (1 : Int32).toInt = 1 := by decide
  have tx_1 : x_1.toInt = i.toInt + (1 : Int32).toInt := by rw [ex_1]; exact t_add ⟨by omega, by omega⟩
  refine va_sld hx hb hX hbl hbA hS (vp_in_iff.mpr ⟨by omega, by omega⟩) dL_law_897 ?_
  refine lv_topi (fun x_2 ex_2 => ?_)
  refine lv_aload_n hx hb dL_law_898 rfl (lv_at hl 3 rfl) ?_
  refine lv_iload_n hx hb dL_law_899 rfl (lv_at hl 0 rfl) ?_
  refine lv_iconst (v := 2) hx hb dL_law_900 (by decide) ?_
  refine lv_iadd hx hb dL_law_901 ?_
  refine lv_topi (fun x_3 ex_3 => ?_)
  have k_2 : (2 : Int32).toInt = 2 := by decide
  have tx_3 : x_3.toInt = i.toInt + (2 : Int32).toInt := by rw [ex_3]; exact t_add ⟨by omega, by omega⟩
  refine va_sld hx hb hX hbl hbA hS (vp_in_iff.mpr ⟨by omega, by omega⟩) dL_law_902 ?_
  refine lv_topi (fun x_4 ex_4 => ?_)
  have hv0 := hv
  refine yl_i (X := wl ad kv cy N v) (Y := wm ad2 cy v2) (w1 := fun (u : Nat → Nat → Int32) => wl ad kv cy N u) hP hD hS hA (va_runV (As := [.int x_2, .int x_4]) (rest := []) ⟨hx, hb, hml, hown, hts⟩ (e_X7_breaks l dC dI cy _ ad kv N hN v hv x_2 x_4 (RR3_T hJ)) (cwV 2 hts gL_law_X7_breaks rfl rfl rfl hd_V_X7_breaks_2 ⟨Nat.le_of_ble_eq_true rfl, Nat.le_of_ble_eq_true rfl⟩) (yl_preV hE hK hP hD (ci := 7) (q := (RX7, TX7, 5)) (q0 := 0) rfl (wl_at (by omega) (ce_0 (by decide)))) rfl rfl hl.1 rfl (lv_room (Nat.le_of_ble_eq_true rfl)) dL_law_903 hcs) (fun r_5 c_5 H locs hw_5 hP hD hS => ?_)
  have hP : va_P (dC, dI) vwCl (wm ad2 cy v2 ++ wl ad kv cy N c_5) H := hP
  have hD : va_D (fun q : Nat => s.heap.size ≤ q) (wm ad2 cy v2 ++ wl ad kv cy N c_5) := hD
  obtain ⟨hv, hpc⟩ := hw_5
  refine lv_aload_n hx hb dL_law_906 rfl (lv_at hl 1 rfl) ?_
  refine lv_aload_n hx hb dL_law_907 rfl (lv_at hl 3 rfl) ?_
  refine lv_iload_n hx hb dL_law_908 rfl (lv_at hl 0 rfl) ?_
  refine lv_iconst (v := 1) hx hb dL_law_909 (by decide) ?_
  refine lv_iadd hx hb dL_law_910 ?_
  refine lv_topi (fun x_6 ex_6 => ?_)
  obtain rfl : x_1 = x_6 := ex_1.trans ex_6.symm
  refine va_sld hx hb hX hbl hbA hS (vp_in_iff.mpr ⟨by omega, by omega⟩) dL_law_911 ?_
  refine lv_topi (fun x_7 ex_7 => ?_)
  obtain rfl : x_2 = x_7 := ex_2.trans ex_7.symm
  refine lv_aload_n hx hb dL_law_912 rfl (lv_at hl 3 rfl) ?_
  refine lv_iload_n hx hb dL_law_913 rfl (lv_at hl 0 rfl) ?_
  refine lv_iconst (v := 2) hx hb dL_law_914 (by decide) ?_
  refine lv_iadd hx hb dL_law_915 ?_
  refine lv_topi (fun x_8 ex_8 => ?_)
  obtain rfl : x_3 = x_8 := ex_3.trans ex_8.symm
  refine va_sld hx hb hX hbl hbA hS (vp_in_iff.mpr ⟨by omega, by omega⟩) dL_law_916 ?_
  refine lv_topi (fun x_9 ex_9 => ?_)
  obtain rfl : x_4 = x_9 := ex_4.trans ex_9.symm
  have hq0 := hq
  refine yl_i (X := wm ad2 cy v2) (Y := wl ad kv cy N c_5) (w1 := fun (u : Nat → Nat → Int32) => wm ad2 cy u) hP hD hS hA (va_runV (As := [.int x_2, .int x_4]) (rest := [.int r_5]) ⟨hx, hb, hml, hown, hts⟩ (e_X8_breaks l dC dI cy _ ad2 v2 hq x_2 x_4) (cwV 2 hts gL_law_X8_breaks rfl rfl rfl hd_V_X8_breaks_2 ⟨Nat.le_of_ble_eq_true rfl, Nat.le_of_ble_eq_true rfl⟩) (yl_preV hE hK hP hD (ci := 8) (q := (RX8, TX8, 11)) (q0 := 0) rfl (wm_at (by decide) rc_0)) rfl rfl hl.1 rfl (lv_room (Nat.le_of_ble_eq_true rfl)) dL_law_917 hcs) (fun r_10 m_10 H locs hw_10 hP hD hS => ?_)
  have hP : va_P (dC, dI) vwCl (wl ad kv cy N c_5 ++ wm ad2 cy m_10) H := hP
  have hD : va_D (fun q : Nat => s.heap.size ≤ q) (wl ad kv cy N c_5 ++ wm ad2 cy m_10) := hD
  obtain ⟨hq, hpm⟩ := hw_10
  obtain ⟨hrr, hJ⟩ := S_breaks hv0 hq0 hJ hpc hpm
  subst hrr
  refine lv_icmp_eq (tgt := 1060) hx hb dL_law_920 (by decide) (fun c_11 => ?_) (fun c_11 => ?_)
  · have tc_11 : r_5.toInt = r_5.toInt := by rw [c_11]
    exact kk c_5 m_10 _ _ ls hv hq hJ hP hD hS hl
  · have tc_11 : r_5.toInt ≠ r_5.toInt := fun q => absurd (Int32.toInt_inj.mp q) c_11
    exfalso
    first | contradiction | omega

set_option maxHeartbeats 4000000 in
set_option maxRecDepth 100000 in
/-- the case of log -/
theorem lc_21 {p : Program} {l : Launch} {e : Env} {s : State} {m : MethodId} {below : List Frame} {meth : Method} {c : Code} {dC : Nat → ClassId} {dI : Nat → Nat → Nat} {cy : Nat → ClassId} {b L : Nat} {xs : Nat → Int32} (C0 : lw_At p s m meth c b L xs) {t1 t2 : Nat} (hSt : ex_St t1 t2 (fun q : Nat => s.heap.size ≤ q) s) (hE : ex_K s) (hK : va_K (dC, dI) vwCl (ty_L cy) s) (hL : L ≤ 3584) {ad ad2 : Nat → Nat} {kv : Value} {N : Nat} (hN : 119 ≤ N) {v v2 : Nat → Nat → Int32} (hv : Iv v) (hq : Ir v2) {n : Int32} (hJ : RR3 n v v2) {i : Int32} (hi : 0 ≤ i.toInt ∧ i.toInt + 7 ≤ (L : Int)) {cells slots : Nat} (hcs : cells ≤ room_1.cells ∧ slots ≤ room_1.slots) {H : Heap} {locs : List Loc} (hP : va_P (dC, dI) vwCl (wl ad kv cy N v ++ wm ad2 cy v2) H) (hD : va_D (fun q : Nat => s.heap.size ≤ q) (wl ad kv cy N v ++ wm ad2 cy v2)) (hS : va_S (fun q : Nat => s.heap.size ≤ q) s.heap H locs) (ls : Array Slot) (hl : lv_has ls 4 [(3, .int i), (2, .ref (ad2 0)), (1, .ref (ad 0)), (0, .ref b)]) (kk : ∀ (v1 v3 : Nat → Nat → Int32) (H1 : Heap) (locs1 : List Loc) (ls1 : Array Slot), Iv v1 → Ir v3 → RR3 n v1 v3 → va_P (dC, dI) vwCl (wl ad kv cy N v1 ++ wm ad2 cy v3) H1 → va_D (fun q : Nat => s.heap.size ≤ q) (wl ad kv cy N v1 ++ wm ad2 cy v3) → va_S (fun q : Nat => s.heap.size ≤ q) s.heap H1 locs1 → lv_has ls1 4 [(3, .int i), (2, .ref (ad2 0)), (1, .ref (ad 0)), (0, .ref b)] → W p l e room_1 s m #[Value.ref b] below meth c H1 locs1 cells slots (lw_Z below #[Value.ref b] s) (F0 m 1060 ls1 [])) : W p l e room_1 s m #[Value.ref b] below meth c H locs cells slots (lw_Z below #[Value.ref b] s) (F0 m 925 ls []) := by
  obtain ⟨hx, hb, hr, hml, hown, hts0, hX, hbl, hlocks, hgv⟩ := id C0
  have hts : ∀ w ∈ wsL_law, w.before #[Value.ref b] s = true := fun w h => hts0 w (wsL_law_in w h)
  have hown : s.vm.findClass RL = some m.cls := hown
  have hA : ∀ q : Nat, s.heap.size ≤ q → (fun q : Nat => s.heap.size ≤ q) q := fun _ h => h
  have hbA : ¬ (fun q : Nat => s.heap.size ≤ q) b := Nat.not_le.mpr hbl
  refine lv_aload_n hx hb dL_law_925 rfl (lv_at hl 2 rfl) ?_
  refine lv_aload_n hx hb dL_law_926 rfl (lv_at hl 3 rfl) ?_
  refine lv_iload_n hx hb dL_law_927 rfl (lv_at hl 0 rfl) ?_
  refine lv_iconst (v := 1) hx hb dL_law_928 (by decide) ?_
  refine lv_iadd hx hb dL_law_929 ?_
  refine lv_topi (fun x_1 ex_1 => ?_)
  have k_1 : (1 : Int32).toInt = 1 := by decide
  have tx_1 : x_1.toInt = i.toInt + (1 : Int32).toInt := by rw [ex_1]; exact t_add ⟨by omega, by omega⟩
  refine va_sld hx hb hX hbl hbA hS (vp_in_iff.mpr ⟨by omega, by omega⟩) dL_law_930 ?_
  refine lv_topi (fun x_2 ex_2 => ?_)
  refine lv_aload_n hx hb dL_law_931 rfl (lv_at hl 3 rfl) ?_
  refine lv_iload_n hx hb dL_law_932 rfl (lv_at hl 0 rfl) ?_
  refine lv_iconst (v := 2) hx hb dL_law_933 (by decide) ?_
  refine lv_iadd hx hb dL_law_934 ?_
  refine lv_topi (fun x_3 ex_3 => ?_)
  have k_2 : (2 : Int32).toInt = 2 := by decide
  have tx_3 : x_3.toInt = i.toInt + (2 : Int32).toInt := by rw [ex_3]; exact t_add ⟨by omega, by omega⟩
  refine va_sld hx hb hX hbl hbA hS (vp_in_iff.mpr ⟨by omega, by omega⟩) dL_law_935 ?_
  refine lv_topi (fun x_4 ex_4 => ?_)
  refine lv_aload_n hx hb dL_law_936 rfl (lv_at hl 3 rfl) ?_
  refine lv_iload_n hx hb dL_law_937 rfl (lv_at hl 0 rfl) ?_
  refine lv_iconst (v := 3) hx hb dL_law_938 (by decide) ?_
  refine lv_iadd hx hb dL_law_939 ?_
  refine lv_topi (fun x_5 ex_5 => ?_)
  have k_3 : (3 : Int32).toInt = 3 := by decide
  have tx_5 : x_5.toInt = i.toInt + (3 : Int32).toInt := by rw [ex_5]; exact t_add ⟨by omega, by omega⟩
  refine va_sld hx hb hX hbl hbA hS (vp_in_iff.mpr ⟨by omega, by omega⟩) dL_law_940 ?_
  refine lv_topi (fun x_6 ex_6 => ?_)
  refine lv_aload_n hx hb dL_law_941 rfl (lv_at hl 3 rfl) ?_
  refine lv_iload_n hx hb dL_law_942 rfl (lv_at hl 0 rfl) ?_
  refine lv_iconst (v := 4) hx hb dL_law_943 (by decide) ?_
  refine lv_iadd hx hb dL_law_944 ?_
  refine lv_topi (fun x_7 ex_7 => ?_)
  have k_4 : (4 : Int32).toInt = 4 := by decide
  have tx_7 : x_7.toInt = i.toInt + (4 : Int32).toInt := by rw [ex_7]; exact t_add ⟨by omega, by omega⟩
  refine va_sld hx hb hX hbl hbA hS (vp_in_iff.mpr ⟨by omega, by omega⟩) dL_law_945 ?_
  refine lv_topi (fun x_8 ex_8 => ?_)
  have hv0 := hv
  refine yl_i (X := wl ad kv cy N v) (Y := wm ad2 cy v2) (w1 := fun (u : Nat → Nat → Int32) => wl ad kv cy N u) hP hD hS hA (va_runV (As := [.int x_2, .int x_4, .int x_6, .int x_8]) (rest := []) ⟨hx, hb, hml, hown, hts⟩ (e_X7_log l dC dI cy _ ad kv N hN v hv x_2 x_4 x_6 x_8) (cwV 4 hts gL_law_X7_log rfl rfl rfl hd_V_X7_log_4 ⟨Nat.le_of_ble_eq_true rfl, Nat.le_of_ble_eq_true rfl⟩) (yl_preV hE hK hP hD (ci := 7) (q := (RX7, TX7, 5)) (q0 := 0) rfl (wl_at (by omega) (ce_0 (by decide)))) rfl rfl hl.1 rfl (lv_room (Nat.le_of_ble_eq_true rfl)) dL_law_946 hcs) (fun r_9 c_9 H locs hw_9 hP hD hS => ?_)
  have hP : va_P (dC, dI) vwCl (wm ad2 cy v2 ++ wl ad kv cy N c_9) H := hP
  have hD : va_D (fun q : Nat => s.heap.size ≤ q) (wm ad2 cy v2 ++ wl ad kv cy N c_9) := hD
  obtain ⟨hv, hpc⟩ := hw_9
  refine lv_pop hx hb dL_law_949 rfl ?_
  refine lv_aload_n hx hb dL_law_950 rfl (lv_at hl 1 rfl) ?_
  refine lv_aload_n hx hb dL_law_951 rfl (lv_at hl 3 rfl) ?_
  refine lv_iload_n hx hb dL_law_952 rfl (lv_at hl 0 rfl) ?_
  refine lv_iconst (v := 1) hx hb dL_law_953 (by decide) ?_
  refine lv_iadd hx hb dL_law_954 ?_
  refine lv_topi (fun x_10 ex_10 => ?_)
  obtain rfl : x_1 = x_10 := ex_1.trans ex_10.symm
  refine va_sld hx hb hX hbl hbA hS (vp_in_iff.mpr ⟨by omega, by omega⟩) dL_law_955 ?_
  refine lv_topi (fun x_11 ex_11 => ?_)
  obtain rfl : x_2 = x_11 := ex_2.trans ex_11.symm
  refine lv_aload_n hx hb dL_law_956 rfl (lv_at hl 3 rfl) ?_
  refine lv_iload_n hx hb dL_law_957 rfl (lv_at hl 0 rfl) ?_
  refine lv_iconst (v := 2) hx hb dL_law_958 (by decide) ?_
  refine lv_iadd hx hb dL_law_959 ?_
  refine lv_topi (fun x_12 ex_12 => ?_)
  obtain rfl : x_3 = x_12 := ex_3.trans ex_12.symm
  refine va_sld hx hb hX hbl hbA hS (vp_in_iff.mpr ⟨by omega, by omega⟩) dL_law_960 ?_
  refine lv_topi (fun x_13 ex_13 => ?_)
  obtain rfl : x_4 = x_13 := ex_4.trans ex_13.symm
  refine lv_aload_n hx hb dL_law_961 rfl (lv_at hl 3 rfl) ?_
  refine lv_iload_n hx hb dL_law_962 rfl (lv_at hl 0 rfl) ?_
  refine lv_iconst (v := 3) hx hb dL_law_963 (by decide) ?_
  refine lv_iadd hx hb dL_law_964 ?_
  refine lv_topi (fun x_14 ex_14 => ?_)
  obtain rfl : x_5 = x_14 := ex_5.trans ex_14.symm
  refine va_sld hx hb hX hbl hbA hS (vp_in_iff.mpr ⟨by omega, by omega⟩) dL_law_965 ?_
  refine lv_topi (fun x_15 ex_15 => ?_)
  obtain rfl : x_6 = x_15 := ex_6.trans ex_15.symm
  refine lv_aload_n hx hb dL_law_966 rfl (lv_at hl 3 rfl) ?_
  refine lv_iload_n hx hb dL_law_967 rfl (lv_at hl 0 rfl) ?_
  refine lv_iconst (v := 4) hx hb dL_law_968 (by decide) ?_
  refine lv_iadd hx hb dL_law_969 ?_
  refine lv_topi (fun x_16 ex_16 => ?_)
  obtain rfl : x_7 = x_16 := ex_7.trans ex_16.symm
  refine va_sld hx hb hX hbl hbA hS (vp_in_iff.mpr ⟨by omega, by omega⟩) dL_law_970 ?_
  refine lv_topi (fun x_17 ex_17 => ?_)
  obtain rfl : x_8 = x_17 := ex_8.trans ex_17.symm
  have hq0 := hq
  refine yl_i (X := wm ad2 cy v2) (Y := wl ad kv cy N c_9) (w1 := fun (u : Nat → Nat → Int32) => wm ad2 cy u) hP hD hS hA (va_runV (As := [.int x_2, .int x_4, .int x_6, .int x_8]) (rest := []) ⟨hx, hb, hml, hown, hts⟩ (e_X8_log l dC dI cy _ ad2 v2 hq x_2 x_4 x_6 x_8) (cwV 4 hts gL_law_X8_log rfl rfl rfl hd_V_X8_log_4 ⟨Nat.le_of_ble_eq_true rfl, Nat.le_of_ble_eq_true rfl⟩) (yl_preV hE hK hP hD (ci := 8) (q := (RX8, TX8, 11)) (q0 := 0) rfl (wm_at (by decide) rc_0)) rfl rfl hl.1 rfl (lv_room (Nat.le_of_ble_eq_true rfl)) dL_law_971 hcs) (fun r_18 m_18 H locs hw_18 hP hD hS => ?_)
  have hP : va_P (dC, dI) vwCl (wl ad kv cy N c_9 ++ wm ad2 cy m_18) H := hP
  have hD : va_D (fun q : Nat => s.heap.size ≤ q) (wl ad kv cy N c_9 ++ wm ad2 cy m_18) := hD
  obtain ⟨hq, hpm⟩ := hw_18
  obtain ⟨hrr, hJ⟩ := S_log hv0 hq0 hJ hpc hpm
  subst hrr
  refine lv_pop hx hb dL_law_974 rfl ?_
  refine lv_goto (tgt := 1060) hx hb dL_law_975 (by decide) ?_
  exact kk c_9 m_18 _ _ ls hv hq hJ hP hD hS hl

set_option maxHeartbeats 4000000 in
set_option maxRecDepth 100000 in
/-- the case of judged -/
theorem lc_22 {p : Program} {l : Launch} {e : Env} {s : State} {m : MethodId} {below : List Frame} {meth : Method} {c : Code} {dC : Nat → ClassId} {dI : Nat → Nat → Nat} {cy : Nat → ClassId} {b L : Nat} {xs : Nat → Int32} (C0 : lw_At p s m meth c b L xs) {t1 t2 : Nat} (hSt : ex_St t1 t2 (fun q : Nat => s.heap.size ≤ q) s) (hE : ex_K s) (hK : va_K (dC, dI) vwCl (ty_L cy) s) (hL : L ≤ 3584) {ad ad2 : Nat → Nat} {kv : Value} {N : Nat} (hN : 119 ≤ N) {v v2 : Nat → Nat → Int32} (hv : Iv v) (hq : Ir v2) {n : Int32} (hJ : RR3 n v v2) {i : Int32} (hi : 0 ≤ i.toInt ∧ i.toInt + 7 ≤ (L : Int)) {cells slots : Nat} (hcs : cells ≤ room_1.cells ∧ slots ≤ room_1.slots) {H : Heap} {locs : List Loc} (hP : va_P (dC, dI) vwCl (wl ad kv cy N v ++ wm ad2 cy v2) H) (hD : va_D (fun q : Nat => s.heap.size ≤ q) (wl ad kv cy N v ++ wm ad2 cy v2)) (hS : va_S (fun q : Nat => s.heap.size ≤ q) s.heap H locs) (ls : Array Slot) (hl : lv_has ls 4 [(3, .int i), (2, .ref (ad2 0)), (1, .ref (ad 0)), (0, .ref b)]) (kk : ∀ (v1 v3 : Nat → Nat → Int32) (H1 : Heap) (locs1 : List Loc) (ls1 : Array Slot), Iv v1 → Ir v3 → RR3 n v1 v3 → va_P (dC, dI) vwCl (wl ad kv cy N v1 ++ wm ad2 cy v3) H1 → va_D (fun q : Nat => s.heap.size ≤ q) (wl ad kv cy N v1 ++ wm ad2 cy v3) → va_S (fun q : Nat => s.heap.size ≤ q) s.heap H1 locs1 → lv_has ls1 4 [(3, .int i), (2, .ref (ad2 0)), (1, .ref (ad 0)), (0, .ref b)] → W p l e room_1 s m #[Value.ref b] below meth c H1 locs1 cells slots (lw_Z below #[Value.ref b] s) (F0 m 1060 ls1 [])) : W p l e room_1 s m #[Value.ref b] below meth c H locs cells slots (lw_Z below #[Value.ref b] s) (F0 m 978 ls []) := by
  obtain ⟨hx, hb, hr, hml, hown, hts0, hX, hbl, hlocks, hgv⟩ := id C0
  have hts : ∀ w ∈ wsL_law, w.before #[Value.ref b] s = true := fun w h => hts0 w (wsL_law_in w h)
  have hown : s.vm.findClass RL = some m.cls := hown
  have hA : ∀ q : Nat, s.heap.size ≤ q → (fun q : Nat => s.heap.size ≤ q) q := fun _ h => h
  have hbA : ¬ (fun q : Nat => s.heap.size ≤ q) b := Nat.not_le.mpr hbl
  refine lv_aload_n hx hb dL_law_978 rfl (lv_at hl 2 rfl) ?_
  refine lv_aload_n hx hb dL_law_979 rfl (lv_at hl 3 rfl) ?_
  refine lv_iload_n hx hb dL_law_980 rfl (lv_at hl 0 rfl) ?_
  refine lv_iconst (v := 1) hx hb dL_law_981 (by decide) ?_
  refine lv_iadd hx hb dL_law_982 ?_
  refine lv_topi (fun x_1 ex_1 => ?_)
  have k_1 : (1 : Int32).toInt = 1 := by decide
  have tx_1 : x_1.toInt = i.toInt + (1 : Int32).toInt := by rw [ex_1]; exact t_add ⟨by omega, by omega⟩
  refine va_sld hx hb hX hbl hbA hS (vp_in_iff.mpr ⟨by omega, by omega⟩) dL_law_983 ?_
  refine lv_topi (fun x_2 ex_2 => ?_)
  refine lv_aload_n hx hb dL_law_984 rfl (lv_at hl 3 rfl) ?_
  refine lv_iload_n hx hb dL_law_985 rfl (lv_at hl 0 rfl) ?_
  refine lv_iconst (v := 2) hx hb dL_law_986 (by decide) ?_
  refine lv_iadd hx hb dL_law_987 ?_
  refine lv_topi (fun x_3 ex_3 => ?_)
  have k_2 : (2 : Int32).toInt = 2 := by decide
  have tx_3 : x_3.toInt = i.toInt + (2 : Int32).toInt := by rw [ex_3]; exact t_add ⟨by omega, by omega⟩
  refine va_sld hx hb hX hbl hbA hS (vp_in_iff.mpr ⟨by omega, by omega⟩) dL_law_988 ?_
  refine lv_topi (fun x_4 ex_4 => ?_)
  refine yl_i (X := wl ad kv cy N v) (Y := wm ad2 cy v2) (w1 := fun (u : Nat → Nat → Int32) => wl ad kv cy N u) hP hD hS hA (va_runV (As := [.int x_2, .int x_4]) (rest := []) ⟨hx, hb, hml, hown, hts⟩ (g_X7_judged l dC dI cy _ ad kv N hN v hv x_2 x_4) (cwV 2 hts gL_law_X7_judged rfl rfl rfl hd_V_X7_judged_2 ⟨Nat.le_of_ble_eq_true rfl, Nat.le_of_ble_eq_true rfl⟩) (yl_preV hE hK hP hD (ci := 7) (q := (RX7, TX7, 5)) (q0 := 0) rfl (wl_at (by omega) (ce_0 (by decide)))) rfl rfl hl.1 rfl (lv_room (Nat.le_of_ble_eq_true rfl)) dL_law_989 hcs) (fun r_5 c_5 H locs hw_5 hP hD hS => ?_)
  have hP : va_P (dC, dI) vwCl (wm ad2 cy v2 ++ wl ad kv cy N c_5) H := hP
  have hD : va_D (fun q : Nat => s.heap.size ≤ q) (wm ad2 cy v2 ++ wl ad kv cy N c_5) := hD
  obtain ⟨hv, hf_c_5⟩ := hw_5
  refine lv_pop hx hb dL_law_992 rfl ?_
  refine lv_aload_n hx hb dL_law_993 rfl (lv_at hl 1 rfl) ?_
  refine lv_aload_n hx hb dL_law_994 rfl (lv_at hl 3 rfl) ?_
  refine lv_iload_n hx hb dL_law_995 rfl (lv_at hl 0 rfl) ?_
  refine lv_iconst (v := 1) hx hb dL_law_996 (by decide) ?_
  refine lv_iadd hx hb dL_law_997 ?_
  refine lv_topi (fun x_6 ex_6 => ?_)
  obtain rfl : x_1 = x_6 := ex_1.trans ex_6.symm
  refine va_sld hx hb hX hbl hbA hS (vp_in_iff.mpr ⟨by omega, by omega⟩) dL_law_998 ?_
  refine lv_topi (fun x_7 ex_7 => ?_)
  obtain rfl : x_2 = x_7 := ex_2.trans ex_7.symm
  refine lv_aload_n hx hb dL_law_999 rfl (lv_at hl 3 rfl) ?_
  refine lv_iload_n hx hb dL_law_1000 rfl (lv_at hl 0 rfl) ?_
  refine lv_iconst (v := 2) hx hb dL_law_1001 (by decide) ?_
  refine lv_iadd hx hb dL_law_1002 ?_
  refine lv_topi (fun x_8 ex_8 => ?_)
  obtain rfl : x_3 = x_8 := ex_3.trans ex_8.symm
  refine va_sld hx hb hX hbl hbA hS (vp_in_iff.mpr ⟨by omega, by omega⟩) dL_law_1003 ?_
  refine lv_topi (fun x_9 ex_9 => ?_)
  obtain rfl : x_4 = x_9 := ex_4.trans ex_9.symm
  refine yl_i (X := wm ad2 cy v2) (Y := wl ad kv cy N c_5) (w1 := fun (u : Nat → Nat → Int32) => wm ad2 cy u) hP hD hS hA (va_runV (As := [.int x_2, .int x_4]) (rest := []) ⟨hx, hb, hml, hown, hts⟩ (q_X8_judged l dC dI cy _ ad2 v2 hq x_2 x_4) (cwV 2 hts gL_law_X8_judged rfl rfl rfl hd_V_X8_judged_2 ⟨Nat.le_of_ble_eq_true rfl, Nat.le_of_ble_eq_true rfl⟩) (yl_preV hE hK hP hD (ci := 8) (q := (RX8, TX8, 11)) (q0 := 0) rfl (wm_at (by decide) rc_0)) rfl rfl hl.1 rfl (lv_room (Nat.le_of_ble_eq_true rfl)) dL_law_1004 hcs) (fun r_10 m_10 H locs hw_10 hP hD hS => ?_)
  have hP : va_P (dC, dI) vwCl (wl ad kv cy N c_5 ++ wm ad2 cy m_10) H := hP
  have hD : va_D (fun q : Nat => s.heap.size ≤ q) (wl ad kv cy N c_5 ++ wm ad2 cy m_10) := hD
  obtain ⟨hq, hf_m_10⟩ := hw_10
  have hJ := hJ.mv hf_c_5 (Fq_e hf_m_10)
  refine lv_pop hx hb dL_law_1007 rfl ?_
  refine lv_goto (tgt := 1060) hx hb dL_law_1008 (by decide) ?_
  exact kk c_5 m_10 _ _ ls hv hq hJ hP hD hS hl

set_option maxHeartbeats 4000000 in
set_option maxRecDepth 100000 in
/-- the case of many -/
theorem lc_23 {p : Program} {l : Launch} {e : Env} {s : State} {m : MethodId} {below : List Frame} {meth : Method} {c : Code} {dC : Nat → ClassId} {dI : Nat → Nat → Nat} {cy : Nat → ClassId} {b L : Nat} {xs : Nat → Int32} (C0 : lw_At p s m meth c b L xs) {t1 t2 : Nat} (hSt : ex_St t1 t2 (fun q : Nat => s.heap.size ≤ q) s) (hE : ex_K s) (hK : va_K (dC, dI) vwCl (ty_L cy) s) (hL : L ≤ 3584) {ad ad2 : Nat → Nat} {kv : Value} {N : Nat} (hN : 119 ≤ N) {v v2 : Nat → Nat → Int32} (hv : Iv v) (hq : Ir v2) {n : Int32} (hJ : RR3 n v v2) {i : Int32} (hi : 0 ≤ i.toInt ∧ i.toInt + 7 ≤ (L : Int)) {cells slots : Nat} (hcs : cells ≤ room_1.cells ∧ slots ≤ room_1.slots) {H : Heap} {locs : List Loc} (hP : va_P (dC, dI) vwCl (wl ad kv cy N v ++ wm ad2 cy v2) H) (hD : va_D (fun q : Nat => s.heap.size ≤ q) (wl ad kv cy N v ++ wm ad2 cy v2)) (hS : va_S (fun q : Nat => s.heap.size ≤ q) s.heap H locs) (ls : Array Slot) (hl : lv_has ls 4 [(3, .int i), (2, .ref (ad2 0)), (1, .ref (ad 0)), (0, .ref b)]) (kk : ∀ (v1 v3 : Nat → Nat → Int32) (H1 : Heap) (locs1 : List Loc) (ls1 : Array Slot), Iv v1 → Ir v3 → RR3 n v1 v3 → va_P (dC, dI) vwCl (wl ad kv cy N v1 ++ wm ad2 cy v3) H1 → va_D (fun q : Nat => s.heap.size ≤ q) (wl ad kv cy N v1 ++ wm ad2 cy v3) → va_S (fun q : Nat => s.heap.size ≤ q) s.heap H1 locs1 → lv_has ls1 4 [(3, .int i), (2, .ref (ad2 0)), (1, .ref (ad 0)), (0, .ref b)] → W p l e room_1 s m #[Value.ref b] below meth c H1 locs1 cells slots (lw_Z below #[Value.ref b] s) (F0 m 1060 ls1 [])) : W p l e room_1 s m #[Value.ref b] below meth c H locs cells slots (lw_Z below #[Value.ref b] s) (F0 m 1011 ls []) := by
  obtain ⟨hx, hb, hr, hml, hown, hts0, hX, hbl, hlocks, hgv⟩ := id C0
  have hts : ∀ w ∈ wsL_law, w.before #[Value.ref b] s = true := fun w h => hts0 w (wsL_law_in w h)
  have hown : s.vm.findClass RL = some m.cls := hown
  have hA : ∀ q : Nat, s.heap.size ≤ q → (fun q : Nat => s.heap.size ≤ q) q := fun _ h => h
  have hbA : ¬ (fun q : Nat => s.heap.size ≤ q) b := Nat.not_le.mpr hbl
  refine lv_aload_n hx hb dL_law_1011 rfl (lv_at hl 2 rfl) ?_
  refine lv_aload_n hx hb dL_law_1012 rfl (lv_at hl 3 rfl) ?_
  refine lv_iload_n hx hb dL_law_1013 rfl (lv_at hl 0 rfl) ?_
  refine lv_iconst (v := 1) hx hb dL_law_1014 (by decide) ?_
  refine lv_iadd hx hb dL_law_1015 ?_
  refine lv_topi (fun x_1 ex_1 => ?_)
  have k_1 : (1 : Int32).toInt = 1 := by decide
  have tx_1 : x_1.toInt = i.toInt + (1 : Int32).toInt := by rw [ex_1]; exact t_add ⟨by omega, by omega⟩
  refine va_sld hx hb hX hbl hbA hS (vp_in_iff.mpr ⟨by omega, by omega⟩) dL_law_1016 ?_
  refine lv_topi (fun x_2 ex_2 => ?_)
  refine yl_i (X := wl ad kv cy N v) (Y := wm ad2 cy v2) (w1 := fun (u : Nat → Nat → Int32) => wl ad kv cy N u) hP hD hS hA (va_runV (As := [.int x_2]) (rest := []) ⟨hx, hb, hml, hown, hts⟩ (g_X7_many l dC dI cy _ ad kv N hN v hv x_2) (cwV 1 hts gL_law_X7_many rfl rfl rfl hd_V_X7_many_1 ⟨Nat.le_of_ble_eq_true rfl, Nat.le_of_ble_eq_true rfl⟩) (yl_preV hE hK hP hD (ci := 7) (q := (RX7, TX7, 5)) (q0 := 0) rfl (wl_at (by omega) (ce_0 (by decide)))) rfl rfl hl.1 rfl (lv_room (Nat.le_of_ble_eq_true rfl)) dL_law_1017 hcs) (fun r_3 c_3 H locs hw_3 hP hD hS => ?_)
  have hP : va_P (dC, dI) vwCl (wm ad2 cy v2 ++ wl ad kv cy N c_3) H := hP
  have hD : va_D (fun q : Nat => s.heap.size ≤ q) (wm ad2 cy v2 ++ wl ad kv cy N c_3) := hD
  obtain ⟨hv, hf_c_3⟩ := hw_3
  refine lv_pop hx hb dL_law_1020 rfl ?_
  refine lv_aload_n hx hb dL_law_1021 rfl (lv_at hl 1 rfl) ?_
  refine lv_aload_n hx hb dL_law_1022 rfl (lv_at hl 3 rfl) ?_
  refine lv_iload_n hx hb dL_law_1023 rfl (lv_at hl 0 rfl) ?_
  refine lv_iconst (v := 1) hx hb dL_law_1024 (by decide) ?_
  refine lv_iadd hx hb dL_law_1025 ?_
  refine lv_topi (fun x_4 ex_4 => ?_)
  obtain rfl : x_1 = x_4 := ex_1.trans ex_4.symm
  refine va_sld hx hb hX hbl hbA hS (vp_in_iff.mpr ⟨by omega, by omega⟩) dL_law_1026 ?_
  refine lv_topi (fun x_5 ex_5 => ?_)
  obtain rfl : x_2 = x_5 := ex_2.trans ex_5.symm
  refine yl_i (X := wm ad2 cy v2) (Y := wl ad kv cy N c_3) (w1 := fun (u : Nat → Nat → Int32) => wm ad2 cy u) hP hD hS hA (va_runV (As := [.int x_2]) (rest := []) ⟨hx, hb, hml, hown, hts⟩ (q_X8_many l dC dI cy _ ad2 v2 hq x_2) (cwV 1 hts gL_law_X8_many rfl rfl rfl hd_V_X8_many_1 ⟨Nat.le_of_ble_eq_true rfl, Nat.le_of_ble_eq_true rfl⟩) (yl_preV hE hK hP hD (ci := 8) (q := (RX8, TX8, 11)) (q0 := 0) rfl (wm_at (by decide) rc_0)) rfl rfl hl.1 rfl (lv_room (Nat.le_of_ble_eq_true rfl)) dL_law_1027 hcs) (fun r_6 m_6 H locs hw_6 hP hD hS => ?_)
  have hP : va_P (dC, dI) vwCl (wl ad kv cy N c_3 ++ wm ad2 cy m_6) H := hP
  have hD : va_D (fun q : Nat => s.heap.size ≤ q) (wl ad kv cy N c_3 ++ wm ad2 cy m_6) := hD
  obtain ⟨hq, hf_m_6⟩ := hw_6
  have hJ := hJ.mv hf_c_3 hf_m_6
  refine lv_pop hx hb dL_law_1030 rfl ?_
  refine lv_goto (tgt := 1060) hx hb dL_law_1031 (by decide) ?_
  exact kk c_3 m_6 _ _ ls hv hq hJ hP hD hS hl
set_option maxRecDepth 20000 in
theorem db_L_law_1034 : (decode cL_law 1034 = .ok (.aload_n 1, 1)) ∧ (decode cL_law 1035 = .ok (.invokevirtual 117, 3)) ∧ (decode cL_law 1038 = .ok (.pop, 1)) ∧ (decode cL_law 1039 = .ok (.aload_n 2, 1)) ∧ (decode cL_law 1040 = .ok (.invokevirtual 120, 3)) ∧ (decode cL_law 1043 = .ok (.pop, 1)) ∧ (decode cL_law 1044 = .ok (.goto 16, 3)) ∧ (decode cL_law 1047 = .ok (.aload_n 1, 1)) := by decide +kernel
theorem dL_law_1034 : decode cL_law 1034 = .ok (.aload_n 1, 1) := db_L_law_1034.1
set_option maxRecDepth 20000 in
theorem ggL_law_X7_keep : GoodIn wsL_law wsX7_keep := goodIn_ch _ [(26, 6), (1, 0), (0, 12), (0, 13), (0, 14), (0, 15), (1, 2), (1, 3), (1, 4), (1, 5), (0, 10), (0, 11), (1, 6), (1, 7), (1, 8), (1, 9), (1, 10), (1, 11), (1, 12), (1, 13), (1, 14), (1, 15), (1, 16), (1, 17), (1, 18), (1, 19), (1, 20), (1, 21), (1, 22), (1, 23), (2, 0), (2, 1), (2, 2), (2, 3), (2, 4), (2, 5), (2, 6), (2, 7), (2, 8), (2, 9), (2, 10), (2, 11), (2, 12), (2, 13), (2, 14), (2, 15), (2, 16), (26, 7), (26, 8), (26, 9), (26, 10), (26, 11), (12, 21), (9, 9), (26, 12), (26, 13), (26, 14), (26, 15), (26, 16), (26, 17), (26, 18), (26, 19), (26, 20), (26, 21), (26, 22), (26, 23), (27, 0), (27, 1), (27, 2), (27, 3), (27, 4), (27, 5), (6, 17), (6, 18), (6, 19), (6, 20), (6, 21), (6, 22), (27, 6), (16, 5), (16, 6), (16, 7), (27, 7), (27, 8), (27, 9), (27, 10), (27, 11), (27, 12), (27, 13), (20, 22), (20, 21), (29, 0), (29, 1), (29, 2), (29, 3), (29, 4), (31, 0), (31, 1), (31, 2), (31, 3), (31, 4), (31, 5), (31, 6), (34, 0), (34, 1), (35, 0), (35, 1), (35, 2), (36, 0), (36, 1), (36, 2), (36, 3), (36, 4), (36, 5), (36, 6), (36, 7), (36, 8), (36, 9), (36, 10), (37, 0), (37, 1), (37, 2), (37, 3), (37, 4)] rfl (by decide +kernel)
set_option maxRecDepth 20000 in
theorem gL_law_X7_keep : GoodIn wsL_law (wsV RL 117 RX7 yX7_keep wsX7_keep) := goodIn_app (goodIn_ch _ [(26, 3), (26, 4), (26, 5), (0, 2)] rfl (by decide +kernel)) ggL_law_X7_keep
theorem dL_law_1035 : decode cL_law 1035 = .ok (.invokevirtual 117, 3) := db_L_law_1034.2.1
theorem dL_law_1038 : decode cL_law 1038 = .ok (.pop, 1) := db_L_law_1034.2.2.1
theorem dL_law_1039 : decode cL_law 1039 = .ok (.aload_n 2, 1) := db_L_law_1034.2.2.2.1
set_option maxRecDepth 20000 in
theorem ggL_law_X8_keep : GoodIn wsL_law wsX8_keep := goodIn_ch _ [(27, 17), (3, 14), (3, 13), (27, 18), (30, 0), (30, 1), (30, 2), (30, 3), (30, 4), (30, 5), (30, 6), (30, 7), (30, 8), (30, 9), (30, 10)] rfl (by decide +kernel)
set_option maxRecDepth 20000 in
theorem gL_law_X8_keep : GoodIn wsL_law (wsV RL 120 RX8 yX8_keep wsX8_keep) := goodIn_app (goodIn_ch _ [(27, 14), (27, 15), (27, 16), (0, 5)] rfl (by decide +kernel)) ggL_law_X8_keep
theorem dL_law_1040 : decode cL_law 1040 = .ok (.invokevirtual 120, 3) := db_L_law_1034.2.2.2.2.1
theorem dL_law_1043 : decode cL_law 1043 = .ok (.pop, 1) := db_L_law_1034.2.2.2.2.2.1
theorem dL_law_1044 : decode cL_law 1044 = .ok (.goto 16, 3) := db_L_law_1034.2.2.2.2.2.2.1
theorem dL_law_1047 : decode cL_law 1047 = .ok (.aload_n 1, 1) := db_L_law_1034.2.2.2.2.2.2.2
set_option maxRecDepth 20000 in
theorem ggL_law_X7_back : GoodIn wsL_law wsX7_back := goodIn_ch _ [(27, 22), (1, 0), (0, 15), (26, 7), (26, 8), (26, 9), (0, 14), (26, 10), (26, 11), (12, 21), (9, 9), (26, 12), (1, 7), (1, 9), (1, 11), (26, 13), (26, 14), (26, 15), (1, 13), (26, 16), (26, 17), (26, 18), (26, 19), (26, 20), (26, 21), (1, 15), (26, 22), (26, 23), (27, 0), (27, 1), (27, 2), (27, 3), (27, 4), (1, 17), (27, 5), (6, 17), (6, 18), (6, 19), (6, 20), (6, 21), (6, 22), (2, 5), (2, 6), (2, 8), (27, 6), (16, 5), (16, 6), (16, 7), (2, 9), (2, 11), (27, 7), (27, 8), (27, 9), (2, 13), (27, 10), (27, 11), (27, 12), (27, 13), (20, 22), (20, 21), (29, 0), (29, 1), (29, 2), (29, 3), (29, 4), (31, 0), (31, 1), (31, 2), (31, 3), (31, 4), (31, 5), (31, 6), (34, 0), (34, 1), (35, 0), (35, 1), (35, 2), (36, 0), (36, 1), (36, 2), (36, 3), (36, 4), (36, 5), (36, 6), (36, 7), (36, 8), (36, 9), (36, 10), (37, 0), (37, 1), (37, 2), (37, 3), (37, 4)] rfl (by decide +kernel)
set_option maxRecDepth 20000 in
theorem gL_law_X7_back : GoodIn wsL_law (wsV RL 121 RX7 yX7_back wsX7_back) := goodIn_app (goodIn_ch _ [(27, 19), (27, 20), (27, 21), (0, 2)] rfl (by decide +kernel)) ggL_law_X7_back
set_option maxRecDepth 20000 in
theorem db_L_law_1048 : (decode cL_law 1048 = .ok (.invokevirtual 121, 3)) ∧ (decode cL_law 1051 = .ok (.pop, 1)) ∧ (decode cL_law 1052 = .ok (.aload_n 2, 1)) ∧ (decode cL_law 1053 = .ok (.invokevirtual 124, 3)) ∧ (decode cL_law 1056 = .ok (.pop, 1)) ∧ (decode cL_law 1057 = .ok (.goto 3, 3)) := by decide +kernel
theorem dL_law_1048 : decode cL_law 1048 = .ok (.invokevirtual 121, 3) := db_L_law_1048.1
theorem dL_law_1051 : decode cL_law 1051 = .ok (.pop, 1) := db_L_law_1048.2.1
theorem dL_law_1052 : decode cL_law 1052 = .ok (.aload_n 2, 1) := db_L_law_1048.2.2.1
set_option maxRecDepth 20000 in
theorem ggL_law_X8_back : GoodIn wsL_law wsX8_back := goodIn_ch _ [(28, 2), (27, 18), (3, 13), (3, 14), (30, 0), (30, 1), (30, 2), (30, 3), (30, 4), (30, 5), (30, 6), (30, 7), (30, 8), (30, 9), (30, 10)] rfl (by decide +kernel)
set_option maxRecDepth 20000 in
theorem gL_law_X8_back : GoodIn wsL_law (wsV RL 124 RX8 yX8_back wsX8_back) := goodIn_app (goodIn_ch _ [(27, 23), (28, 0), (28, 1), (0, 5)] rfl (by decide +kernel)) ggL_law_X8_back
theorem dL_law_1053 : decode cL_law 1053 = .ok (.invokevirtual 124, 3) := db_L_law_1048.2.2.2.1
theorem dL_law_1056 : decode cL_law 1056 = .ok (.pop, 1) := db_L_law_1048.2.2.2.2.1
theorem dL_law_1057 : decode cL_law 1057 = .ok (.goto 3, 3) := db_L_law_1048.2.2.2.2.2
set_option maxHeartbeats 4000000 in
set_option maxRecDepth 100000 in
/-- the case of keep -/
theorem lc_24n {p : Program} {l : Launch} {e : Env} {s : State} {m : MethodId} {below : List Frame} {meth : Method} {c : Code} {dC : Nat → ClassId} {dI : Nat → Nat → Nat} {cy : Nat → ClassId} {b L : Nat} {xs : Nat → Int32} (C0 : lw_At p s m meth c b L xs) {t1 t2 : Nat} (hSt : ex_St t1 t2 (fun q : Nat => s.heap.size ≤ q) s) (hE : ex_K s) (hK : va_K (dC, dI) vwCl (ty_L cy) s) (hL : L ≤ 3584) {ad ad2 : Nat → Nat} (hN : 119 ≤ 119) {v v2 : Nat → Nat → Int32} (hv : Iv v) (hq : Ir v2) (hJ : RR3 0 v v2) {i : Int32} (hi : 0 ≤ i.toInt ∧ i.toInt + 7 ≤ (L : Int)) {cells slots : Nat} (hcs : cells ≤ room_1.cells ∧ slots ≤ room_1.slots) (hcs2 : cells + 106 ≤ room_1.cells ∧ slots + 695 ≤ room_1.slots) {H : Heap} {locs : List Loc} (hP : va_P (dC, dI) vwCl (wl ad .null cy 119 v ++ wm ad2 cy v2) H) (hD : va_D (fun q : Nat => s.heap.size ≤ q) (wl ad .null cy 119 v ++ wm ad2 cy v2)) (hS : va_S (fun q : Nat => s.heap.size ≤ q) s.heap H locs) (ls : Array Slot) (hl : lv_has ls 4 [(3, .int i), (2, .ref (ad2 0)), (1, .ref (ad 0)), (0, .ref b)]) (kk : ∀ (ad3 : Nat → Nat) (v1 v3 : Nat → Nat → Int32) (H1 : Heap) (locs1 : List Loc) (ls1 : Array Slot), Iv v1 → Ir v3 → RR3 1 v1 v3 → va_P (dC, dI) vwCl (wl ad3 (.ref (ad3 119)) cy 225 v1 ++ wm ad2 cy v3) H1 → va_D (fun q : Nat => s.heap.size ≤ q) (wl ad3 (.ref (ad3 119)) cy 225 v1 ++ wm ad2 cy v3) → va_S (fun q : Nat => s.heap.size ≤ q) s.heap H1 locs1 → lv_has ls1 4 [(3, .int i), (2, .ref (ad2 0)), (1, .ref (ad3 0)), (0, .ref b)] → W p l e room_1 s m #[Value.ref b] below meth c H1 locs1 (cells + 106) (slots + 695) (lw_Z below #[Value.ref b] s) (F0 m 1060 ls1 [])) : W p l e room_1 s m #[Value.ref b] below meth c H locs cells slots (lw_Z below #[Value.ref b] s) (F0 m 1034 ls []) := by
  obtain ⟨hx, hb, hr, hml, hown, hts0, hX, hbl, hlocks, hgv⟩ := id C0
  have hts : ∀ w ∈ wsL_law, w.before #[Value.ref b] s = true := fun w h => hts0 w (wsL_law_in w h)
  have hown : s.vm.findClass RL = some m.cls := hown
  have hA : ∀ q : Nat, s.heap.size ≤ q → (fun q : Nat => s.heap.size ≤ q) q := fun _ h => h
  have hbA : ¬ (fun q : Nat => s.heap.size ≤ q) b := Nat.not_le.mpr hbl
  refine lv_aload_n hx hb dL_law_1034 rfl (lv_at hl 2 rfl) ?_
  replace hcs := hcs2
  refine yl_i (X := wl ad .null cy 119 v) (Y := wm ad2 cy v2) (w1 := fun (u : (Nat → Nat) × (Nat → Nat → Int32)) => wl u.1 (.ref (u.1 119)) cy 225 u.2) hP hD hS hA (va_runV (As := []) (rest := []) ⟨hx, hb, hml, hown, hts⟩ (e_X7_keep_n l dC dI cy _ ad v hv) (cwV 0 hts gL_law_X7_keep rfl rfl rfl hd_V_X7_keep_0 ⟨Nat.le_of_ble_eq_true rfl, Nat.le_of_ble_eq_true rfl⟩) (yl_preV hE hK hP hD (ci := 7) (q := (RX7, TX7, 5)) (q0 := 0) rfl (wl_at (by omega) (ce_0 (by decide)))) rfl rfl hl.1 rfl (lv_room (Nat.le_of_ble_eq_true rfl)) dL_law_1035 hcs) (fun r_1 c_1 H locs hw_1 hP hD hS => ?_)
  obtain ⟨ad3, c_1b⟩ := c_1
  obtain ⟨hv, a0, hk1, hk2, rfl⟩ := hw_1
  replace a0 : ad3 0 = ad 0 := a0
  replace hv : Iv c_1b := hv
  replace hk1 : ∀ o j : Nat, lvH v 13 o j → c_1b (119 + o) j = v (13 + o) j := hk1
  replace hk2 : ∀ k : Nat, k < 119 → c_1b k = v k := hk2
  have hP : va_P (dC, dI) vwCl (wm ad2 cy v2 ++ wl ad3 (.ref (ad3 119)) cy 225 c_1b) H := hP
  have hD : va_D (fun q : Nat => s.heap.size ≤ q) (wm ad2 cy v2 ++ wl ad3 (.ref (ad3 119)) cy 225 c_1b) := hD
  rw [← a0] at hl
  refine lv_pop hx hb dL_law_1038 rfl ?_
  refine lv_aload_n hx hb dL_law_1039 rfl (lv_at hl 1 rfl) ?_
  have hq0 := hq
  refine yl_i (X := wm ad2 cy v2) (Y := wl ad3 (.ref (ad3 119)) cy 225 c_1b) (w1 := fun (u : Nat → Nat → Int32) => wm ad2 cy u) hP hD hS hA (va_runV (As := []) (rest := []) ⟨hx, hb, hml, hown, hts⟩ (q_X8_keep l dC dI cy _ ad2 v2 hq) (cwV 0 hts gL_law_X8_keep rfl rfl rfl hd_V_X8_keep_0 ⟨Nat.le_of_ble_eq_true rfl, Nat.le_of_ble_eq_true rfl⟩) (yl_preV hE hK hP hD (ci := 8) (q := (RX8, TX8, 11)) (q0 := 0) rfl (wm_at (by decide) rc_0)) rfl rfl hl.1 rfl (lv_room (Nat.le_of_ble_eq_true rfl)) dL_law_1040 hcs) (fun r_2 m_2 H locs hw_2 hP hD hS => ?_)
  have hP : va_P (dC, dI) vwCl (wl ad3 (.ref (ad3 119)) cy 225 c_1b ++ wm ad2 cy m_2) H := hP
  have hD : va_D (fun q : Nat => s.heap.size ≤ q) (wl ad3 (.ref (ad3 119)) cy 225 c_1b ++ wm ad2 cy m_2) := hD
  obtain ⟨hq, hz1, hz2, hz3, hz4, rfl⟩ := hw_2
  have hJ := S_keep hq0 hJ hk1 hk2 hz1 hz2 hz3 hz4
  refine lv_pop hx hb dL_law_1043 rfl ?_
  refine lv_goto (tgt := 1060) hx hb dL_law_1044 (by decide) ?_
  exact kk ad3 c_1b m_2 _ _ ls hv hq hJ hP hD hS hl

set_option maxHeartbeats 4000000 in
set_option maxRecDepth 100000 in
/-- the case of keep -/
theorem lc_24k {p : Program} {l : Launch} {e : Env} {s : State} {m : MethodId} {below : List Frame} {meth : Method} {c : Code} {dC : Nat → ClassId} {dI : Nat → Nat → Nat} {cy : Nat → ClassId} {b L : Nat} {xs : Nat → Int32} (C0 : lw_At p s m meth c b L xs) {t1 t2 : Nat} (hSt : ex_St t1 t2 (fun q : Nat => s.heap.size ≤ q) s) (hE : ex_K s) (hK : va_K (dC, dI) vwCl (ty_L cy) s) (hL : L ≤ 3584) {ad ad2 : Nat → Nat} {N : Nat} (hN : 119 ≤ N) (hN2 : 225 ≤ N) {v v2 : Nat → Nat → Int32} (hv : Iv v) (hq : Ir v2) (hJ : RR3 1 v v2) {i : Int32} (hi : 0 ≤ i.toInt ∧ i.toInt + 7 ≤ (L : Int)) {cells slots : Nat} (hcs : cells ≤ room_1.cells ∧ slots ≤ room_1.slots) {H : Heap} {locs : List Loc} (hP : va_P (dC, dI) vwCl (wl ad (.ref (ad 119)) cy N v ++ wm ad2 cy v2) H) (hD : va_D (fun q : Nat => s.heap.size ≤ q) (wl ad (.ref (ad 119)) cy N v ++ wm ad2 cy v2)) (hS : va_S (fun q : Nat => s.heap.size ≤ q) s.heap H locs) (ls : Array Slot) (hl : lv_has ls 4 [(3, .int i), (2, .ref (ad2 0)), (1, .ref (ad 0)), (0, .ref b)]) (kk : ∀ (v1 v3 : Nat → Nat → Int32) (H1 : Heap) (locs1 : List Loc) (ls1 : Array Slot), Iv v1 → Ir v3 → RR3 1 v1 v3 → va_P (dC, dI) vwCl (wl ad (.ref (ad 119)) cy N v1 ++ wm ad2 cy v3) H1 → va_D (fun q : Nat => s.heap.size ≤ q) (wl ad (.ref (ad 119)) cy N v1 ++ wm ad2 cy v3) → va_S (fun q : Nat => s.heap.size ≤ q) s.heap H1 locs1 → lv_has ls1 4 [(3, .int i), (2, .ref (ad2 0)), (1, .ref (ad 0)), (0, .ref b)] → W p l e room_1 s m #[Value.ref b] below meth c H1 locs1 cells slots (lw_Z below #[Value.ref b] s) (F0 m 1060 ls1 [])) : W p l e room_1 s m #[Value.ref b] below meth c H locs cells slots (lw_Z below #[Value.ref b] s) (F0 m 1034 ls []) := by
  obtain ⟨hx, hb, hr, hml, hown, hts0, hX, hbl, hlocks, hgv⟩ := id C0
  have hts : ∀ w ∈ wsL_law, w.before #[Value.ref b] s = true := fun w h => hts0 w (wsL_law_in w h)
  have hown : s.vm.findClass RL = some m.cls := hown
  have hA : ∀ q : Nat, s.heap.size ≤ q → (fun q : Nat => s.heap.size ≤ q) q := fun _ h => h
  have hbA : ¬ (fun q : Nat => s.heap.size ≤ q) b := Nat.not_le.mpr hbl
  refine lv_aload_n hx hb dL_law_1034 rfl (lv_at hl 2 rfl) ?_
  refine yl_i (X := wl ad (.ref (ad 119)) cy N v) (Y := wm ad2 cy v2) (w1 := fun (u : Nat → Nat → Int32) => wl ad (.ref (ad 119)) cy N u) hP hD hS hA (va_runV (As := []) (rest := []) ⟨hx, hb, hml, hown, hts⟩ (e_X7_keep_k l dC dI cy _ ad N hN v hv hN2) (cwV 0 hts gL_law_X7_keep rfl rfl rfl hd_V_X7_keep_0 ⟨Nat.le_of_ble_eq_true rfl, Nat.le_of_ble_eq_true rfl⟩) (yl_preV hE hK hP hD (ci := 7) (q := (RX7, TX7, 5)) (q0 := 0) rfl (wl_at (by omega) (ce_0 (by decide)))) rfl rfl hl.1 rfl (lv_room (Nat.le_of_ble_eq_true rfl)) dL_law_1035 hcs) (fun r_1 c_1 H locs hw_1 hP hD hS => ?_)
  have hP : va_P (dC, dI) vwCl (wm ad2 cy v2 ++ wl ad (.ref (ad 119)) cy N c_1) H := hP
  have hD : va_D (fun q : Nat => s.heap.size ≤ q) (wm ad2 cy v2 ++ wl ad (.ref (ad 119)) cy N c_1) := hD
  obtain ⟨hv, ⟨hk1, hk2⟩, rfl⟩ := hw_1
  replace hk2 := fun k (h9 : k < 119) => hk2 k (Or.inl h9)
  refine lv_pop hx hb dL_law_1038 rfl ?_
  refine lv_aload_n hx hb dL_law_1039 rfl (lv_at hl 1 rfl) ?_
  have hq0 := hq
  refine yl_i (X := wm ad2 cy v2) (Y := wl ad (.ref (ad 119)) cy N c_1) (w1 := fun (u : Nat → Nat → Int32) => wm ad2 cy u) hP hD hS hA (va_runV (As := []) (rest := []) ⟨hx, hb, hml, hown, hts⟩ (q_X8_keep l dC dI cy _ ad2 v2 hq) (cwV 0 hts gL_law_X8_keep rfl rfl rfl hd_V_X8_keep_0 ⟨Nat.le_of_ble_eq_true rfl, Nat.le_of_ble_eq_true rfl⟩) (yl_preV hE hK hP hD (ci := 8) (q := (RX8, TX8, 11)) (q0 := 0) rfl (wm_at (by decide) rc_0)) rfl rfl hl.1 rfl (lv_room (Nat.le_of_ble_eq_true rfl)) dL_law_1040 hcs) (fun r_2 m_2 H locs hw_2 hP hD hS => ?_)
  have hP : va_P (dC, dI) vwCl (wl ad (.ref (ad 119)) cy N c_1 ++ wm ad2 cy m_2) H := hP
  have hD : va_D (fun q : Nat => s.heap.size ≤ q) (wl ad (.ref (ad 119)) cy N c_1 ++ wm ad2 cy m_2) := hD
  obtain ⟨hq, hz1, hz2, hz3, hz4, rfl⟩ := hw_2
  have hJ := S_keep hq0 hJ hk1 hk2 hz1 hz2 hz3 hz4
  refine lv_pop hx hb dL_law_1043 rfl ?_
  refine lv_goto (tgt := 1060) hx hb dL_law_1044 (by decide) ?_
  exact kk c_1 m_2 _ _ ls hv hq hJ hP hD hS hl

set_option maxHeartbeats 4000000 in
set_option maxRecDepth 100000 in
/-- the case of back -/
theorem lc_25n {p : Program} {l : Launch} {e : Env} {s : State} {m : MethodId} {below : List Frame} {meth : Method} {c : Code} {dC : Nat → ClassId} {dI : Nat → Nat → Nat} {cy : Nat → ClassId} {b L : Nat} {xs : Nat → Int32} (C0 : lw_At p s m meth c b L xs) {t1 t2 : Nat} (hSt : ex_St t1 t2 (fun q : Nat => s.heap.size ≤ q) s) (hE : ex_K s) (hK : va_K (dC, dI) vwCl (ty_L cy) s) (hL : L ≤ 3584) {ad ad2 : Nat → Nat} (hN : 119 ≤ 119) {v v2 : Nat → Nat → Int32} (hv : Iv v) (hq : Ir v2) (hJ : RR3 0 v v2) {i : Int32} (hi : 0 ≤ i.toInt ∧ i.toInt + 7 ≤ (L : Int)) {cells slots : Nat} (hcs : cells ≤ room_1.cells ∧ slots ≤ room_1.slots) {H : Heap} {locs : List Loc} (hP : va_P (dC, dI) vwCl (wl ad .null cy 119 v ++ wm ad2 cy v2) H) (hD : va_D (fun q : Nat => s.heap.size ≤ q) (wl ad .null cy 119 v ++ wm ad2 cy v2)) (hS : va_S (fun q : Nat => s.heap.size ≤ q) s.heap H locs) (ls : Array Slot) (hl : lv_has ls 4 [(3, .int i), (2, .ref (ad2 0)), (1, .ref (ad 0)), (0, .ref b)]) (kk : ∀ (v1 v3 : Nat → Nat → Int32) (H1 : Heap) (locs1 : List Loc) (ls1 : Array Slot), Iv v1 → Ir v3 → RR3 0 v1 v3 → va_P (dC, dI) vwCl (wl ad .null cy 119 v1 ++ wm ad2 cy v3) H1 → va_D (fun q : Nat => s.heap.size ≤ q) (wl ad .null cy 119 v1 ++ wm ad2 cy v3) → va_S (fun q : Nat => s.heap.size ≤ q) s.heap H1 locs1 → lv_has ls1 4 [(3, .int i), (2, .ref (ad2 0)), (1, .ref (ad 0)), (0, .ref b)] → W p l e room_1 s m #[Value.ref b] below meth c H1 locs1 cells slots (lw_Z below #[Value.ref b] s) (F0 m 1060 ls1 [])) : W p l e room_1 s m #[Value.ref b] below meth c H locs cells slots (lw_Z below #[Value.ref b] s) (F0 m 1047 ls []) := by
  obtain ⟨hx, hb, hr, hml, hown, hts0, hX, hbl, hlocks, hgv⟩ := id C0
  have hts : ∀ w ∈ wsL_law, w.before #[Value.ref b] s = true := fun w h => hts0 w (wsL_law_in w h)
  have hown : s.vm.findClass RL = some m.cls := hown
  have hA : ∀ q : Nat, s.heap.size ≤ q → (fun q : Nat => s.heap.size ≤ q) q := fun _ h => h
  have hbA : ¬ (fun q : Nat => s.heap.size ≤ q) b := Nat.not_le.mpr hbl
  refine lv_aload_n hx hb dL_law_1047 rfl (lv_at hl 2 rfl) ?_
  refine yl_i (X := wl ad .null cy 119 v) (Y := wm ad2 cy v2) (w1 := fun (u : Nat → Nat → Int32) => wl ad .null cy 119 u) hP hD hS hA (va_runV (As := []) (rest := []) ⟨hx, hb, hml, hown, hts⟩ (e_X7_back_n l dC dI cy _ ad 119 hN v hv) (cwV 0 hts gL_law_X7_back rfl rfl rfl hd_V_X7_back_0 ⟨Nat.le_of_ble_eq_true rfl, Nat.le_of_ble_eq_true rfl⟩) (yl_preV hE hK hP hD (ci := 7) (q := (RX7, TX7, 5)) (q0 := 0) rfl (wl_at (by omega) (ce_0 (by decide)))) rfl rfl hl.1 rfl (lv_room (Nat.le_of_ble_eq_true rfl)) dL_law_1048 hcs) (fun r_1 c_1 H locs hw_1 hP hD hS => ?_)
  obtain ⟨hv, hpc⟩ := hw_1
  have hP : va_P (dC, dI) vwCl (wm ad2 cy v2 ++ wl ad .null cy 119 c_1) H := hP
  have hD : va_D (fun q : Nat => s.heap.size ≤ q) (wm ad2 cy v2 ++ wl ad .null cy 119 c_1) := hD
  refine lv_pop hx hb dL_law_1051 rfl ?_
  refine lv_aload_n hx hb dL_law_1052 rfl (lv_at hl 1 rfl) ?_
  have hq0 := hq
  refine yl_i (X := wm ad2 cy v2) (Y := wl ad .null cy 119 c_1) (w1 := fun (u : Nat → Nat → Int32) => wm ad2 cy u) hP hD hS hA (va_runV (As := []) (rest := []) ⟨hx, hb, hml, hown, hts⟩ (q_X8_back l dC dI cy _ ad2 v2 hq) (cwV 0 hts gL_law_X8_back rfl rfl rfl hd_V_X8_back_0 ⟨Nat.le_of_ble_eq_true rfl, Nat.le_of_ble_eq_true rfl⟩) (yl_preV hE hK hP hD (ci := 8) (q := (RX8, TX8, 11)) (q0 := 0) rfl (wm_at (by decide) rc_0)) rfl rfl hl.1 rfl (lv_room (Nat.le_of_ble_eq_true rfl)) dL_law_1053 hcs) (fun r_2 m_2 H locs hw_2 hP hD hS => ?_)
  have hP : va_P (dC, dI) vwCl (wl ad .null cy 119 c_1 ++ wm ad2 cy m_2) H := hP
  have hD : va_D (fun q : Nat => s.heap.size ≤ q) (wl ad .null cy 119 c_1 ++ wm ad2 cy m_2) := hD
  obtain ⟨hq, hpm⟩ := hw_2
  obtain ⟨hr1, hr2, hJ⟩ := S_back0 hJ hpc hpm
  subst hr1
  subst hr2
  refine lv_pop hx hb dL_law_1056 rfl ?_
  refine lv_goto (tgt := 1060) hx hb dL_law_1057 (by decide) ?_
  exact kk c_1 m_2 _ _ ls hv hq hJ hP hD hS hl

set_option maxHeartbeats 4000000 in
set_option maxRecDepth 100000 in
/-- the case of back -/
theorem lc_25k {p : Program} {l : Launch} {e : Env} {s : State} {m : MethodId} {below : List Frame} {meth : Method} {c : Code} {dC : Nat → ClassId} {dI : Nat → Nat → Nat} {cy : Nat → ClassId} {b L : Nat} {xs : Nat → Int32} (C0 : lw_At p s m meth c b L xs) {t1 t2 : Nat} (hSt : ex_St t1 t2 (fun q : Nat => s.heap.size ≤ q) s) (hE : ex_K s) (hK : va_K (dC, dI) vwCl (ty_L cy) s) (hL : L ≤ 3584) {ad ad2 : Nat → Nat} {N : Nat} (hN : 119 ≤ N) (hN2 : 225 ≤ N) {v v2 : Nat → Nat → Int32} (hv : Iv v) (hq : Ir v2) (hJ : RR3 1 v v2) {i : Int32} (hi : 0 ≤ i.toInt ∧ i.toInt + 7 ≤ (L : Int)) {cells slots : Nat} (hcs : cells ≤ room_1.cells ∧ slots ≤ room_1.slots) {H : Heap} {locs : List Loc} (hP : va_P (dC, dI) vwCl (wl ad (.ref (ad 119)) cy N v ++ wm ad2 cy v2) H) (hD : va_D (fun q : Nat => s.heap.size ≤ q) (wl ad (.ref (ad 119)) cy N v ++ wm ad2 cy v2)) (hS : va_S (fun q : Nat => s.heap.size ≤ q) s.heap H locs) (ls : Array Slot) (hl : lv_has ls 4 [(3, .int i), (2, .ref (ad2 0)), (1, .ref (ad 0)), (0, .ref b)]) (kk : ∀ (v1 v3 : Nat → Nat → Int32) (H1 : Heap) (locs1 : List Loc) (ls1 : Array Slot), Iv v1 → Ir v3 → RR3 1 v1 v3 → va_P (dC, dI) vwCl (wl ad (.ref (ad 119)) cy N v1 ++ wm ad2 cy v3) H1 → va_D (fun q : Nat => s.heap.size ≤ q) (wl ad (.ref (ad 119)) cy N v1 ++ wm ad2 cy v3) → va_S (fun q : Nat => s.heap.size ≤ q) s.heap H1 locs1 → lv_has ls1 4 [(3, .int i), (2, .ref (ad2 0)), (1, .ref (ad 0)), (0, .ref b)] → W p l e room_1 s m #[Value.ref b] below meth c H1 locs1 cells slots (lw_Z below #[Value.ref b] s) (F0 m 1060 ls1 [])) : W p l e room_1 s m #[Value.ref b] below meth c H locs cells slots (lw_Z below #[Value.ref b] s) (F0 m 1047 ls []) := by
  obtain ⟨hx, hb, hr, hml, hown, hts0, hX, hbl, hlocks, hgv⟩ := id C0
  have hts : ∀ w ∈ wsL_law, w.before #[Value.ref b] s = true := fun w h => hts0 w (wsL_law_in w h)
  have hown : s.vm.findClass RL = some m.cls := hown
  have hA : ∀ q : Nat, s.heap.size ≤ q → (fun q : Nat => s.heap.size ≤ q) q := fun _ h => h
  have hbA : ¬ (fun q : Nat => s.heap.size ≤ q) b := Nat.not_le.mpr hbl
  refine lv_aload_n hx hb dL_law_1047 rfl (lv_at hl 2 rfl) ?_
  refine yl_i (X := wl ad (.ref (ad 119)) cy N v) (Y := wm ad2 cy v2) (w1 := fun (u : Nat → Nat → Int32) => wl ad (.ref (ad 119)) cy N u) hP hD hS hA (va_runV (As := []) (rest := []) ⟨hx, hb, hml, hown, hts⟩ (e_X7_back_k l dC dI cy _ ad N hN v hv hN2) (cwV 0 hts gL_law_X7_back rfl rfl rfl hd_V_X7_back_0 ⟨Nat.le_of_ble_eq_true rfl, Nat.le_of_ble_eq_true rfl⟩) (yl_preV hE hK hP hD (ci := 7) (q := (RX7, TX7, 5)) (q0 := 0) rfl (wl_at (by omega) (ce_0 (by decide)))) rfl rfl hl.1 rfl (lv_room (Nat.le_of_ble_eq_true rfl)) dL_law_1048 hcs) (fun r_1 c_1 H locs hw_1 hP hD hS => ?_)
  obtain ⟨hv, hpc⟩ := hw_1
  have hP : va_P (dC, dI) vwCl (wm ad2 cy v2 ++ wl ad (.ref (ad 119)) cy N c_1) H := hP
  have hD : va_D (fun q : Nat => s.heap.size ≤ q) (wm ad2 cy v2 ++ wl ad (.ref (ad 119)) cy N c_1) := hD
  refine lv_pop hx hb dL_law_1051 rfl ?_
  refine lv_aload_n hx hb dL_law_1052 rfl (lv_at hl 1 rfl) ?_
  have hq0 := hq
  refine yl_i (X := wm ad2 cy v2) (Y := wl ad (.ref (ad 119)) cy N c_1) (w1 := fun (u : Nat → Nat → Int32) => wm ad2 cy u) hP hD hS hA (va_runV (As := []) (rest := []) ⟨hx, hb, hml, hown, hts⟩ (q_X8_back l dC dI cy _ ad2 v2 hq) (cwV 0 hts gL_law_X8_back rfl rfl rfl hd_V_X8_back_0 ⟨Nat.le_of_ble_eq_true rfl, Nat.le_of_ble_eq_true rfl⟩) (yl_preV hE hK hP hD (ci := 8) (q := (RX8, TX8, 11)) (q0 := 0) rfl (wm_at (by decide) rc_0)) rfl rfl hl.1 rfl (lv_room (Nat.le_of_ble_eq_true rfl)) dL_law_1053 hcs) (fun r_2 m_2 H locs hw_2 hP hD hS => ?_)
  have hP : va_P (dC, dI) vwCl (wl ad (.ref (ad 119)) cy N c_1 ++ wm ad2 cy m_2) H := hP
  have hD : va_D (fun q : Nat => s.heap.size ≤ q) (wl ad (.ref (ad 119)) cy N c_1 ++ wm ad2 cy m_2) := hD
  obtain ⟨hq, hpm⟩ := hw_2
  obtain ⟨hr1, hr2, hJ⟩ := S_back1 hq0 hJ hpc hpm
  subst hr1
  subst hr2
  refine lv_pop hx hb dL_law_1056 rfl ?_
  refine lv_goto (tgt := 1060) hx hb dL_law_1057 (by decide) ?_
  exact kk c_1 m_2 _ _ ls hv hq hJ hP hD hS hl
set_option maxRecDepth 20000 in
theorem db_L_law_18 : (decode cL_law 18 = .ok (.iload_n 3, 1)) ∧ (decode cL_law 19 = .ok (.aload_n 0, 1)) ∧ (decode cL_law 20 = .ok (.arraylength, 1)) ∧ (decode cL_law 21 = .ok (.bipush 7, 2)) ∧ (decode cL_law 23 = .ok (.isub, 1)) ∧ (decode cL_law 24 = .ok (.if_icmp .gt 1042, 3)) ∧ (decode cL_law 1066 = .ok (.iconst 1, 1)) ∧ (decode cL_law 1067 = .ok (.ireturn, 1)) := by decide +kernel
theorem dL_law_18 : decode cL_law 18 = .ok (.iload_n 3, 1) := db_L_law_18.1
theorem dL_law_19 : decode cL_law 19 = .ok (.aload_n 0, 1) := db_L_law_18.2.1
theorem dL_law_20 : decode cL_law 20 = .ok (.arraylength, 1) := db_L_law_18.2.2.1
theorem dL_law_21 : decode cL_law 21 = .ok (.bipush 7, 2) := db_L_law_18.2.2.2.1
theorem dL_law_23 : decode cL_law 23 = .ok (.isub, 1) := db_L_law_18.2.2.2.2.1
theorem dL_law_24 : decode cL_law 24 = .ok (.if_icmp .gt 1042, 3) := db_L_law_18.2.2.2.2.2.1
theorem dL_law_1066 : decode cL_law 1066 = .ok (.iconst 1, 1) := db_L_law_18.2.2.2.2.2.2.1
theorem dL_law_1067 : decode cL_law 1067 = .ok (.ireturn, 1) := db_L_law_18.2.2.2.2.2.2.2
set_option maxRecDepth 20000 in
theorem db_L_law_27 : (decode cL_law 27 = .ok (.aload_n 0, 1)) ∧ (decode cL_law 28 = .ok (.iload_n 3, 1)) ∧ (decode cL_law 29 = .ok (.iaload, 1)) ∧ (decode cL_law 30 = .ok (.bipush 31, 2)) ∧ (decode cL_law 32 = .ok (.iand, 1)) ∧ (decode cL_law 1060 = .ok (.iinc 3 7, 3)) ∧ (decode cL_law 1063 = .ok (.goto (-1045), 3)) ∧ (decode cL_law 33 = .ok (.tableswitch 1027 0 25 #[119, 152, 185, 244, 277, 300, 333, 366, 399, 442, 475, 544, 577, 600, 623, 636, 727, 750, 793, 826, 859, 892, 945, 978, 1001, 1014], 119)) := by decide +kernel
theorem dL_law_27 : decode cL_law 27 = .ok (.aload_n 0, 1) := db_L_law_27.1
theorem dL_law_28 : decode cL_law 28 = .ok (.iload_n 3, 1) := db_L_law_27.2.1
theorem dL_law_29 : decode cL_law 29 = .ok (.iaload, 1) := db_L_law_27.2.2.1
theorem dL_law_30 : decode cL_law 30 = .ok (.bipush 31, 2) := db_L_law_27.2.2.2.1
theorem dL_law_32 : decode cL_law 32 = .ok (.iand, 1) := db_L_law_27.2.2.2.2.1
theorem dL_law_1060 : decode cL_law 1060 = .ok (.iinc 3 7, 3) := db_L_law_27.2.2.2.2.2.1
theorem dL_law_1063 : decode cL_law 1063 = .ok (.goto (-1045), 3) := db_L_law_27.2.2.2.2.2.2.1
theorem dL_law_33 : decode cL_law 33 = .ok (.tableswitch 1027 0 25 #[119, 152, 185, 244, 277, 300, 333, 366, 399, 442, 475, 544, 577, 600, 623, 636, 727, 750, 793, 826, 859, 892, 945, 978, 1001, 1014], 119) := db_L_law_27.2.2.2.2.2.2.2
set_option maxHeartbeats 4000000 in
set_option maxRecDepth 100000 in
theorem law_k {p : Program} {l : Launch} {e : Env} {s : State} {m : MethodId} {below : List Frame} {meth : Method} {c : Code} {dC : Nat → ClassId} {dI : Nat → Nat → Nat} {cy : Nat → ClassId} {b L : Nat} {xs : Nat → Int32} (C0 : lw_At p s m meth c b L xs) {t1 t2 : Nat} (hSt : ex_St t1 t2 (fun q : Nat => s.heap.size ≤ q) s) (hE : ex_K s) (hK : va_K (dC, dI) vwCl (ty_L cy) s) (hL : L ≤ 3584) {ad ad2 : Nat → Nat} : ∀ (n : Nat) (v v2 : Nat → Nat → Int32) (i : Int32) (H : Heap) (locs : List Loc) (ls : Array Slot), Iv v → Ir v2 → RR3 1 v v2 → 0 ≤ i.toInt → i.toInt ≤ 3584 → (3584 - i.toInt).toNat < n → va_P (dC, dI) vwCl (wl ad (.ref (ad 119)) cy 225 v ++ wm ad2 cy v2) H → va_D (fun q : Nat => s.heap.size ≤ q) (wl ad (.ref (ad 119)) cy 225 v ++ wm ad2 cy v2) → va_S (fun q : Nat => s.heap.size ≤ q) s.heap H locs → lv_has ls 4 [(3, .int i), (2, .ref (ad2 0)), (1, .ref (ad 0)), (0, .ref b)] → W p l e room_1 s m #[Value.ref b] below meth c H locs 233 2677 (lw_Z below #[Value.ref b] s) (F0 m 18 ls []) := by
  intro n
  induction n with
  | zero =>
    intro v v2 i H locs ls hv hq hJ hi1 hi2 hm hP hD hS hl
    exact absurd hm (by omega)
  | succ n ih =>
    intro v v2 i H locs ls hv hq hJ hi1 hi2 hm hP hD hS hl
    obtain ⟨hx, hb, hr, hml, hown, hts0, hX, hbl, hlocks, hgv⟩ := id C0
    have hts : ∀ w ∈ wsL_law, w.before #[Value.ref b] s = true := fun w h => hts0 w (wsL_law_in w h)
    have hown : s.vm.findClass RL = some m.cls := hown
    have hA : ∀ q : Nat, s.heap.size ≤ q → (fun q : Nat => s.heap.size ≤ q) q := fun _ h => h
    have hbA : ¬ (fun q : Nat => s.heap.size ≤ q) b := Nat.not_le.mpr hbl
    refine lv_iload_n hx hb dL_law_18 rfl (lv_at hl 0 rfl) ?_
    refine lv_aload_n hx hb dL_law_19 rfl (lv_at hl 3 rfl) ?_
    refine va_slen hx hb hX hbl hbA hS dL_law_20 ?_
    refine lv_bipush (v := 7) hx hb dL_law_21 (by decide) ?_
    refine lv_isub hx hb dL_law_23 ?_
    refine lv_topi (fun x9 ex9 => ?_)
    have k7 : (7 : Int32).toInt = 7 := by decide
    have eL : (Int32.ofNat L).toInt = (L : Int) := Int32.toInt_ofNat_of_lt (by omega)
    have t9 : x9.toInt = (L : Int) - 7 := by rw [ex9, t_sub (by rw [eL, k7]; omega), eL, k7]
    refine lv_icmp_gt (tgt := 1066) hx hb dL_law_24 (by decide) (fun _ => ?_) (fun c9 => ?_)
    · refine lv_iconst (v := 1) hx hb dL_law_1066 (by decide) ?_
      refine va_forget (fun q hq => hS.2.2 q hq) ?_
      refine W.widen (k := 656374) (n := 7133126) (Nat.le_of_ble_eq_true rfl) (Nat.le_of_ble_eq_true rfl) ?_
      exact lw_ret hx hb hr hlocks dL_law_1067
    · have tc := Int32.le_iff_toInt_le.mp (Int32.not_lt.mp c9)
      have hi : 0 ≤ i.toInt ∧ i.toInt + 7 ≤ (L : Int) := ⟨hi1, by omega⟩
      refine lv_aload_n hx hb dL_law_27 rfl (lv_at hl 3 rfl) ?_
      refine lv_iload_n hx hb dL_law_28 rfl (lv_at hl 0 rfl) ?_
      refine va_sld hx hb hX hbl hbA hS (vp_in_iff.mpr ⟨by omega, by omega⟩) dL_law_29 ?_
      refine lv_topi (fun x3 ex3 => ?_)
      refine lv_bipush (v := 31) hx hb dL_law_30 (by decide) ?_
      refine lv_iand hx hb dL_law_32 ?_
      refine lv_topi (fun x4 ex4 => ?_)
      obtain ⟨y, ey⟩ : ∃ y : Int32, y = i + 7 := ⟨_, rfl⟩
      have ty : y.toInt = i.toInt + 7 := by rw [ey, t_add (by rw [k7]; omega), k7]
      have kk : ∀ (v1 v3 : Nat → Nat → Int32) (H1 : Heap) (locs1 : List Loc) (ls1 : Array Slot), Iv v1 → Ir v3 → RR3 1 v1 v3 → va_P (dC, dI) vwCl (wl ad (.ref (ad 119)) cy 225 v1 ++ wm ad2 cy v3) H1 → va_D (fun q : Nat => s.heap.size ≤ q) (wl ad (.ref (ad 119)) cy 225 v1 ++ wm ad2 cy v3) → va_S (fun q : Nat => s.heap.size ≤ q) s.heap H1 locs1 → lv_has ls1 4 [(3, .int i), (2, .ref (ad2 0)), (1, .ref (ad 0)), (0, .ref b)] → W p l e room_1 s m #[Value.ref b] below meth c H1 locs1 233 2677 (lw_Z below #[Value.ref b] s) (F0 m 1060 ls1 []) := by
        intro v1 v3 H1 locs1 ls1 hv1 hq1 hJ1 hP1 hD1 hS1 hl1
        refine lv_iinc (v := y) (lv' := [(3, .int y), (2, .ref (ad2 0)), (1, .ref (ad 0)), (0, .ref b)]) hx hb dL_law_1060 hl1 (k := 0) rfl (by rw [ey]; rfl) (by decide) rfl (fun ls hl => ?_)
        refine lv_goto (tgt := 18) hx hb dL_law_1063 (by decide) ?_
        exact ih v1 v3 y _ _ ls hv1 hq1 hJ1 (by omega) (by omega) (by omega) hP1 hD1 hS1 hl
      have hcs : 233 ≤ room_1.cells ∧ 2677 ≤ room_1.slots := by decide
      rcases sw_26 x4 with hsw | rfl | rfl | rfl | rfl | rfl | rfl | rfl | rfl | rfl | rfl | rfl | rfl | rfl | rfl | rfl | rfl | rfl | rfl | rfl | rfl | rfl | rfl | rfl | rfl | rfl | rfl
      · refine lv_tableOut (tgt := 1060) hx hb dL_law_33 hsw (by decide) ?_
        exact kk v v2 H locs ls hv hq hJ hP hD hS hl
      · refine lv_tableIn (off := 119) (tgt := 152) hx hb dL_law_33 (by decide) (by decide) (by decide) (by decide) ?_
        exact lc_0 C0 hSt hE hK hL (by decide) hv hq hJ hi hcs hP hD hS ls hl kk
      · refine lv_tableIn (off := 152) (tgt := 185) hx hb dL_law_33 (by decide) (by decide) (by decide) (by decide) ?_
        exact lc_1 C0 hSt hE hK hL (by decide) hv hq hJ hi hcs hP hD hS ls hl kk
      · refine lv_tableIn (off := 185) (tgt := 218) hx hb dL_law_33 (by decide) (by decide) (by decide) (by decide) ?_
        exact lc_2 C0 hSt hE hK hL (by decide) hv hq hJ hi hcs hP hD hS ls hl kk
      · refine lv_tableIn (off := 244) (tgt := 277) hx hb dL_law_33 (by decide) (by decide) (by decide) (by decide) ?_
        exact lc_3 C0 hSt hE hK hL (by decide) hv hq hJ hi hcs hP hD hS ls hl kk
      · refine lv_tableIn (off := 277) (tgt := 310) hx hb dL_law_33 (by decide) (by decide) (by decide) (by decide) ?_
        exact lc_4 C0 hSt hE hK hL (by decide) hv hq hJ hi hcs hP hD hS ls hl kk
      · refine lv_tableIn (off := 300) (tgt := 333) hx hb dL_law_33 (by decide) (by decide) (by decide) (by decide) ?_
        exact lc_5 C0 hSt hE hK hL (by decide) hv hq hJ hi hcs hP hD hS ls hl kk
      · refine lv_tableIn (off := 333) (tgt := 366) hx hb dL_law_33 (by decide) (by decide) (by decide) (by decide) ?_
        exact lc_6 C0 hSt hE hK hL (by decide) hv hq hJ hi hcs hP hD hS ls hl kk
      · refine lv_tableIn (off := 366) (tgt := 399) hx hb dL_law_33 (by decide) (by decide) (by decide) (by decide) ?_
        exact lc_7 C0 hSt hE hK hL (by decide) hv hq hJ hi hcs hP hD hS ls hl kk
      · refine lv_tableIn (off := 399) (tgt := 432) hx hb dL_law_33 (by decide) (by decide) (by decide) (by decide) ?_
        exact lc_8 C0 hSt hE hK hL (by decide) hv hq hJ hi hcs hP hD hS ls hl kk
      · refine lv_tableIn (off := 442) (tgt := 475) hx hb dL_law_33 (by decide) (by decide) (by decide) (by decide) ?_
        exact lc_9 C0 hSt hE hK hL (by decide) hv hq hJ hi hcs hP hD hS ls hl kk
      · refine lv_tableIn (off := 475) (tgt := 508) hx hb dL_law_33 (by decide) (by decide) (by decide) (by decide) ?_
        exact lc_10 C0 hSt hE hK hL (by decide) hv hq hJ hi hcs hP hD hS ls hl kk
      · refine lv_tableIn (off := 544) (tgt := 577) hx hb dL_law_33 (by decide) (by decide) (by decide) (by decide) ?_
        exact lc_11 C0 hSt hE hK hL (by decide) hv hq hJ hi hcs hP hD hS ls hl kk
      · refine lv_tableIn (off := 577) (tgt := 610) hx hb dL_law_33 (by decide) (by decide) (by decide) (by decide) ?_
        exact lc_12 C0 hSt hE hK hL (by decide) hv hq hJ hi hcs hP hD hS ls hl kk
      · refine lv_tableIn (off := 600) (tgt := 633) hx hb dL_law_33 (by decide) (by decide) (by decide) (by decide) ?_
        exact lc_13 C0 hSt hE hK hL (by decide) hv hq hJ hi hcs hP hD hS ls hl kk
      · refine lv_tableIn (off := 623) (tgt := 656) hx hb dL_law_33 (by decide) (by decide) (by decide) (by decide) ?_
        exact lc_14 C0 hSt hE hK hL (by decide) hv hq hJ hi hcs hP hD hS ls hl kk
      · refine lv_tableIn (off := 636) (tgt := 669) hx hb dL_law_33 (by decide) (by decide) (by decide) (by decide) ?_
        exact lc_15 C0 hSt hE hK hL (by decide) hv hq hJ hi hcs hP hD hS ls hl kk
      · refine lv_tableIn (off := 727) (tgt := 760) hx hb dL_law_33 (by decide) (by decide) (by decide) (by decide) ?_
        exact lc_16 C0 hSt hE hK hL (by decide) hv hq hJ hi hcs hP hD hS ls hl kk
      · refine lv_tableIn (off := 750) (tgt := 783) hx hb dL_law_33 (by decide) (by decide) (by decide) (by decide) ?_
        exact lc_17 C0 hSt hE hK hL (by decide) hv hq hJ hi hcs hP hD hS ls hl kk
      · refine lv_tableIn (off := 793) (tgt := 826) hx hb dL_law_33 (by decide) (by decide) (by decide) (by decide) ?_
        exact lc_18 C0 hSt hE hK hL (by decide) hv hq hJ hi hcs hP hD hS ls hl kk
      · refine lv_tableIn (off := 826) (tgt := 859) hx hb dL_law_33 (by decide) (by decide) (by decide) (by decide) ?_
        exact lc_19 C0 hSt hE hK hL (by decide) hv hq hJ hi hcs hP hD hS ls hl kk
      · refine lv_tableIn (off := 859) (tgt := 892) hx hb dL_law_33 (by decide) (by decide) (by decide) (by decide) ?_
        exact lc_20 C0 hSt hE hK hL (by decide) hv hq hJ hi hcs hP hD hS ls hl kk
      · refine lv_tableIn (off := 892) (tgt := 925) hx hb dL_law_33 (by decide) (by decide) (by decide) (by decide) ?_
        exact lc_21 C0 hSt hE hK hL (by decide) hv hq hJ hi hcs hP hD hS ls hl kk
      · refine lv_tableIn (off := 945) (tgt := 978) hx hb dL_law_33 (by decide) (by decide) (by decide) (by decide) ?_
        exact lc_22 C0 hSt hE hK hL (by decide) hv hq hJ hi hcs hP hD hS ls hl kk
      · refine lv_tableIn (off := 978) (tgt := 1011) hx hb dL_law_33 (by decide) (by decide) (by decide) (by decide) ?_
        exact lc_23 C0 hSt hE hK hL (by decide) hv hq hJ hi hcs hP hD hS ls hl kk
      · refine lv_tableIn (off := 1001) (tgt := 1034) hx hb dL_law_33 (by decide) (by decide) (by decide) (by decide) ?_
        exact lc_24k C0 hSt hE hK hL (by decide) (by decide) hv hq hJ hi hcs hP hD hS ls hl kk
      · refine lv_tableIn (off := 1014) (tgt := 1047) hx hb dL_law_33 (by decide) (by decide) (by decide) (by decide) ?_
        exact lc_25k C0 hSt hE hK hL (by decide) (by decide) hv hq hJ hi hcs hP hD hS ls hl kk

set_option maxHeartbeats 4000000 in
set_option maxRecDepth 100000 in
theorem law_n {p : Program} {l : Launch} {e : Env} {s : State} {m : MethodId} {below : List Frame} {meth : Method} {c : Code} {dC : Nat → ClassId} {dI : Nat → Nat → Nat} {cy : Nat → ClassId} {b L : Nat} {xs : Nat → Int32} (C0 : lw_At p s m meth c b L xs) {t1 t2 : Nat} (hSt : ex_St t1 t2 (fun q : Nat => s.heap.size ≤ q) s) (hE : ex_K s) (hK : va_K (dC, dI) vwCl (ty_L cy) s) (hL : L ≤ 3584) {ad ad2 : Nat → Nat} : ∀ (n : Nat) (v v2 : Nat → Nat → Int32) (i : Int32) (H : Heap) (locs : List Loc) (ls : Array Slot), Iv v → Ir v2 → RR3 0 v v2 → 0 ≤ i.toInt → i.toInt ≤ 3584 → (3584 - i.toInt).toNat < n → va_P (dC, dI) vwCl (wl ad .null cy 119 v ++ wm ad2 cy v2) H → va_D (fun q : Nat => s.heap.size ≤ q) (wl ad .null cy 119 v ++ wm ad2 cy v2) → va_S (fun q : Nat => s.heap.size ≤ q) s.heap H locs → lv_has ls 4 [(3, .int i), (2, .ref (ad2 0)), (1, .ref (ad 0)), (0, .ref b)] → W p l e room_1 s m #[Value.ref b] below meth c H locs 127 1982 (lw_Z below #[Value.ref b] s) (F0 m 18 ls []) := by
  intro n
  induction n with
  | zero =>
    intro v v2 i H locs ls hv hq hJ hi1 hi2 hm hP hD hS hl
    exact absurd hm (by omega)
  | succ n ih =>
    intro v v2 i H locs ls hv hq hJ hi1 hi2 hm hP hD hS hl
    obtain ⟨hx, hb, hr, hml, hown, hts0, hX, hbl, hlocks, hgv⟩ := id C0
    have hts : ∀ w ∈ wsL_law, w.before #[Value.ref b] s = true := fun w h => hts0 w (wsL_law_in w h)
    have hown : s.vm.findClass RL = some m.cls := hown
    have hA : ∀ q : Nat, s.heap.size ≤ q → (fun q : Nat => s.heap.size ≤ q) q := fun _ h => h
    have hbA : ¬ (fun q : Nat => s.heap.size ≤ q) b := Nat.not_le.mpr hbl
    refine lv_iload_n hx hb dL_law_18 rfl (lv_at hl 0 rfl) ?_
    refine lv_aload_n hx hb dL_law_19 rfl (lv_at hl 3 rfl) ?_
    refine va_slen hx hb hX hbl hbA hS dL_law_20 ?_
    refine lv_bipush (v := 7) hx hb dL_law_21 (by decide) ?_
    refine lv_isub hx hb dL_law_23 ?_
    refine lv_topi (fun x9 ex9 => ?_)
    have k7 : (7 : Int32).toInt = 7 := by decide
    have eL : (Int32.ofNat L).toInt = (L : Int) := Int32.toInt_ofNat_of_lt (by omega)
    have t9 : x9.toInt = (L : Int) - 7 := by rw [ex9, t_sub (by rw [eL, k7]; omega), eL, k7]
    refine lv_icmp_gt (tgt := 1066) hx hb dL_law_24 (by decide) (fun _ => ?_) (fun c9 => ?_)
    · refine lv_iconst (v := 1) hx hb dL_law_1066 (by decide) ?_
      refine va_forget (fun q hq => hS.2.2 q hq) ?_
      refine W.widen (k := 656374) (n := 7133126) (Nat.le_of_ble_eq_true rfl) (Nat.le_of_ble_eq_true rfl) ?_
      exact lw_ret hx hb hr hlocks dL_law_1067
    · have tc := Int32.le_iff_toInt_le.mp (Int32.not_lt.mp c9)
      have hi : 0 ≤ i.toInt ∧ i.toInt + 7 ≤ (L : Int) := ⟨hi1, by omega⟩
      refine lv_aload_n hx hb dL_law_27 rfl (lv_at hl 3 rfl) ?_
      refine lv_iload_n hx hb dL_law_28 rfl (lv_at hl 0 rfl) ?_
      refine va_sld hx hb hX hbl hbA hS (vp_in_iff.mpr ⟨by omega, by omega⟩) dL_law_29 ?_
      refine lv_topi (fun x3 ex3 => ?_)
      refine lv_bipush (v := 31) hx hb dL_law_30 (by decide) ?_
      refine lv_iand hx hb dL_law_32 ?_
      refine lv_topi (fun x4 ex4 => ?_)
      obtain ⟨y, ey⟩ : ∃ y : Int32, y = i + 7 := ⟨_, rfl⟩
      have ty : y.toInt = i.toInt + 7 := by rw [ey, t_add (by rw [k7]; omega), k7]
      have kk : ∀ (v1 v3 : Nat → Nat → Int32) (H1 : Heap) (locs1 : List Loc) (ls1 : Array Slot), Iv v1 → Ir v3 → RR3 0 v1 v3 → va_P (dC, dI) vwCl (wl ad .null cy 119 v1 ++ wm ad2 cy v3) H1 → va_D (fun q : Nat => s.heap.size ≤ q) (wl ad .null cy 119 v1 ++ wm ad2 cy v3) → va_S (fun q : Nat => s.heap.size ≤ q) s.heap H1 locs1 → lv_has ls1 4 [(3, .int i), (2, .ref (ad2 0)), (1, .ref (ad 0)), (0, .ref b)] → W p l e room_1 s m #[Value.ref b] below meth c H1 locs1 127 1982 (lw_Z below #[Value.ref b] s) (F0 m 1060 ls1 []) := by
        intro v1 v3 H1 locs1 ls1 hv1 hq1 hJ1 hP1 hD1 hS1 hl1
        refine lv_iinc (v := y) (lv' := [(3, .int y), (2, .ref (ad2 0)), (1, .ref (ad 0)), (0, .ref b)]) hx hb dL_law_1060 hl1 (k := 0) rfl (by rw [ey]; rfl) (by decide) rfl (fun ls hl => ?_)
        refine lv_goto (tgt := 18) hx hb dL_law_1063 (by decide) ?_
        exact ih v1 v3 y _ _ ls hv1 hq1 hJ1 (by omega) (by omega) (by omega) hP1 hD1 hS1 hl
      have kk3 : ∀ (ad3 : Nat → Nat) (v1 v3 : Nat → Nat → Int32) (H1 : Heap) (locs1 : List Loc) (ls1 : Array Slot), Iv v1 → Ir v3 → RR3 1 v1 v3 → va_P (dC, dI) vwCl (wl ad3 (.ref (ad3 119)) cy 225 v1 ++ wm ad2 cy v3) H1 → va_D (fun q : Nat => s.heap.size ≤ q) (wl ad3 (.ref (ad3 119)) cy 225 v1 ++ wm ad2 cy v3) → va_S (fun q : Nat => s.heap.size ≤ q) s.heap H1 locs1 → lv_has ls1 4 [(3, .int i), (2, .ref (ad2 0)), (1, .ref (ad3 0)), (0, .ref b)] → W p l e room_1 s m #[Value.ref b] below meth c H1 locs1 233 2677 (lw_Z below #[Value.ref b] s) (F0 m 1060 ls1 []) := by
        intro ad3 v1 v3 H1 locs1 ls1 hv1 hq1 hJ1 hP1 hD1 hS1 hl1
        refine lv_iinc (v := y) (lv' := [(3, .int y), (2, .ref (ad2 0)), (1, .ref (ad3 0)), (0, .ref b)]) hx hb dL_law_1060 hl1 (k := 0) rfl (by rw [ey]; rfl) (by decide) rfl (fun ls hl => ?_)
        refine lv_goto (tgt := 18) hx hb dL_law_1063 (by decide) ?_
        exact law_k C0 hSt hE hK hL (ad := ad3) (3584 + 1) v1 v3 y _ _ ls hv1 hq1 hJ1 (by omega) (by omega) (by omega) hP1 hD1 hS1 hl
      have hcs : 127 ≤ room_1.cells ∧ 1982 ≤ room_1.slots := by decide
      rcases sw_26 x4 with hsw | rfl | rfl | rfl | rfl | rfl | rfl | rfl | rfl | rfl | rfl | rfl | rfl | rfl | rfl | rfl | rfl | rfl | rfl | rfl | rfl | rfl | rfl | rfl | rfl | rfl | rfl
      · refine lv_tableOut (tgt := 1060) hx hb dL_law_33 hsw (by decide) ?_
        exact kk v v2 H locs ls hv hq hJ hP hD hS hl
      · refine lv_tableIn (off := 119) (tgt := 152) hx hb dL_law_33 (by decide) (by decide) (by decide) (by decide) ?_
        exact lc_0 C0 hSt hE hK hL (by decide) hv hq hJ hi hcs hP hD hS ls hl kk
      · refine lv_tableIn (off := 152) (tgt := 185) hx hb dL_law_33 (by decide) (by decide) (by decide) (by decide) ?_
        exact lc_1 C0 hSt hE hK hL (by decide) hv hq hJ hi hcs hP hD hS ls hl kk
      · refine lv_tableIn (off := 185) (tgt := 218) hx hb dL_law_33 (by decide) (by decide) (by decide) (by decide) ?_
        exact lc_2 C0 hSt hE hK hL (by decide) hv hq hJ hi hcs hP hD hS ls hl kk
      · refine lv_tableIn (off := 244) (tgt := 277) hx hb dL_law_33 (by decide) (by decide) (by decide) (by decide) ?_
        exact lc_3 C0 hSt hE hK hL (by decide) hv hq hJ hi hcs hP hD hS ls hl kk
      · refine lv_tableIn (off := 277) (tgt := 310) hx hb dL_law_33 (by decide) (by decide) (by decide) (by decide) ?_
        exact lc_4 C0 hSt hE hK hL (by decide) hv hq hJ hi hcs hP hD hS ls hl kk
      · refine lv_tableIn (off := 300) (tgt := 333) hx hb dL_law_33 (by decide) (by decide) (by decide) (by decide) ?_
        exact lc_5 C0 hSt hE hK hL (by decide) hv hq hJ hi hcs hP hD hS ls hl kk
      · refine lv_tableIn (off := 333) (tgt := 366) hx hb dL_law_33 (by decide) (by decide) (by decide) (by decide) ?_
        exact lc_6 C0 hSt hE hK hL (by decide) hv hq hJ hi hcs hP hD hS ls hl kk
      · refine lv_tableIn (off := 366) (tgt := 399) hx hb dL_law_33 (by decide) (by decide) (by decide) (by decide) ?_
        exact lc_7 C0 hSt hE hK hL (by decide) hv hq hJ hi hcs hP hD hS ls hl kk
      · refine lv_tableIn (off := 399) (tgt := 432) hx hb dL_law_33 (by decide) (by decide) (by decide) (by decide) ?_
        exact lc_8 C0 hSt hE hK hL (by decide) hv hq hJ hi hcs hP hD hS ls hl kk
      · refine lv_tableIn (off := 442) (tgt := 475) hx hb dL_law_33 (by decide) (by decide) (by decide) (by decide) ?_
        exact lc_9 C0 hSt hE hK hL (by decide) hv hq hJ hi hcs hP hD hS ls hl kk
      · refine lv_tableIn (off := 475) (tgt := 508) hx hb dL_law_33 (by decide) (by decide) (by decide) (by decide) ?_
        exact lc_10 C0 hSt hE hK hL (by decide) hv hq hJ hi hcs hP hD hS ls hl kk
      · refine lv_tableIn (off := 544) (tgt := 577) hx hb dL_law_33 (by decide) (by decide) (by decide) (by decide) ?_
        exact lc_11 C0 hSt hE hK hL (by decide) hv hq hJ hi hcs hP hD hS ls hl kk
      · refine lv_tableIn (off := 577) (tgt := 610) hx hb dL_law_33 (by decide) (by decide) (by decide) (by decide) ?_
        exact lc_12 C0 hSt hE hK hL (by decide) hv hq hJ hi hcs hP hD hS ls hl kk
      · refine lv_tableIn (off := 600) (tgt := 633) hx hb dL_law_33 (by decide) (by decide) (by decide) (by decide) ?_
        exact lc_13 C0 hSt hE hK hL (by decide) hv hq hJ hi hcs hP hD hS ls hl kk
      · refine lv_tableIn (off := 623) (tgt := 656) hx hb dL_law_33 (by decide) (by decide) (by decide) (by decide) ?_
        exact lc_14 C0 hSt hE hK hL (by decide) hv hq hJ hi hcs hP hD hS ls hl kk
      · refine lv_tableIn (off := 636) (tgt := 669) hx hb dL_law_33 (by decide) (by decide) (by decide) (by decide) ?_
        exact lc_15 C0 hSt hE hK hL (by decide) hv hq hJ hi hcs hP hD hS ls hl kk
      · refine lv_tableIn (off := 727) (tgt := 760) hx hb dL_law_33 (by decide) (by decide) (by decide) (by decide) ?_
        exact lc_16 C0 hSt hE hK hL (by decide) hv hq hJ hi hcs hP hD hS ls hl kk
      · refine lv_tableIn (off := 750) (tgt := 783) hx hb dL_law_33 (by decide) (by decide) (by decide) (by decide) ?_
        exact lc_17 C0 hSt hE hK hL (by decide) hv hq hJ hi hcs hP hD hS ls hl kk
      · refine lv_tableIn (off := 793) (tgt := 826) hx hb dL_law_33 (by decide) (by decide) (by decide) (by decide) ?_
        exact lc_18 C0 hSt hE hK hL (by decide) hv hq hJ hi hcs hP hD hS ls hl kk
      · refine lv_tableIn (off := 826) (tgt := 859) hx hb dL_law_33 (by decide) (by decide) (by decide) (by decide) ?_
        exact lc_19 C0 hSt hE hK hL (by decide) hv hq hJ hi hcs hP hD hS ls hl kk
      · refine lv_tableIn (off := 859) (tgt := 892) hx hb dL_law_33 (by decide) (by decide) (by decide) (by decide) ?_
        exact lc_20 C0 hSt hE hK hL (by decide) hv hq hJ hi hcs hP hD hS ls hl kk
      · refine lv_tableIn (off := 892) (tgt := 925) hx hb dL_law_33 (by decide) (by decide) (by decide) (by decide) ?_
        exact lc_21 C0 hSt hE hK hL (by decide) hv hq hJ hi hcs hP hD hS ls hl kk
      · refine lv_tableIn (off := 945) (tgt := 978) hx hb dL_law_33 (by decide) (by decide) (by decide) (by decide) ?_
        exact lc_22 C0 hSt hE hK hL (by decide) hv hq hJ hi hcs hP hD hS ls hl kk
      · refine lv_tableIn (off := 978) (tgt := 1011) hx hb dL_law_33 (by decide) (by decide) (by decide) (by decide) ?_
        exact lc_23 C0 hSt hE hK hL (by decide) hv hq hJ hi hcs hP hD hS ls hl kk
      · refine lv_tableIn (off := 1001) (tgt := 1034) hx hb dL_law_33 (by decide) (by decide) (by decide) (by decide) ?_
        exact lc_24n C0 hSt hE hK hL (by decide) hv hq hJ hi hcs (by decide) hP hD hS ls hl kk3
      · refine lv_tableIn (off := 1014) (tgt := 1047) hx hb dL_law_33 (by decide) (by decide) (by decide) (by decide) ?_
        exact lc_25n C0 hSt hE hK hL (by decide) hv hq hJ hi hcs hP hD hS ls hl kk
set_option maxRecDepth 20000 in
theorem db_L_law_0 : (decode cL_law 0 = .ok (.new 7, 3)) ∧ (decode cL_law 3 = .ok (.dup, 1)) ∧ (decode cL_law 4 = .ok (.invokespecial 9, 3)) ∧ (decode cL_law 7 = .ok (.astore_n 1, 1)) ∧ (decode cL_law 8 = .ok (.new 10, 3)) ∧ (decode cL_law 11 = .ok (.dup, 1)) ∧ (decode cL_law 12 = .ok (.invokespecial 12, 3)) ∧ (decode cL_law 15 = .ok (.astore_n 2, 1)) := by decide +kernel
theorem dL_law_0 : decode cL_law 0 = .ok (.new 7, 3) := db_L_law_0.1
theorem dL_law_3 : decode cL_law 3 = .ok (.dup, 1) := db_L_law_0.2.1
set_option maxRecDepth 20000 in
theorem ggL_law_X7_init : GoodIn wsL_law wsX7_init := goodIn_ch _ [(0, 8), (0, 9), (0, 10), (0, 11), (0, 12), (0, 13), (0, 14), (0, 15), (0, 16), (0, 17), (0, 18), (0, 19), (0, 20), (0, 21), (0, 22), (0, 23), (1, 0), (1, 1), (1, 2), (1, 3), (1, 4), (1, 5), (1, 6), (1, 7), (1, 8), (1, 9), (1, 10), (1, 11), (1, 12), (1, 13), (1, 14), (1, 15), (1, 16), (1, 17), (1, 18), (1, 19), (1, 20), (1, 21), (1, 22), (1, 23), (2, 0), (2, 1), (2, 2), (2, 3), (2, 4), (2, 5), (2, 6), (2, 7), (2, 8), (2, 9), (2, 10), (2, 11), (2, 12), (2, 13), (2, 14), (2, 15), (2, 16), (2, 17), (2, 18), (2, 19), (2, 20), (2, 21), (2, 22), (2, 23), (3, 0), (3, 1), (3, 2), (3, 3), (3, 4), (3, 5), (3, 6), (3, 7), (3, 8), (31, 0), (31, 1), (31, 2), (31, 3), (31, 4), (31, 5), (31, 6), (29, 0), (29, 1), (29, 2), (29, 3), (29, 4), (32, 0), (32, 1), (32, 2), (32, 3), (32, 4), (32, 5), (32, 6), (32, 7), (32, 8), (32, 9), (32, 10), (33, 0), (33, 1), (33, 2), (34, 0), (34, 1), (35, 0), (35, 1), (35, 2), (36, 0), (36, 1), (36, 2), (36, 3), (36, 4), (36, 5), (36, 6), (36, 7), (36, 8), (36, 9), (36, 10), (37, 0), (37, 1), (37, 2), (37, 3), (37, 4)] rfl (by decide +kernel)
set_option maxRecDepth 20000 in
theorem gL_law_X7_init : GoodIn wsL_law (wsX7_init) := ggL_law_X7_init
theorem dL_law_4 : decode cL_law 4 = .ok (.invokespecial 9, 3) := db_L_law_0.2.2.1
theorem dL_law_7 : decode cL_law 7 = .ok (.astore_n 1, 1) := db_L_law_0.2.2.2.1
theorem dL_law_8 : decode cL_law 8 = .ok (.new 10, 3) := db_L_law_0.2.2.2.2.1
theorem dL_law_11 : decode cL_law 11 = .ok (.dup, 1) := db_L_law_0.2.2.2.2.2.1
set_option maxRecDepth 20000 in
theorem ggL_law_X8_init : GoodIn wsL_law wsX8_init := goodIn_ch _ [(3, 11), (3, 12), (0, 10), (0, 11), (2, 4), (3, 13), (3, 14), (3, 15), (3, 16), (3, 17), (3, 18), (3, 19), (3, 20), (30, 0), (30, 1), (30, 2), (30, 3), (30, 4), (30, 5), (30, 6), (30, 7), (30, 8), (30, 9), (30, 10)] rfl (by decide +kernel)
set_option maxRecDepth 20000 in
theorem gL_law_X8_init : GoodIn wsL_law (wsX8_init) := ggL_law_X8_init
theorem dL_law_12 : decode cL_law 12 = .ok (.invokespecial 12, 3) := db_L_law_0.2.2.2.2.2.2.1
theorem dL_law_15 : decode cL_law 15 = .ok (.astore_n 2, 1) := db_L_law_0.2.2.2.2.2.2.2
set_option maxRecDepth 20000 in
theorem db_L_law_16 : (decode cL_law 16 = .ok (.iconst 0, 1)) ∧ (decode cL_law 17 = .ok (.istore_n 3, 1)) := by decide +kernel
theorem dL_law_16 : decode cL_law 16 = .ok (.iconst 0, 1) := db_L_law_16.1
theorem dL_law_17 : decode cL_law 17 = .ok (.istore_n 3, 1) := db_L_law_16.2
set_option maxHeartbeats 4000000 in
set_option maxRecDepth 100000 in
theorem whole_start {p : Program} {e : Env} {s : State} {m : MethodId} {below : List Frame} {meth : Method} {c : Code} (l : Launch) {b L : Nat} {xs : Nat → Int32} (hL : L ≤ 3584) (C0 : lw_At p s m meth c b L xs) : W p l e room_1 s m #[Value.ref b] below meth c s.heap [] 0 0 (lw_Z below #[Value.ref b] s) (entryFrame m ([Value.ref b] : List Value).toArray 4) := by
  obtain ⟨hx, hb, hr, hml, hown, hts0, hX, hbl, hlocks, hgv⟩ := id C0
  have hts : ∀ w ∈ wsL_law, w.before #[Value.ref b] s = true := fun w h => hts0 w (wsL_law_in w h)
  have hown : s.vm.findClass RL = some m.cls := hown
  have hA : ∀ q : Nat, s.heap.size ≤ q → (fun q : Nat => s.heap.size ≤ q) q := fun _ h => h
  have hbA : ¬ (fun q : Nat => s.heap.size ≤ q) b := Nat.not_le.mpr hbl
  have hE : ex_K s := tb_ex hts0
  obtain ⟨dC, dI, cy, hK⟩ := tb_K hts0
  obtain ⟨t1, hS1, hS2⟩ := tb_st_o hts0 hgv
  obtain ⟨t2, hS3, hS4⟩ := tb_st_l hts0 hgv
  have hSt : ex_St t1 t2 (fun q : Nat => s.heap.size ≤ q) s := ⟨⟨hS1, hS2⟩, hS3, hS4⟩
  have hS : va_S (fun q : Nat => s.heap.size ≤ q) s.heap s.heap [] := va_S.rf
  have hP : va_P (dC, dI) vwCl [] s.heap := fun k q h => by simp at h
  have hD : va_D (fun q : Nat => s.heap.size ≤ q) [] := ⟨fun i j p q h => by simp at h, fun k q h => by simp at h⟩
  have hl := lv_entry ([.ref b]) (n := 4) (Nat.le_of_ble_eq_true rfl)
  rw [lg_entry_eq]
  generalize (lg_sl ([.ref b]) ++ List.replicate (4 - (lg_sl ([.ref b])).length) Slot.unset).toArray = ls at hl ⊢
  have hl : lv_has ls 4 [(0, .ref b)] := hl
  refine va_new (ci := 7) (fs := [.null, .null, .null, .null, .int 0]) (C := RX7) (T := TX7) (N := 5) hx hb hts inlX7 tyX7 tyX7_ok hown (hts (.classLink RL 7 RX7) (by decide +kernel)) (hts (.instantiable RX7 5) (by decide +kernel)) (hts (.initialized RX7) (by decide +kernel)) hK hP hD hS hA rfl (fun j hj => by rcases (show j = 0 ∨ j = 1 ∨ j = 2 ∨ j = 3 ∨ j = 4 by omega) with rfl | rfl | rfl | rfl | rfl <;> rfl) (Nat.le_of_ble_eq_true rfl) (Nat.le_of_ble_eq_true rfl) dL_law_0 (fun h0 H hP hD hS => ?_)
  have hP : va_P (dC, dI) vwCl [(h0, .inr (7, [.null, .null, .null, .null, .int 0]))] H := hP
  have hD : va_D (fun q : Nat => s.heap.size ≤ q) [(h0, .inr (7, [.null, .null, .null, .null, .int 0]))] := hD
  refine W.widen (k := 1) (n := 5) (by omega) (by omega) ?_
  refine lv_dup hx hb dL_law_3 rfl ?_
  refine yt_v (X := []) (x := (h0, .inr (7, [.null, .null, .null, .null, .int 0]))) (w1 := fun (u : (Nat → Nat) × Nat × Nat × Nat × (Nat × Nat × Nat × Nat × Nat × Nat × Nat × Nat) × (Nat × Nat)) => [(h0, .inr (7, [.ref u.2.1, .ref u.2.2.1, .ref u.2.2.2.1, .null, .int 1]))] ++ wH cy u.1 ++ [(u.2.2.1, .inr (4, [.int 0, .int 0, .int 0, .ref u.2.2.2.2.1.1, .ref u.2.2.2.2.1.2.1, .ref u.2.2.2.2.1.2.2.1, .ref u.2.2.2.2.1.2.2.2.1, .ref u.2.2.2.2.1.2.2.2.2.1, .ref u.2.2.2.2.1.2.2.2.2.2.1, .ref u.2.2.2.2.1.2.2.2.2.2.2.1, .ref u.2.2.2.2.1.2.2.2.2.2.2.2])), (u.2.2.2.2.1.1, .inl (cy 0, 4, .inl (fun _ => 0))), (u.2.2.2.2.1.2.1, .inl (cy 0, 4, .inl (fun _ => 0))), (u.2.2.2.2.1.2.2.1, .inl (cy 0, 4, .inl (fun _ => 0))), (u.2.2.2.2.1.2.2.2.1, .inl (cy 0, 4, .inl (fun _ => 0))), (u.2.2.2.2.1.2.2.2.2.1, .inl (cy 0, 4, .inl (fun _ => 0))), (u.2.2.2.2.1.2.2.2.2.2.1, .inl (cy 0, 4, .inl (fun _ => 0))), (u.2.2.2.2.1.2.2.2.2.2.2.1, .inl (cy 0, 3, .inl (fun _ => 0))), (u.2.2.2.2.1.2.2.2.2.2.2.2, .inl (cy 0, 3, .inl (fun _ => 0)))] ++ [(u.2.2.2.1, .inr (5, [.int 0, .ref u.2.2.2.2.2.1, .ref u.2.2.2.2.2.2])), (u.2.2.2.2.2.1, .inl (cy 0, 5, .inl (fun _ => 0))), (u.2.2.2.2.2.2, .inl (cy 0, 5, .inl (fun _ => 0)))]) hP hD hS hA (va_runI (As := []) (rest := [.ref h0]) ⟨hx, hb, hml, hown, hts⟩ (c_X7_init l dC dI cy _ h0) (cwI 0 hts gL_law_X7_init rfl rfl rfl (hts (.initialized RX7) (by decide +kernel)) (hts (.methodLink RL 9 yX7_init) (by decide +kernel)) (hts (.instanceMethod yX7_init) (by decide +kernel)) rfl (by decide +kernel) ⟨Nat.le_of_ble_eq_true rfl, Nat.le_of_ble_eq_true rfl⟩) (yt_pre (X := []) hE hK hP hD) rfl rfl hl.1 rfl (lv_room (Nat.le_of_ble_eq_true rfl)) dL_law_4 ⟨Nat.le_of_ble_eq_true rfl, Nat.le_of_ble_eq_true rfl⟩) (fun u H locs hw hP hD hS => ?_)
  have hP : va_P (dC, dI) vwCl ([(h0, .inr (7, [.ref u.2.1, .ref u.2.2.1, .ref u.2.2.2.1, .null, .int 1]))] ++ wH cy u.1 ++ [(u.2.2.1, .inr (4, [.int 0, .int 0, .int 0, .ref u.2.2.2.2.1.1, .ref u.2.2.2.2.1.2.1, .ref u.2.2.2.2.1.2.2.1, .ref u.2.2.2.2.1.2.2.2.1, .ref u.2.2.2.2.1.2.2.2.2.1, .ref u.2.2.2.2.1.2.2.2.2.2.1, .ref u.2.2.2.2.1.2.2.2.2.2.2.1, .ref u.2.2.2.2.1.2.2.2.2.2.2.2])), (u.2.2.2.2.1.1, .inl (cy 0, 4, .inl (fun _ => 0))), (u.2.2.2.2.1.2.1, .inl (cy 0, 4, .inl (fun _ => 0))), (u.2.2.2.2.1.2.2.1, .inl (cy 0, 4, .inl (fun _ => 0))), (u.2.2.2.2.1.2.2.2.1, .inl (cy 0, 4, .inl (fun _ => 0))), (u.2.2.2.2.1.2.2.2.2.1, .inl (cy 0, 4, .inl (fun _ => 0))), (u.2.2.2.2.1.2.2.2.2.2.1, .inl (cy 0, 4, .inl (fun _ => 0))), (u.2.2.2.2.1.2.2.2.2.2.2.1, .inl (cy 0, 3, .inl (fun _ => 0))), (u.2.2.2.2.1.2.2.2.2.2.2.2, .inl (cy 0, 3, .inl (fun _ => 0)))] ++ [(u.2.2.2.1, .inr (5, [.int 0, .ref u.2.2.2.2.2.1, .ref u.2.2.2.2.2.2])), (u.2.2.2.2.2.1, .inl (cy 0, 5, .inl (fun _ => 0))), (u.2.2.2.2.2.2, .inl (cy 0, 5, .inl (fun _ => 0)))]) H := hP
  have hD : va_D (fun q : Nat => s.heap.size ≤ q) ([(h0, .inr (7, [.ref u.2.1, .ref u.2.2.1, .ref u.2.2.2.1, .null, .int 1]))] ++ wH cy u.1 ++ [(u.2.2.1, .inr (4, [.int 0, .int 0, .int 0, .ref u.2.2.2.2.1.1, .ref u.2.2.2.2.1.2.1, .ref u.2.2.2.2.1.2.2.1, .ref u.2.2.2.2.1.2.2.2.1, .ref u.2.2.2.2.1.2.2.2.2.1, .ref u.2.2.2.2.1.2.2.2.2.2.1, .ref u.2.2.2.2.1.2.2.2.2.2.2.1, .ref u.2.2.2.2.1.2.2.2.2.2.2.2])), (u.2.2.2.2.1.1, .inl (cy 0, 4, .inl (fun _ => 0))), (u.2.2.2.2.1.2.1, .inl (cy 0, 4, .inl (fun _ => 0))), (u.2.2.2.2.1.2.2.1, .inl (cy 0, 4, .inl (fun _ => 0))), (u.2.2.2.2.1.2.2.2.1, .inl (cy 0, 4, .inl (fun _ => 0))), (u.2.2.2.2.1.2.2.2.2.1, .inl (cy 0, 4, .inl (fun _ => 0))), (u.2.2.2.2.1.2.2.2.2.2.1, .inl (cy 0, 4, .inl (fun _ => 0))), (u.2.2.2.2.1.2.2.2.2.2.2.1, .inl (cy 0, 3, .inl (fun _ => 0))), (u.2.2.2.2.1.2.2.2.2.2.2.2, .inl (cy 0, 3, .inl (fun _ => 0)))] ++ [(u.2.2.2.1, .inr (5, [.int 0, .ref u.2.2.2.2.2.1, .ref u.2.2.2.2.2.2])), (u.2.2.2.2.2.1, .inl (cy 0, 5, .inl (fun _ => 0))), (u.2.2.2.2.2.2, .inl (cy 0, 5, .inl (fun _ => 0)))]) := hD
  obtain ⟨ad, a0, hP, hD⟩ := fresh_wl (h0 := h0) hw hP hD
  refine W.widen (k := 119) (n := 754) (Nat.le_of_ble_eq_true rfl) (Nat.le_of_ble_eq_true rfl) ?_
  refine lv_astore_n (lv' := [(1, .ref h0), (0, .ref b)]) hx hb dL_law_7 rfl hl (by decide) rfl (fun ls hl => ?_)
  refine va_new (ci := 8) (fs := [.null, .null, .int 0, .int 0, .null, .int 0, .null, .null, .null, .int 0, .null]) (C := RX8) (T := TX8) (N := 11) hx hb hts inlX8 tyX8 tyX8_ok hown (hts (.classLink RL 10 RX8) (by decide +kernel)) (hts (.instantiable RX8 11) (by decide +kernel)) (hts (.initialized RX8) (by decide +kernel)) hK hP hD hS hA rfl (fun j hj => by rcases (show j = 0 ∨ j = 1 ∨ j = 2 ∨ j = 3 ∨ j = 4 ∨ j = 5 ∨ j = 6 ∨ j = 7 ∨ j = 8 ∨ j = 9 ∨ j = 10 by omega) with rfl | rfl | rfl | rfl | rfl | rfl | rfl | rfl | rfl | rfl | rfl <;> rfl) (Nat.le_of_ble_eq_true rfl) (Nat.le_of_ble_eq_true rfl) dL_law_8 (fun g0 H hP hD hS => ?_)
  have hP : va_P (dC, dI) vwCl (wl ad .null cy 119 v_0 ++ [(g0, .inr (8, [.null, .null, .int 0, .int 0, .null, .int 0, .null, .null, .null, .int 0, .null]))]) H := hP
  have hD : va_D (fun q : Nat => s.heap.size ≤ q) (wl ad .null cy 119 v_0 ++ [(g0, .inr (8, [.null, .null, .int 0, .int 0, .null, .int 0, .null, .null, .null, .int 0, .null]))]) := hD
  refine W.widen (k := 120) (n := 765) (by omega) (by omega) ?_
  refine lv_dup hx hb dL_law_11 rfl ?_
  refine yt_v (X := wl ad .null cy 119 v_0) (x := (g0, .inr (8, [.null, .null, .int 0, .int 0, .null, .int 0, .null, .null, .null, .int 0, .null]))) (w1 := fun (u : Nat → Nat) => wm u cy m_0) hP hD hS hA (va_runI (As := []) (rest := [.ref g0]) ⟨hx, hb, hml, hown, hts⟩ (c_X8_init l dC dI cy _ g0) (cwI 0 hts gL_law_X8_init rfl rfl rfl (hts (.initialized RX8) (by decide +kernel)) (hts (.methodLink RL 12 yX8_init) (by decide +kernel)) (hts (.instanceMethod yX8_init) (by decide +kernel)) rfl (by decide +kernel) ⟨Nat.le_of_ble_eq_true rfl, Nat.le_of_ble_eq_true rfl⟩) (yt_pre hE hK hP hD) rfl rfl hl.1 rfl (lv_room (Nat.le_of_ble_eq_true rfl)) dL_law_12 ⟨Nat.le_of_ble_eq_true rfl, Nat.le_of_ble_eq_true rfl⟩) (fun ad2 H locs b0 hP hD hS => ?_)
  have hP : va_P (dC, dI) vwCl (wl ad .null cy 119 v_0 ++ wm ad2 cy m_0) H := hP
  have hD : va_D (fun q : Nat => s.heap.size ≤ q) (wl ad .null cy 119 v_0 ++ wm ad2 cy m_0) := hD
  refine W.widen (k := 127) (n := 1982) (Nat.le_of_ble_eq_true rfl) (Nat.le_of_ble_eq_true rfl) ?_
  refine lv_astore_n (lv' := [(2, .ref g0), (1, .ref h0), (0, .ref b)]) hx hb dL_law_15 rfl hl (by decide) rfl (fun ls hl => ?_)
  refine lv_iconst (v := 0) hx hb dL_law_16 (by decide) ?_
  refine lv_istore_n (lv' := [(3, .int 0), (2, .ref g0), (1, .ref h0), (0, .ref b)]) hx hb dL_law_17 rfl hl (by decide) rfl (fun ls hl => ?_)
  rw [← a0] at hl
  rw [← show ad2 0 = g0 from b0] at hl
  have k0 : (0 : Int32).toInt = 0 := by decide
  exact law_n C0 hSt hE hK hL (ad := ad) (ad2 := ad2) (3584 + 1) v_0 m_0 0 _ _ ls Iv_0 Ir_0 RR3_0 (by omega) (by omega) (by omega) hP hD hS (lv_sub hl [0, 1, 2, 3] rfl)
