set_option maxRecDepth 20000 in
theorem db_L_law_152 : (decode cL_law 152 = .ok (.aload_n 1, 1)) ∧ (decode cL_law 153 = .ok (.aload_n 0, 1)) ∧ (decode cL_law 154 = .ok (.iload_n 3, 1)) ∧ (decode cL_law 155 = .ok (.iconst 1, 1)) ∧ (decode cL_law 156 = .ok (.iadd, 1)) ∧ (decode cL_law 157 = .ok (.iaload, 1)) ∧ (decode cL_law 158 = .ok (.aload_n 0, 1)) ∧ (decode cL_law 159 = .ok (.iload_n 3, 1)) := by decide +kernel
theorem dL_law_152 : decode cL_law 152 = .ok (.aload_n 1, 1) := db_L_law_152.1
theorem dL_law_153 : decode cL_law 153 = .ok (.aload_n 0, 1) := db_L_law_152.2.1
theorem dL_law_154 : decode cL_law 154 = .ok (.iload_n 3, 1) := db_L_law_152.2.2.1
theorem dL_law_155 : decode cL_law 155 = .ok (.iconst 1, 1) := db_L_law_152.2.2.2.1
theorem dL_law_156 : decode cL_law 156 = .ok (.iadd, 1) := db_L_law_152.2.2.2.2.1
theorem dL_law_157 : decode cL_law 157 = .ok (.iaload, 1) := db_L_law_152.2.2.2.2.2.1
theorem dL_law_158 : decode cL_law 158 = .ok (.aload_n 0, 1) := db_L_law_152.2.2.2.2.2.2.1
theorem dL_law_159 : decode cL_law 159 = .ok (.iload_n 3, 1) := db_L_law_152.2.2.2.2.2.2.2
set_option maxRecDepth 20000 in
theorem db_L_law_160 : (decode cL_law 160 = .ok (.iconst 2, 1)) ∧ (decode cL_law 161 = .ok (.iadd, 1)) ∧ (decode cL_law 162 = .ok (.iaload, 1)) ∧ (decode cL_law 163 = .ok (.invokevirtual 13, 3)) ∧ (decode cL_law 166 = .ok (.pop, 1)) ∧ (decode cL_law 167 = .ok (.aload_n 2, 1)) ∧ (decode cL_law 168 = .ok (.aload_n 0, 1)) ∧ (decode cL_law 169 = .ok (.iload_n 3, 1)) := by decide +kernel
theorem dL_law_160 : decode cL_law 160 = .ok (.iconst 2, 1) := db_L_law_160.1
theorem dL_law_161 : decode cL_law 161 = .ok (.iadd, 1) := db_L_law_160.2.1
theorem dL_law_162 : decode cL_law 162 = .ok (.iaload, 1) := db_L_law_160.2.2.1
set_option maxRecDepth 20000 in
theorem ggL_law_X7_party : GoodIn wsL_law wsX7_party := goodIn_ch _ [(4, 0), (0, 15), (4, 1), (4, 2), (4, 3), (4, 4), (4, 5), (4, 6), (0, 2), (4, 7), (29, 0), (29, 1), (29, 2), (29, 3), (29, 4), (31, 0), (31, 1), (31, 2), (31, 3), (31, 4), (31, 5), (31, 6), (34, 0), (34, 1)] rfl (by decide +kernel)
set_option maxRecDepth 20000 in
theorem gL_law_X7_party : GoodIn wsL_law (wsV RL 13 RX7 yX7_party wsX7_party) := goodIn_app (goodIn_ch _ [(3, 21), (3, 22), (3, 23), (0, 2)] rfl (by decide +kernel)) ggL_law_X7_party
theorem dL_law_163 : decode cL_law 163 = .ok (.invokevirtual 13, 3) := db_L_law_160.2.2.2.1
theorem dL_law_166 : decode cL_law 166 = .ok (.pop, 1) := db_L_law_160.2.2.2.2.1
theorem dL_law_167 : decode cL_law 167 = .ok (.aload_n 2, 1) := db_L_law_160.2.2.2.2.2.1
theorem dL_law_168 : decode cL_law 168 = .ok (.aload_n 0, 1) := db_L_law_160.2.2.2.2.2.2.1
theorem dL_law_169 : decode cL_law 169 = .ok (.iload_n 3, 1) := db_L_law_160.2.2.2.2.2.2.2
set_option maxRecDepth 20000 in
theorem db_L_law_170 : (decode cL_law 170 = .ok (.iconst 1, 1)) ∧ (decode cL_law 171 = .ok (.iadd, 1)) ∧ (decode cL_law 172 = .ok (.iaload, 1)) ∧ (decode cL_law 173 = .ok (.aload_n 0, 1)) ∧ (decode cL_law 174 = .ok (.iload_n 3, 1)) ∧ (decode cL_law 175 = .ok (.iconst 2, 1)) ∧ (decode cL_law 176 = .ok (.iadd, 1)) ∧ (decode cL_law 177 = .ok (.iaload, 1)) := by decide +kernel
theorem dL_law_170 : decode cL_law 170 = .ok (.iconst 1, 1) := db_L_law_170.1
theorem dL_law_171 : decode cL_law 171 = .ok (.iadd, 1) := db_L_law_170.2.1
theorem dL_law_172 : decode cL_law 172 = .ok (.iaload, 1) := db_L_law_170.2.2.1
theorem dL_law_173 : decode cL_law 173 = .ok (.aload_n 0, 1) := db_L_law_170.2.2.2.1
theorem dL_law_174 : decode cL_law 174 = .ok (.iload_n 3, 1) := db_L_law_170.2.2.2.2.1
theorem dL_law_175 : decode cL_law 175 = .ok (.iconst 2, 1) := db_L_law_170.2.2.2.2.2.1
theorem dL_law_176 : decode cL_law 176 = .ok (.iadd, 1) := db_L_law_170.2.2.2.2.2.2.1
theorem dL_law_177 : decode cL_law 177 = .ok (.iaload, 1) := db_L_law_170.2.2.2.2.2.2.2
set_option maxRecDepth 20000 in
theorem ggL_law_X8_party : GoodIn wsL_law wsX8_party := goodIn_ch _ [(4, 11), (3, 13), (4, 12), (4, 13), (0, 5), (4, 14), (30, 0), (30, 1), (30, 2), (30, 3), (30, 4), (30, 5), (30, 6), (30, 7), (30, 8), (30, 9), (30, 10)] rfl (by decide +kernel)
set_option maxRecDepth 20000 in
theorem gL_law_X8_party : GoodIn wsL_law (wsV RL 17 RX8 yX8_party wsX8_party) := goodIn_app (goodIn_ch _ [(4, 8), (4, 9), (4, 10), (0, 5)] rfl (by decide +kernel)) ggL_law_X8_party
set_option maxRecDepth 20000 in
theorem db_L_law_178 : (decode cL_law 178 = .ok (.invokevirtual 17, 3)) ∧ (decode cL_law 181 = .ok (.pop, 1)) ∧ (decode cL_law 182 = .ok (.goto 878, 3)) ∧ (decode cL_law 185 = .ok (.aload_n 1, 1)) ∧ (decode cL_law 186 = .ok (.aload_n 0, 1)) ∧ (decode cL_law 187 = .ok (.iload_n 3, 1)) ∧ (decode cL_law 188 = .ok (.iconst 1, 1)) ∧ (decode cL_law 189 = .ok (.iadd, 1)) := by decide +kernel
theorem dL_law_178 : decode cL_law 178 = .ok (.invokevirtual 17, 3) := db_L_law_178.1
theorem dL_law_181 : decode cL_law 181 = .ok (.pop, 1) := db_L_law_178.2.1
theorem dL_law_182 : decode cL_law 182 = .ok (.goto 878, 3) := db_L_law_178.2.2.1
theorem dL_law_185 : decode cL_law 185 = .ok (.aload_n 1, 1) := db_L_law_178.2.2.2.1
theorem dL_law_186 : decode cL_law 186 = .ok (.aload_n 0, 1) := db_L_law_178.2.2.2.2.1
theorem dL_law_187 : decode cL_law 187 = .ok (.iload_n 3, 1) := db_L_law_178.2.2.2.2.2.1
theorem dL_law_188 : decode cL_law 188 = .ok (.iconst 1, 1) := db_L_law_178.2.2.2.2.2.2.1
theorem dL_law_189 : decode cL_law 189 = .ok (.iadd, 1) := db_L_law_178.2.2.2.2.2.2.2
set_option maxRecDepth 20000 in
theorem db_L_law_190 : (decode cL_law 190 = .ok (.iaload, 1)) ∧ (decode cL_law 191 = .ok (.aload_n 0, 1)) ∧ (decode cL_law 192 = .ok (.iload_n 3, 1)) ∧ (decode cL_law 193 = .ok (.iconst 2, 1)) ∧ (decode cL_law 194 = .ok (.iadd, 1)) ∧ (decode cL_law 195 = .ok (.iaload, 1)) ∧ (decode cL_law 196 = .ok (.invokevirtual 18, 3)) ∧ (decode cL_law 199 = .ok (.pop, 1)) := by decide +kernel
theorem dL_law_190 : decode cL_law 190 = .ok (.iaload, 1) := db_L_law_190.1
theorem dL_law_191 : decode cL_law 191 = .ok (.aload_n 0, 1) := db_L_law_190.2.1
theorem dL_law_192 : decode cL_law 192 = .ok (.iload_n 3, 1) := db_L_law_190.2.2.1
theorem dL_law_193 : decode cL_law 193 = .ok (.iconst 2, 1) := db_L_law_190.2.2.2.1
theorem dL_law_194 : decode cL_law 194 = .ok (.iadd, 1) := db_L_law_190.2.2.2.2.1
theorem dL_law_195 : decode cL_law 195 = .ok (.iaload, 1) := db_L_law_190.2.2.2.2.2.1
set_option maxRecDepth 20000 in
theorem ggL_law_X7_mediator : GoodIn wsL_law wsX7_mediator := goodIn_ch _ [(4, 18), (0, 15), (4, 19), (4, 20), (4, 21), (4, 22), (4, 23), (4, 5), (4, 6), (0, 2), (4, 7), (29, 0), (29, 1), (29, 2), (29, 3), (29, 4), (31, 0), (31, 1), (31, 2), (31, 3), (31, 4), (31, 5), (31, 6), (35, 0), (35, 1), (35, 2)] rfl (by decide +kernel)
set_option maxRecDepth 20000 in
theorem gL_law_X7_mediator : GoodIn wsL_law (wsV RL 18 RX7 yX7_mediator wsX7_mediator) := goodIn_app (goodIn_ch _ [(4, 15), (4, 16), (4, 17), (0, 2)] rfl (by decide +kernel)) ggL_law_X7_mediator
theorem dL_law_196 : decode cL_law 196 = .ok (.invokevirtual 18, 3) := db_L_law_190.2.2.2.2.2.2.1
theorem dL_law_199 : decode cL_law 199 = .ok (.pop, 1) := db_L_law_190.2.2.2.2.2.2.2
set_option maxRecDepth 20000 in
theorem db_L_law_200 : (decode cL_law 200 = .ok (.aload_n 2, 1)) ∧ (decode cL_law 201 = .ok (.aload_n 0, 1)) ∧ (decode cL_law 202 = .ok (.iload_n 3, 1)) ∧ (decode cL_law 203 = .ok (.iconst 1, 1)) ∧ (decode cL_law 204 = .ok (.iadd, 1)) ∧ (decode cL_law 205 = .ok (.iaload, 1)) ∧ (decode cL_law 206 = .ok (.aload_n 0, 1)) ∧ (decode cL_law 207 = .ok (.iload_n 3, 1)) := by decide +kernel
theorem dL_law_200 : decode cL_law 200 = .ok (.aload_n 2, 1) := db_L_law_200.1
theorem dL_law_201 : decode cL_law 201 = .ok (.aload_n 0, 1) := db_L_law_200.2.1
theorem dL_law_202 : decode cL_law 202 = .ok (.iload_n 3, 1) := db_L_law_200.2.2.1
theorem dL_law_203 : decode cL_law 203 = .ok (.iconst 1, 1) := db_L_law_200.2.2.2.1
theorem dL_law_204 : decode cL_law 204 = .ok (.iadd, 1) := db_L_law_200.2.2.2.2.1
theorem dL_law_205 : decode cL_law 205 = .ok (.iaload, 1) := db_L_law_200.2.2.2.2.2.1
theorem dL_law_206 : decode cL_law 206 = .ok (.aload_n 0, 1) := db_L_law_200.2.2.2.2.2.2.1
theorem dL_law_207 : decode cL_law 207 = .ok (.iload_n 3, 1) := db_L_law_200.2.2.2.2.2.2.2
set_option maxRecDepth 20000 in
theorem db_L_law_208 : (decode cL_law 208 = .ok (.iconst 2, 1)) ∧ (decode cL_law 209 = .ok (.iadd, 1)) ∧ (decode cL_law 210 = .ok (.iaload, 1)) ∧ (decode cL_law 211 = .ok (.invokevirtual 21, 3)) ∧ (decode cL_law 214 = .ok (.pop, 1)) ∧ (decode cL_law 215 = .ok (.goto 845, 3)) ∧ (decode cL_law 218 = .ok (.aload_n 1, 1)) ∧ (decode cL_law 219 = .ok (.aload_n 0, 1)) := by decide +kernel
theorem dL_law_208 : decode cL_law 208 = .ok (.iconst 2, 1) := db_L_law_208.1
theorem dL_law_209 : decode cL_law 209 = .ok (.iadd, 1) := db_L_law_208.2.1
theorem dL_law_210 : decode cL_law 210 = .ok (.iaload, 1) := db_L_law_208.2.2.1
set_option maxRecDepth 20000 in
theorem ggL_law_X8_mediator : GoodIn wsL_law wsX8_mediator := goodIn_ch _ [(5, 3), (3, 13), (4, 12), (4, 13), (0, 5), (4, 14), (30, 0), (30, 1), (30, 2), (30, 3), (30, 4), (30, 5), (30, 6), (30, 7), (30, 8), (30, 9), (30, 10)] rfl (by decide +kernel)
set_option maxRecDepth 20000 in
theorem gL_law_X8_mediator : GoodIn wsL_law (wsV RL 21 RX8 yX8_mediator wsX8_mediator) := goodIn_app (goodIn_ch _ [(5, 0), (5, 1), (5, 2), (0, 5)] rfl (by decide +kernel)) ggL_law_X8_mediator
theorem dL_law_211 : decode cL_law 211 = .ok (.invokevirtual 21, 3) := db_L_law_208.2.2.2.1
theorem dL_law_214 : decode cL_law 214 = .ok (.pop, 1) := db_L_law_208.2.2.2.2.1
theorem dL_law_215 : decode cL_law 215 = .ok (.goto 845, 3) := db_L_law_208.2.2.2.2.2.1
theorem dL_law_218 : decode cL_law 218 = .ok (.aload_n 1, 1) := db_L_law_208.2.2.2.2.2.2.1
theorem dL_law_219 : decode cL_law 219 = .ok (.aload_n 0, 1) := db_L_law_208.2.2.2.2.2.2.2
set_option maxRecDepth 20000 in
theorem db_L_law_220 : (decode cL_law 220 = .ok (.iload_n 3, 1)) ∧ (decode cL_law 221 = .ok (.iconst 1, 1)) ∧ (decode cL_law 222 = .ok (.iadd, 1)) ∧ (decode cL_law 223 = .ok (.iaload, 1)) ∧ (decode cL_law 224 = .ok (.aload_n 0, 1)) ∧ (decode cL_law 225 = .ok (.iload_n 3, 1)) ∧ (decode cL_law 226 = .ok (.iconst 2, 1)) ∧ (decode cL_law 227 = .ok (.iadd, 1)) := by decide +kernel
theorem dL_law_220 : decode cL_law 220 = .ok (.iload_n 3, 1) := db_L_law_220.1
theorem dL_law_221 : decode cL_law 221 = .ok (.iconst 1, 1) := db_L_law_220.2.1
theorem dL_law_222 : decode cL_law 222 = .ok (.iadd, 1) := db_L_law_220.2.2.1
theorem dL_law_223 : decode cL_law 223 = .ok (.iaload, 1) := db_L_law_220.2.2.2.1
theorem dL_law_224 : decode cL_law 224 = .ok (.aload_n 0, 1) := db_L_law_220.2.2.2.2.1
theorem dL_law_225 : decode cL_law 225 = .ok (.iload_n 3, 1) := db_L_law_220.2.2.2.2.2.1
theorem dL_law_226 : decode cL_law 226 = .ok (.iconst 2, 1) := db_L_law_220.2.2.2.2.2.2.1
theorem dL_law_227 : decode cL_law 227 = .ok (.iadd, 1) := db_L_law_220.2.2.2.2.2.2.2
set_option maxRecDepth 20000 in
theorem db_L_law_228 : (decode cL_law 228 = .ok (.iaload, 1)) ∧ (decode cL_law 229 = .ok (.aload_n 0, 1)) ∧ (decode cL_law 230 = .ok (.iload_n 3, 1)) ∧ (decode cL_law 231 = .ok (.iconst 3, 1)) ∧ (decode cL_law 232 = .ok (.iadd, 1)) ∧ (decode cL_law 233 = .ok (.iaload, 1)) ∧ (decode cL_law 234 = .ok (.ifCond .eq 7, 3)) ∧ (decode cL_law 241 = .ok (.iconst 0, 1)) := by decide +kernel
theorem dL_law_228 : decode cL_law 228 = .ok (.iaload, 1) := db_L_law_228.1
theorem dL_law_229 : decode cL_law 229 = .ok (.aload_n 0, 1) := db_L_law_228.2.1
theorem dL_law_230 : decode cL_law 230 = .ok (.iload_n 3, 1) := db_L_law_228.2.2.1
theorem dL_law_231 : decode cL_law 231 = .ok (.iconst 3, 1) := db_L_law_228.2.2.2.1
theorem dL_law_232 : decode cL_law 232 = .ok (.iadd, 1) := db_L_law_228.2.2.2.2.1
theorem dL_law_233 : decode cL_law 233 = .ok (.iaload, 1) := db_L_law_228.2.2.2.2.2.1
theorem dL_law_234 : decode cL_law 234 = .ok (.ifCond .eq 7, 3) := db_L_law_228.2.2.2.2.2.2.1
theorem dL_law_241 : decode cL_law 241 = .ok (.iconst 0, 1) := db_L_law_228.2.2.2.2.2.2.2
set_option maxRecDepth 20000 in
theorem ggL_law_X7_kin : GoodIn wsL_law wsX7_kin := goodIn_ch _ [(5, 7), (0, 15), (4, 20), (4, 23), (5, 8), (5, 9), (5, 10), (0, 2), (5, 11), (4, 19), (4, 5), (4, 6), (4, 7), (5, 12), (5, 13), (5, 14), (5, 15), (4, 1), (5, 16), (5, 17), (5, 18), (29, 0), (29, 1), (29, 2), (29, 3), (29, 4), (31, 0), (31, 1), (31, 2), (31, 3), (31, 4), (31, 5), (31, 6), (35, 0), (35, 1), (35, 2)] rfl (by decide +kernel)
set_option maxRecDepth 20000 in
theorem gL_law_X7_kin : GoodIn wsL_law (wsV RL 22 RX7 yX7_kin wsX7_kin) := goodIn_app (goodIn_ch _ [(5, 4), (5, 5), (5, 6), (0, 2)] rfl (by decide +kernel)) ggL_law_X7_kin
set_option maxRecDepth 20000 in
theorem db_L_law_242 : (decode cL_law 242 = .ok (.invokevirtual 22, 3)) ∧ (decode cL_law 245 = .ok (.pop, 1)) ∧ (decode cL_law 246 = .ok (.aload_n 2, 1)) ∧ (decode cL_law 247 = .ok (.aload_n 0, 1)) ∧ (decode cL_law 248 = .ok (.iload_n 3, 1)) ∧ (decode cL_law 249 = .ok (.iconst 1, 1)) ∧ (decode cL_law 250 = .ok (.iadd, 1)) ∧ (decode cL_law 251 = .ok (.iaload, 1)) := by decide +kernel
theorem dL_law_242 : decode cL_law 242 = .ok (.invokevirtual 22, 3) := db_L_law_242.1
theorem dL_law_245 : decode cL_law 245 = .ok (.pop, 1) := db_L_law_242.2.1
theorem dL_law_246 : decode cL_law 246 = .ok (.aload_n 2, 1) := db_L_law_242.2.2.1
theorem dL_law_247 : decode cL_law 247 = .ok (.aload_n 0, 1) := db_L_law_242.2.2.2.1
theorem dL_law_248 : decode cL_law 248 = .ok (.iload_n 3, 1) := db_L_law_242.2.2.2.2.1
theorem dL_law_249 : decode cL_law 249 = .ok (.iconst 1, 1) := db_L_law_242.2.2.2.2.2.1
theorem dL_law_250 : decode cL_law 250 = .ok (.iadd, 1) := db_L_law_242.2.2.2.2.2.2.1
theorem dL_law_251 : decode cL_law 251 = .ok (.iaload, 1) := db_L_law_242.2.2.2.2.2.2.2
set_option maxRecDepth 20000 in
theorem db_L_law_252 : (decode cL_law 252 = .ok (.aload_n 0, 1)) ∧ (decode cL_law 253 = .ok (.iload_n 3, 1)) ∧ (decode cL_law 254 = .ok (.iconst 2, 1)) ∧ (decode cL_law 255 = .ok (.iadd, 1)) ∧ (decode cL_law 256 = .ok (.iaload, 1)) ∧ (decode cL_law 257 = .ok (.aload_n 0, 1)) ∧ (decode cL_law 258 = .ok (.iload_n 3, 1)) ∧ (decode cL_law 259 = .ok (.iconst 3, 1)) := by decide +kernel
theorem dL_law_252 : decode cL_law 252 = .ok (.aload_n 0, 1) := db_L_law_252.1
theorem dL_law_253 : decode cL_law 253 = .ok (.iload_n 3, 1) := db_L_law_252.2.1
theorem dL_law_254 : decode cL_law 254 = .ok (.iconst 2, 1) := db_L_law_252.2.2.1
theorem dL_law_255 : decode cL_law 255 = .ok (.iadd, 1) := db_L_law_252.2.2.2.1
theorem dL_law_256 : decode cL_law 256 = .ok (.iaload, 1) := db_L_law_252.2.2.2.2.1
theorem dL_law_257 : decode cL_law 257 = .ok (.aload_n 0, 1) := db_L_law_252.2.2.2.2.2.1
theorem dL_law_258 : decode cL_law 258 = .ok (.iload_n 3, 1) := db_L_law_252.2.2.2.2.2.2.1
theorem dL_law_259 : decode cL_law 259 = .ok (.iconst 3, 1) := db_L_law_252.2.2.2.2.2.2.2
set_option maxRecDepth 20000 in
theorem db_L_law_260 : (decode cL_law 260 = .ok (.iadd, 1)) ∧ (decode cL_law 261 = .ok (.iaload, 1)) ∧ (decode cL_law 262 = .ok (.ifCond .eq 7, 3)) ∧ (decode cL_law 269 = .ok (.iconst 0, 1)) ∧ (decode cL_law 270 = .ok (.invokevirtual 26, 3)) ∧ (decode cL_law 273 = .ok (.pop, 1)) ∧ (decode cL_law 274 = .ok (.goto 786, 3)) ∧ (decode cL_law 237 = .ok (.iconst 1, 1)) := by decide +kernel
theorem dL_law_260 : decode cL_law 260 = .ok (.iadd, 1) := db_L_law_260.1
theorem dL_law_261 : decode cL_law 261 = .ok (.iaload, 1) := db_L_law_260.2.1
theorem dL_law_262 : decode cL_law 262 = .ok (.ifCond .eq 7, 3) := db_L_law_260.2.2.1
theorem dL_law_269 : decode cL_law 269 = .ok (.iconst 0, 1) := db_L_law_260.2.2.2.1
set_option maxRecDepth 20000 in
theorem ggL_law_X8_kin : GoodIn wsL_law wsX8_kin := goodIn_ch _ [(5, 22), (3, 13), (5, 23), (6, 0), (6, 1), (0, 5), (6, 2), (4, 12), (4, 13), (4, 14), (6, 3), (6, 4), (6, 5), (6, 6), (30, 0), (30, 1), (30, 2), (30, 3), (30, 4), (30, 5), (30, 6), (30, 7), (30, 8), (30, 9), (30, 10)] rfl (by decide +kernel)
set_option maxRecDepth 20000 in
theorem gL_law_X8_kin : GoodIn wsL_law (wsV RL 26 RX8 yX8_kin wsX8_kin) := goodIn_app (goodIn_ch _ [(5, 19), (5, 20), (5, 21), (0, 5)] rfl (by decide +kernel)) ggL_law_X8_kin
theorem dL_law_270 : decode cL_law 270 = .ok (.invokevirtual 26, 3) := db_L_law_260.2.2.2.2.1
theorem dL_law_273 : decode cL_law 273 = .ok (.pop, 1) := db_L_law_260.2.2.2.2.2.1
theorem dL_law_274 : decode cL_law 274 = .ok (.goto 786, 3) := db_L_law_260.2.2.2.2.2.2.1
theorem dL_law_237 : decode cL_law 237 = .ok (.iconst 1, 1) := db_L_law_260.2.2.2.2.2.2.2
set_option maxRecDepth 20000 in
theorem db_L_law_238 : (decode cL_law 238 = .ok (.goto 4, 3)) ∧ (decode cL_law 265 = .ok (.iconst 1, 1)) ∧ (decode cL_law 266 = .ok (.goto 4, 3)) ∧ (decode cL_law 277 = .ok (.aload_n 1, 1)) ∧ (decode cL_law 278 = .ok (.aload_n 0, 1)) ∧ (decode cL_law 279 = .ok (.iload_n 3, 1)) ∧ (decode cL_law 280 = .ok (.iconst 1, 1)) ∧ (decode cL_law 281 = .ok (.iadd, 1)) := by decide +kernel
theorem dL_law_238 : decode cL_law 238 = .ok (.goto 4, 3) := db_L_law_238.1
theorem dL_law_265 : decode cL_law 265 = .ok (.iconst 1, 1) := db_L_law_238.2.1
theorem dL_law_266 : decode cL_law 266 = .ok (.goto 4, 3) := db_L_law_238.2.2.1
theorem dL_law_277 : decode cL_law 277 = .ok (.aload_n 1, 1) := db_L_law_238.2.2.2.1
theorem dL_law_278 : decode cL_law 278 = .ok (.aload_n 0, 1) := db_L_law_238.2.2.2.2.1
theorem dL_law_279 : decode cL_law 279 = .ok (.iload_n 3, 1) := db_L_law_238.2.2.2.2.2.1
theorem dL_law_280 : decode cL_law 280 = .ok (.iconst 1, 1) := db_L_law_238.2.2.2.2.2.2.1
theorem dL_law_281 : decode cL_law 281 = .ok (.iadd, 1) := db_L_law_238.2.2.2.2.2.2.2
set_option maxRecDepth 20000 in
theorem db_L_law_282 : (decode cL_law 282 = .ok (.iaload, 1)) ∧ (decode cL_law 283 = .ok (.aload_n 0, 1)) ∧ (decode cL_law 284 = .ok (.iload_n 3, 1)) ∧ (decode cL_law 285 = .ok (.iconst 2, 1)) ∧ (decode cL_law 286 = .ok (.iadd, 1)) ∧ (decode cL_law 287 = .ok (.iaload, 1)) ∧ (decode cL_law 288 = .ok (.invokevirtual 27, 3)) ∧ (decode cL_law 291 = .ok (.pop, 1)) := by decide +kernel
theorem dL_law_282 : decode cL_law 282 = .ok (.iaload, 1) := db_L_law_282.1
theorem dL_law_283 : decode cL_law 283 = .ok (.aload_n 0, 1) := db_L_law_282.2.1
theorem dL_law_284 : decode cL_law 284 = .ok (.iload_n 3, 1) := db_L_law_282.2.2.1
theorem dL_law_285 : decode cL_law 285 = .ok (.iconst 2, 1) := db_L_law_282.2.2.2.1
theorem dL_law_286 : decode cL_law 286 = .ok (.iadd, 1) := db_L_law_282.2.2.2.2.1
theorem dL_law_287 : decode cL_law 287 = .ok (.iaload, 1) := db_L_law_282.2.2.2.2.2.1
set_option maxRecDepth 20000 in
theorem ggL_law_X7_open : GoodIn wsL_law wsX7_open := goodIn_ch _ [(6, 10), (0, 15), (6, 11), (6, 12), (5, 12), (5, 13), (5, 14), (0, 2), (5, 15), (4, 1), (4, 5), (4, 6), (4, 7), (6, 13), (6, 14), (6, 15), (1, 17), (6, 16), (6, 17), (6, 18), (6, 19), (6, 20), (6, 21), (6, 22), (2, 5), (2, 6), (2, 9), (29, 0), (29, 1), (29, 2), (29, 3), (29, 4), (31, 0), (31, 1), (31, 2), (31, 3), (31, 4), (31, 5), (31, 6), (36, 0), (36, 1), (36, 2), (36, 3), (36, 4), (36, 5), (36, 6), (36, 7), (36, 8), (36, 9), (36, 10)] rfl (by decide +kernel)
set_option maxRecDepth 20000 in
theorem gL_law_X7_open : GoodIn wsL_law (wsV RL 27 RX7 yX7_open wsX7_open) := goodIn_app (goodIn_ch _ [(6, 7), (6, 8), (6, 9), (0, 2)] rfl (by decide +kernel)) ggL_law_X7_open
theorem dL_law_288 : decode cL_law 288 = .ok (.invokevirtual 27, 3) := db_L_law_282.2.2.2.2.2.2.1
theorem dL_law_291 : decode cL_law 291 = .ok (.pop, 1) := db_L_law_282.2.2.2.2.2.2.2
set_option maxRecDepth 20000 in
theorem db_L_law_292 : (decode cL_law 292 = .ok (.aload_n 2, 1)) ∧ (decode cL_law 293 = .ok (.aload_n 0, 1)) ∧ (decode cL_law 294 = .ok (.iload_n 3, 1)) ∧ (decode cL_law 295 = .ok (.iconst 1, 1)) ∧ (decode cL_law 296 = .ok (.iadd, 1)) ∧ (decode cL_law 297 = .ok (.iaload, 1)) ∧ (decode cL_law 298 = .ok (.aload_n 0, 1)) ∧ (decode cL_law 299 = .ok (.iload_n 3, 1)) := by decide +kernel
theorem dL_law_292 : decode cL_law 292 = .ok (.aload_n 2, 1) := db_L_law_292.1
theorem dL_law_293 : decode cL_law 293 = .ok (.aload_n 0, 1) := db_L_law_292.2.1
theorem dL_law_294 : decode cL_law 294 = .ok (.iload_n 3, 1) := db_L_law_292.2.2.1
theorem dL_law_295 : decode cL_law 295 = .ok (.iconst 1, 1) := db_L_law_292.2.2.2.1
theorem dL_law_296 : decode cL_law 296 = .ok (.iadd, 1) := db_L_law_292.2.2.2.2.1
theorem dL_law_297 : decode cL_law 297 = .ok (.iaload, 1) := db_L_law_292.2.2.2.2.2.1
theorem dL_law_298 : decode cL_law 298 = .ok (.aload_n 0, 1) := db_L_law_292.2.2.2.2.2.2.1
theorem dL_law_299 : decode cL_law 299 = .ok (.iload_n 3, 1) := db_L_law_292.2.2.2.2.2.2.2
set_option maxRecDepth 20000 in
theorem db_L_law_300 : (decode cL_law 300 = .ok (.iconst 2, 1)) ∧ (decode cL_law 301 = .ok (.iadd, 1)) ∧ (decode cL_law 302 = .ok (.iaload, 1)) ∧ (decode cL_law 303 = .ok (.invokevirtual 30, 3)) ∧ (decode cL_law 306 = .ok (.pop, 1)) ∧ (decode cL_law 307 = .ok (.goto 753, 3)) ∧ (decode cL_law 310 = .ok (.aload_n 1, 1)) ∧ (decode cL_law 311 = .ok (.aload_n 0, 1)) := by decide +kernel
theorem dL_law_300 : decode cL_law 300 = .ok (.iconst 2, 1) := db_L_law_300.1
theorem dL_law_301 : decode cL_law 301 = .ok (.iadd, 1) := db_L_law_300.2.1
theorem dL_law_302 : decode cL_law 302 = .ok (.iaload, 1) := db_L_law_300.2.2.1
set_option maxRecDepth 20000 in
theorem ggL_law_X8_open : GoodIn wsL_law wsX8_open := goodIn_ch _ [(7, 2), (3, 13), (6, 3), (6, 4), (6, 5), (0, 5), (6, 6), (4, 12), (4, 13), (4, 14), (7, 3), (7, 4), (7, 5), (30, 0), (30, 1), (30, 2), (30, 3), (30, 4), (30, 5), (30, 6), (30, 7), (30, 8), (30, 9), (30, 10)] rfl (by decide +kernel)
set_option maxRecDepth 20000 in
theorem gL_law_X8_open : GoodIn wsL_law (wsV RL 30 RX8 yX8_open wsX8_open) := goodIn_app (goodIn_ch _ [(6, 23), (7, 0), (7, 1), (0, 5)] rfl (by decide +kernel)) ggL_law_X8_open
theorem dL_law_303 : decode cL_law 303 = .ok (.invokevirtual 30, 3) := db_L_law_300.2.2.2.1
theorem dL_law_306 : decode cL_law 306 = .ok (.pop, 1) := db_L_law_300.2.2.2.2.1
theorem dL_law_307 : decode cL_law 307 = .ok (.goto 753, 3) := db_L_law_300.2.2.2.2.2.1
theorem dL_law_310 : decode cL_law 310 = .ok (.aload_n 1, 1) := db_L_law_300.2.2.2.2.2.2.1
theorem dL_law_311 : decode cL_law 311 = .ok (.aload_n 0, 1) := db_L_law_300.2.2.2.2.2.2.2
set_option maxRecDepth 20000 in
theorem db_L_law_312 : (decode cL_law 312 = .ok (.iload_n 3, 1)) ∧ (decode cL_law 313 = .ok (.iconst 1, 1)) ∧ (decode cL_law 314 = .ok (.iadd, 1)) ∧ (decode cL_law 315 = .ok (.iaload, 1)) ∧ (decode cL_law 316 = .ok (.invokevirtual 31, 3)) ∧ (decode cL_law 319 = .ok (.aload_n 2, 1)) ∧ (decode cL_law 320 = .ok (.aload_n 0, 1)) ∧ (decode cL_law 321 = .ok (.iload_n 3, 1)) := by decide +kernel
theorem dL_law_312 : decode cL_law 312 = .ok (.iload_n 3, 1) := db_L_law_312.1
theorem dL_law_313 : decode cL_law 313 = .ok (.iconst 1, 1) := db_L_law_312.2.1
theorem dL_law_314 : decode cL_law 314 = .ok (.iadd, 1) := db_L_law_312.2.2.1
theorem dL_law_315 : decode cL_law 315 = .ok (.iaload, 1) := db_L_law_312.2.2.2.1
set_option maxRecDepth 20000 in
theorem ggL_law_X7_close : GoodIn wsL_law wsX7_close := goodIn_ch _ [(7, 9), (0, 15), (6, 12), (7, 10), (7, 11), (7, 12), (7, 13), (0, 2), (7, 14), (6, 11), (4, 5), (4, 6), (4, 7), (29, 0), (29, 1), (29, 2), (29, 3), (29, 4), (31, 0), (31, 1), (31, 2), (31, 3), (31, 4), (31, 5), (31, 6), (36, 0), (36, 1), (36, 2), (36, 3), (36, 4), (36, 5), (36, 6), (36, 7), (36, 8), (36, 9), (36, 10)] rfl (by decide +kernel)
set_option maxRecDepth 20000 in
theorem gL_law_X7_close : GoodIn wsL_law (wsV RL 31 RX7 yX7_close wsX7_close) := goodIn_app (goodIn_ch _ [(7, 6), (7, 7), (7, 8), (0, 2)] rfl (by decide +kernel)) ggL_law_X7_close
theorem dL_law_316 : decode cL_law 316 = .ok (.invokevirtual 31, 3) := db_L_law_312.2.2.2.2.1
theorem dL_law_319 : decode cL_law 319 = .ok (.aload_n 2, 1) := db_L_law_312.2.2.2.2.2.1
theorem dL_law_320 : decode cL_law 320 = .ok (.aload_n 0, 1) := db_L_law_312.2.2.2.2.2.2.1
theorem dL_law_321 : decode cL_law 321 = .ok (.iload_n 3, 1) := db_L_law_312.2.2.2.2.2.2.2
set_option maxRecDepth 20000 in
theorem db_L_law_322 : (decode cL_law 322 = .ok (.iconst 1, 1)) ∧ (decode cL_law 323 = .ok (.iadd, 1)) ∧ (decode cL_law 324 = .ok (.iaload, 1)) ∧ (decode cL_law 325 = .ok (.invokevirtual 35, 3)) ∧ (decode cL_law 328 = .ok (.if_icmp .eq 732, 3)) ∧ (decode cL_law 333 = .ok (.aload_n 1, 1)) ∧ (decode cL_law 334 = .ok (.aload_n 0, 1)) ∧ (decode cL_law 335 = .ok (.iload_n 3, 1)) := by decide +kernel
theorem dL_law_322 : decode cL_law 322 = .ok (.iconst 1, 1) := db_L_law_322.1
theorem dL_law_323 : decode cL_law 323 = .ok (.iadd, 1) := db_L_law_322.2.1
theorem dL_law_324 : decode cL_law 324 = .ok (.iaload, 1) := db_L_law_322.2.2.1
set_option maxRecDepth 20000 in
theorem ggL_law_X8_close : GoodIn wsL_law wsX8_close := goodIn_ch _ [(7, 18), (3, 13), (7, 19), (7, 20), (7, 21), (0, 5), (7, 22), (4, 12), (4, 13), (4, 14), (7, 3), (7, 4), (7, 5), (30, 0), (30, 1), (30, 2), (30, 3), (30, 4), (30, 5), (30, 6), (30, 7), (30, 8), (30, 9), (30, 10)] rfl (by decide +kernel)
set_option maxRecDepth 20000 in
theorem gL_law_X8_close : GoodIn wsL_law (wsV RL 35 RX8 yX8_close wsX8_close) := goodIn_app (goodIn_ch _ [(7, 15), (7, 16), (7, 17), (0, 5)] rfl (by decide +kernel)) ggL_law_X8_close
theorem dL_law_325 : decode cL_law 325 = .ok (.invokevirtual 35, 3) := db_L_law_322.2.2.2.1
theorem dL_law_328 : decode cL_law 328 = .ok (.if_icmp .eq 732, 3) := db_L_law_322.2.2.2.2.1
theorem dL_law_333 : decode cL_law 333 = .ok (.aload_n 1, 1) := db_L_law_322.2.2.2.2.2.1
theorem dL_law_334 : decode cL_law 334 = .ok (.aload_n 0, 1) := db_L_law_322.2.2.2.2.2.2.1
theorem dL_law_335 : decode cL_law 335 = .ok (.iload_n 3, 1) := db_L_law_322.2.2.2.2.2.2.2
set_option maxRecDepth 20000 in
theorem db_L_law_336 : (decode cL_law 336 = .ok (.iconst 1, 1)) ∧ (decode cL_law 337 = .ok (.iadd, 1)) ∧ (decode cL_law 338 = .ok (.iaload, 1)) ∧ (decode cL_law 339 = .ok (.aload_n 0, 1)) ∧ (decode cL_law 340 = .ok (.iload_n 3, 1)) ∧ (decode cL_law 341 = .ok (.iconst 2, 1)) ∧ (decode cL_law 342 = .ok (.iadd, 1)) ∧ (decode cL_law 343 = .ok (.iaload, 1)) := by decide +kernel
theorem dL_law_336 : decode cL_law 336 = .ok (.iconst 1, 1) := db_L_law_336.1
theorem dL_law_337 : decode cL_law 337 = .ok (.iadd, 1) := db_L_law_336.2.1
theorem dL_law_338 : decode cL_law 338 = .ok (.iaload, 1) := db_L_law_336.2.2.1
theorem dL_law_339 : decode cL_law 339 = .ok (.aload_n 0, 1) := db_L_law_336.2.2.2.1
theorem dL_law_340 : decode cL_law 340 = .ok (.iload_n 3, 1) := db_L_law_336.2.2.2.2.1
theorem dL_law_341 : decode cL_law 341 = .ok (.iconst 2, 1) := db_L_law_336.2.2.2.2.2.1
theorem dL_law_342 : decode cL_law 342 = .ok (.iadd, 1) := db_L_law_336.2.2.2.2.2.2.1
theorem dL_law_343 : decode cL_law 343 = .ok (.iaload, 1) := db_L_law_336.2.2.2.2.2.2.2
set_option maxRecDepth 20000 in
theorem ggL_law_X7_weight : GoodIn wsL_law wsX7_weight := goodIn_ch _ [(8, 2), (0, 15), (6, 12), (8, 3), (7, 11), (7, 12), (7, 13), (0, 2), (7, 14), (6, 11), (4, 5), (4, 6), (4, 7), (29, 0), (29, 1), (29, 2), (29, 3), (29, 4), (31, 0), (31, 1), (31, 2), (31, 3), (31, 4), (31, 5), (31, 6), (36, 0), (36, 1), (36, 2), (36, 3), (36, 4), (36, 5), (36, 6), (36, 7), (36, 8), (36, 9), (36, 10)] rfl (by decide +kernel)
set_option maxRecDepth 20000 in
theorem gL_law_X7_weight : GoodIn wsL_law (wsV RL 36 RX7 yX7_weight wsX7_weight) := goodIn_app (goodIn_ch _ [(7, 23), (8, 0), (8, 1), (0, 2)] rfl (by decide +kernel)) ggL_law_X7_weight
set_option maxRecDepth 20000 in
theorem db_L_law_344 : (decode cL_law 344 = .ok (.invokevirtual 36, 3)) ∧ (decode cL_law 347 = .ok (.pop, 1)) ∧ (decode cL_law 348 = .ok (.aload_n 2, 1)) ∧ (decode cL_law 349 = .ok (.aload_n 0, 1)) ∧ (decode cL_law 350 = .ok (.iload_n 3, 1)) ∧ (decode cL_law 351 = .ok (.iconst 1, 1)) ∧ (decode cL_law 352 = .ok (.iadd, 1)) ∧ (decode cL_law 353 = .ok (.iaload, 1)) := by decide +kernel
theorem dL_law_344 : decode cL_law 344 = .ok (.invokevirtual 36, 3) := db_L_law_344.1
theorem dL_law_347 : decode cL_law 347 = .ok (.pop, 1) := db_L_law_344.2.1
theorem dL_law_348 : decode cL_law 348 = .ok (.aload_n 2, 1) := db_L_law_344.2.2.1
theorem dL_law_349 : decode cL_law 349 = .ok (.aload_n 0, 1) := db_L_law_344.2.2.2.1
theorem dL_law_350 : decode cL_law 350 = .ok (.iload_n 3, 1) := db_L_law_344.2.2.2.2.1
theorem dL_law_351 : decode cL_law 351 = .ok (.iconst 1, 1) := db_L_law_344.2.2.2.2.2.1
theorem dL_law_352 : decode cL_law 352 = .ok (.iadd, 1) := db_L_law_344.2.2.2.2.2.2.1
theorem dL_law_353 : decode cL_law 353 = .ok (.iaload, 1) := db_L_law_344.2.2.2.2.2.2.2
set_option maxRecDepth 20000 in
theorem db_L_law_354 : (decode cL_law 354 = .ok (.aload_n 0, 1)) ∧ (decode cL_law 355 = .ok (.iload_n 3, 1)) ∧ (decode cL_law 356 = .ok (.iconst 2, 1)) ∧ (decode cL_law 357 = .ok (.iadd, 1)) ∧ (decode cL_law 358 = .ok (.iaload, 1)) ∧ (decode cL_law 359 = .ok (.invokevirtual 39, 3)) ∧ (decode cL_law 362 = .ok (.pop, 1)) ∧ (decode cL_law 363 = .ok (.goto 697, 3)) := by decide +kernel
theorem dL_law_354 : decode cL_law 354 = .ok (.aload_n 0, 1) := db_L_law_354.1
theorem dL_law_355 : decode cL_law 355 = .ok (.iload_n 3, 1) := db_L_law_354.2.1
theorem dL_law_356 : decode cL_law 356 = .ok (.iconst 2, 1) := db_L_law_354.2.2.1
theorem dL_law_357 : decode cL_law 357 = .ok (.iadd, 1) := db_L_law_354.2.2.2.1
theorem dL_law_358 : decode cL_law 358 = .ok (.iaload, 1) := db_L_law_354.2.2.2.2.1
set_option maxRecDepth 20000 in
theorem ggL_law_X8_weight : GoodIn wsL_law wsX8_weight := goodIn_ch _ [(8, 7), (3, 13), (7, 19), (7, 20), (7, 21), (0, 5), (7, 22), (4, 12), (4, 13), (4, 14), (7, 3), (7, 4), (7, 5), (30, 0), (30, 1), (30, 2), (30, 3), (30, 4), (30, 5), (30, 6), (30, 7), (30, 8), (30, 9), (30, 10)] rfl (by decide +kernel)
set_option maxRecDepth 20000 in
theorem gL_law_X8_weight : GoodIn wsL_law (wsV RL 39 RX8 yX8_weight wsX8_weight) := goodIn_app (goodIn_ch _ [(8, 4), (8, 5), (8, 6), (0, 5)] rfl (by decide +kernel)) ggL_law_X8_weight
theorem dL_law_359 : decode cL_law 359 = .ok (.invokevirtual 39, 3) := db_L_law_354.2.2.2.2.2.1
theorem dL_law_362 : decode cL_law 362 = .ok (.pop, 1) := db_L_law_354.2.2.2.2.2.2.1
theorem dL_law_363 : decode cL_law 363 = .ok (.goto 697, 3) := db_L_law_354.2.2.2.2.2.2.2
set_option maxRecDepth 20000 in
theorem db_L_law_366 : (decode cL_law 366 = .ok (.aload_n 1, 1)) ∧ (decode cL_law 367 = .ok (.aload_n 0, 1)) ∧ (decode cL_law 368 = .ok (.iload_n 3, 1)) ∧ (decode cL_law 369 = .ok (.iconst 1, 1)) ∧ (decode cL_law 370 = .ok (.iadd, 1)) ∧ (decode cL_law 371 = .ok (.iaload, 1)) ∧ (decode cL_law 372 = .ok (.aload_n 0, 1)) ∧ (decode cL_law 373 = .ok (.iload_n 3, 1)) := by decide +kernel
theorem dL_law_366 : decode cL_law 366 = .ok (.aload_n 1, 1) := db_L_law_366.1
theorem dL_law_367 : decode cL_law 367 = .ok (.aload_n 0, 1) := db_L_law_366.2.1
theorem dL_law_368 : decode cL_law 368 = .ok (.iload_n 3, 1) := db_L_law_366.2.2.1
theorem dL_law_369 : decode cL_law 369 = .ok (.iconst 1, 1) := db_L_law_366.2.2.2.1
theorem dL_law_370 : decode cL_law 370 = .ok (.iadd, 1) := db_L_law_366.2.2.2.2.1
theorem dL_law_371 : decode cL_law 371 = .ok (.iaload, 1) := db_L_law_366.2.2.2.2.2.1
theorem dL_law_372 : decode cL_law 372 = .ok (.aload_n 0, 1) := db_L_law_366.2.2.2.2.2.2.1
theorem dL_law_373 : decode cL_law 373 = .ok (.iload_n 3, 1) := db_L_law_366.2.2.2.2.2.2.2
set_option maxRecDepth 20000 in
theorem db_L_law_374 : (decode cL_law 374 = .ok (.iconst 2, 1)) ∧ (decode cL_law 375 = .ok (.iadd, 1)) ∧ (decode cL_law 376 = .ok (.iaload, 1)) ∧ (decode cL_law 377 = .ok (.invokevirtual 40, 3)) ∧ (decode cL_law 380 = .ok (.pop, 1)) ∧ (decode cL_law 381 = .ok (.aload_n 2, 1)) ∧ (decode cL_law 382 = .ok (.aload_n 0, 1)) ∧ (decode cL_law 383 = .ok (.iload_n 3, 1)) := by decide +kernel
theorem dL_law_374 : decode cL_law 374 = .ok (.iconst 2, 1) := db_L_law_374.1
theorem dL_law_375 : decode cL_law 375 = .ok (.iadd, 1) := db_L_law_374.2.1
theorem dL_law_376 : decode cL_law 376 = .ok (.iaload, 1) := db_L_law_374.2.2.1
set_option maxRecDepth 20000 in
theorem ggL_law_X7_mark : GoodIn wsL_law wsX7_mark := goodIn_ch _ [(8, 11), (0, 15), (6, 12), (8, 12), (8, 13), (7, 11), (7, 12), (7, 13), (0, 2), (7, 14), (6, 11), (4, 5), (4, 6), (4, 7), (5, 16), (5, 17), (5, 18), (29, 0), (29, 1), (29, 2), (29, 3), (29, 4), (31, 0), (31, 1), (31, 2), (31, 3), (31, 4), (31, 5), (31, 6), (36, 0), (36, 1), (36, 2), (36, 3), (36, 4), (36, 5), (36, 6), (36, 7), (36, 8), (36, 9), (36, 10)] rfl (by decide +kernel)
set_option maxRecDepth 20000 in
theorem gL_law_X7_mark : GoodIn wsL_law (wsV RL 40 RX7 yX7_mark wsX7_mark) := goodIn_app (goodIn_ch _ [(8, 8), (8, 9), (8, 10), (0, 2)] rfl (by decide +kernel)) ggL_law_X7_mark
theorem dL_law_377 : decode cL_law 377 = .ok (.invokevirtual 40, 3) := db_L_law_374.2.2.2.1
theorem dL_law_380 : decode cL_law 380 = .ok (.pop, 1) := db_L_law_374.2.2.2.2.1
theorem dL_law_381 : decode cL_law 381 = .ok (.aload_n 2, 1) := db_L_law_374.2.2.2.2.2.1
theorem dL_law_382 : decode cL_law 382 = .ok (.aload_n 0, 1) := db_L_law_374.2.2.2.2.2.2.1
theorem dL_law_383 : decode cL_law 383 = .ok (.iload_n 3, 1) := db_L_law_374.2.2.2.2.2.2.2
set_option maxRecDepth 20000 in
theorem db_L_law_384 : (decode cL_law 384 = .ok (.iconst 1, 1)) ∧ (decode cL_law 385 = .ok (.iadd, 1)) ∧ (decode cL_law 386 = .ok (.iaload, 1)) ∧ (decode cL_law 387 = .ok (.aload_n 0, 1)) ∧ (decode cL_law 388 = .ok (.iload_n 3, 1)) ∧ (decode cL_law 389 = .ok (.iconst 2, 1)) ∧ (decode cL_law 390 = .ok (.iadd, 1)) ∧ (decode cL_law 391 = .ok (.iaload, 1)) := by decide +kernel
theorem dL_law_384 : decode cL_law 384 = .ok (.iconst 1, 1) := db_L_law_384.1
theorem dL_law_385 : decode cL_law 385 = .ok (.iadd, 1) := db_L_law_384.2.1
theorem dL_law_386 : decode cL_law 386 = .ok (.iaload, 1) := db_L_law_384.2.2.1
theorem dL_law_387 : decode cL_law 387 = .ok (.aload_n 0, 1) := db_L_law_384.2.2.2.1
theorem dL_law_388 : decode cL_law 388 = .ok (.iload_n 3, 1) := db_L_law_384.2.2.2.2.1
theorem dL_law_389 : decode cL_law 389 = .ok (.iconst 2, 1) := db_L_law_384.2.2.2.2.2.1
theorem dL_law_390 : decode cL_law 390 = .ok (.iadd, 1) := db_L_law_384.2.2.2.2.2.2.1
theorem dL_law_391 : decode cL_law 391 = .ok (.iaload, 1) := db_L_law_384.2.2.2.2.2.2.2
set_option maxRecDepth 20000 in
theorem ggL_law_X8_mark : GoodIn wsL_law wsX8_mark := goodIn_ch _ [(8, 17), (3, 13), (7, 19), (7, 20), (7, 21), (0, 5), (7, 22), (4, 12), (4, 13), (4, 14), (30, 0), (30, 1), (30, 2), (30, 3), (30, 4), (30, 5), (30, 6), (30, 7), (30, 8), (30, 9), (30, 10)] rfl (by decide +kernel)
set_option maxRecDepth 20000 in
theorem gL_law_X8_mark : GoodIn wsL_law (wsV RL 43 RX8 yX8_mark wsX8_mark) := goodIn_app (goodIn_ch _ [(8, 14), (8, 15), (8, 16), (0, 5)] rfl (by decide +kernel)) ggL_law_X8_mark
set_option maxRecDepth 20000 in
theorem db_L_law_392 : (decode cL_law 392 = .ok (.invokevirtual 43, 3)) ∧ (decode cL_law 395 = .ok (.pop, 1)) ∧ (decode cL_law 396 = .ok (.goto 664, 3)) ∧ (decode cL_law 399 = .ok (.aload_n 1, 1)) ∧ (decode cL_law 400 = .ok (.aload_n 0, 1)) ∧ (decode cL_law 401 = .ok (.iload_n 3, 1)) ∧ (decode cL_law 402 = .ok (.iconst 1, 1)) ∧ (decode cL_law 403 = .ok (.iadd, 1)) := by decide +kernel
theorem dL_law_392 : decode cL_law 392 = .ok (.invokevirtual 43, 3) := db_L_law_392.1
theorem dL_law_395 : decode cL_law 395 = .ok (.pop, 1) := db_L_law_392.2.1
theorem dL_law_396 : decode cL_law 396 = .ok (.goto 664, 3) := db_L_law_392.2.2.1
theorem dL_law_399 : decode cL_law 399 = .ok (.aload_n 1, 1) := db_L_law_392.2.2.2.1
theorem dL_law_400 : decode cL_law 400 = .ok (.aload_n 0, 1) := db_L_law_392.2.2.2.2.1
theorem dL_law_401 : decode cL_law 401 = .ok (.iload_n 3, 1) := db_L_law_392.2.2.2.2.2.1
theorem dL_law_402 : decode cL_law 402 = .ok (.iconst 1, 1) := db_L_law_392.2.2.2.2.2.2.1
theorem dL_law_403 : decode cL_law 403 = .ok (.iadd, 1) := db_L_law_392.2.2.2.2.2.2.2
set_option maxRecDepth 20000 in
theorem db_L_law_404 : (decode cL_law 404 = .ok (.iaload, 1)) ∧ (decode cL_law 405 = .ok (.aload_n 0, 1)) ∧ (decode cL_law 406 = .ok (.iload_n 3, 1)) ∧ (decode cL_law 407 = .ok (.iconst 2, 1)) ∧ (decode cL_law 408 = .ok (.iadd, 1)) ∧ (decode cL_law 409 = .ok (.iaload, 1)) ∧ (decode cL_law 410 = .ok (.invokevirtual 44, 3)) ∧ (decode cL_law 413 = .ok (.pop, 1)) := by decide +kernel
theorem dL_law_404 : decode cL_law 404 = .ok (.iaload, 1) := db_L_law_404.1
theorem dL_law_405 : decode cL_law 405 = .ok (.aload_n 0, 1) := db_L_law_404.2.1
theorem dL_law_406 : decode cL_law 406 = .ok (.iload_n 3, 1) := db_L_law_404.2.2.1
theorem dL_law_407 : decode cL_law 407 = .ok (.iconst 2, 1) := db_L_law_404.2.2.2.1
theorem dL_law_408 : decode cL_law 408 = .ok (.iadd, 1) := db_L_law_404.2.2.2.2.1
theorem dL_law_409 : decode cL_law 409 = .ok (.iaload, 1) := db_L_law_404.2.2.2.2.2.1
set_option maxRecDepth 20000 in
theorem ggL_law_X7_of : GoodIn wsL_law wsX7_of := goodIn_ch _ [(8, 21), (0, 15), (6, 12), (8, 22), (7, 10), (8, 23), (9, 0), (8, 3), (7, 11), (7, 12), (7, 13), (0, 2), (7, 14), (6, 11), (4, 5), (4, 6), (4, 7), (9, 1), (9, 2), (9, 3), (0, 14), (9, 4), (9, 5), (9, 6), (9, 7), (9, 8), (9, 9), (1, 11), (9, 10), (5, 17), (5, 18), (9, 11), (9, 12), (9, 13), (9, 14), (9, 15), (9, 16), (9, 17), (9, 18), (29, 0), (29, 1), (29, 2), (29, 3), (29, 4), (31, 0), (31, 1), (31, 2), (31, 3), (31, 4), (31, 5), (31, 6), (36, 0), (36, 1), (36, 2), (36, 3), (36, 4), (36, 5), (36, 6), (36, 7), (36, 8), (36, 9), (36, 10)] rfl (by decide +kernel)
set_option maxRecDepth 20000 in
theorem gL_law_X7_of : GoodIn wsL_law (wsV RL 44 RX7 yX7_of wsX7_of) := goodIn_app (goodIn_ch _ [(8, 18), (8, 19), (8, 20), (0, 2)] rfl (by decide +kernel)) ggL_law_X7_of
theorem dL_law_410 : decode cL_law 410 = .ok (.invokevirtual 44, 3) := db_L_law_404.2.2.2.2.2.2.1
theorem dL_law_413 : decode cL_law 413 = .ok (.pop, 1) := db_L_law_404.2.2.2.2.2.2.2
set_option maxRecDepth 20000 in
theorem db_L_law_414 : (decode cL_law 414 = .ok (.aload_n 2, 1)) ∧ (decode cL_law 415 = .ok (.aload_n 0, 1)) ∧ (decode cL_law 416 = .ok (.iload_n 3, 1)) ∧ (decode cL_law 417 = .ok (.iconst 1, 1)) ∧ (decode cL_law 418 = .ok (.iadd, 1)) ∧ (decode cL_law 419 = .ok (.iaload, 1)) ∧ (decode cL_law 420 = .ok (.aload_n 0, 1)) ∧ (decode cL_law 421 = .ok (.iload_n 3, 1)) := by decide +kernel
theorem dL_law_414 : decode cL_law 414 = .ok (.aload_n 2, 1) := db_L_law_414.1
theorem dL_law_415 : decode cL_law 415 = .ok (.aload_n 0, 1) := db_L_law_414.2.1
theorem dL_law_416 : decode cL_law 416 = .ok (.iload_n 3, 1) := db_L_law_414.2.2.1
theorem dL_law_417 : decode cL_law 417 = .ok (.iconst 1, 1) := db_L_law_414.2.2.2.1
theorem dL_law_418 : decode cL_law 418 = .ok (.iadd, 1) := db_L_law_414.2.2.2.2.1
theorem dL_law_419 : decode cL_law 419 = .ok (.iaload, 1) := db_L_law_414.2.2.2.2.2.1
theorem dL_law_420 : decode cL_law 420 = .ok (.aload_n 0, 1) := db_L_law_414.2.2.2.2.2.2.1
theorem dL_law_421 : decode cL_law 421 = .ok (.iload_n 3, 1) := db_L_law_414.2.2.2.2.2.2.2
set_option maxRecDepth 20000 in
theorem db_L_law_422 : (decode cL_law 422 = .ok (.iconst 2, 1)) ∧ (decode cL_law 423 = .ok (.iadd, 1)) ∧ (decode cL_law 424 = .ok (.iaload, 1)) ∧ (decode cL_law 425 = .ok (.invokevirtual 47, 3)) ∧ (decode cL_law 428 = .ok (.pop, 1)) ∧ (decode cL_law 429 = .ok (.goto 631, 3)) ∧ (decode cL_law 432 = .ok (.aload_n 1, 1)) ∧ (decode cL_law 433 = .ok (.aload_n 0, 1)) := by decide +kernel
theorem dL_law_422 : decode cL_law 422 = .ok (.iconst 2, 1) := db_L_law_422.1
theorem dL_law_423 : decode cL_law 423 = .ok (.iadd, 1) := db_L_law_422.2.1
theorem dL_law_424 : decode cL_law 424 = .ok (.iaload, 1) := db_L_law_422.2.2.1
set_option maxRecDepth 20000 in
theorem ggL_law_X8_of : GoodIn wsL_law wsX8_of := goodIn_ch _ [(9, 22), (3, 16), (3, 13), (7, 19), (7, 20), (7, 21), (0, 5), (7, 22), (4, 12), (4, 13), (4, 14), (9, 23), (10, 0), (10, 1), (10, 2), (10, 3), (10, 4), (10, 5), (10, 6), (7, 3), (7, 4), (7, 5), (30, 0), (30, 1), (30, 2), (30, 3), (30, 4), (30, 5), (30, 6), (30, 7), (30, 8), (30, 9), (30, 10)] rfl (by decide +kernel)
set_option maxRecDepth 20000 in
theorem gL_law_X8_of : GoodIn wsL_law (wsV RL 47 RX8 yX8_of wsX8_of) := goodIn_app (goodIn_ch _ [(9, 19), (9, 20), (9, 21), (0, 5)] rfl (by decide +kernel)) ggL_law_X8_of
theorem dL_law_425 : decode cL_law 425 = .ok (.invokevirtual 47, 3) := db_L_law_422.2.2.2.1
theorem dL_law_428 : decode cL_law 428 = .ok (.pop, 1) := db_L_law_422.2.2.2.2.1
theorem dL_law_429 : decode cL_law 429 = .ok (.goto 631, 3) := db_L_law_422.2.2.2.2.2.1
theorem dL_law_432 : decode cL_law 432 = .ok (.aload_n 1, 1) := db_L_law_422.2.2.2.2.2.2.1
theorem dL_law_433 : decode cL_law 433 = .ok (.aload_n 0, 1) := db_L_law_422.2.2.2.2.2.2.2
set_option maxRecDepth 20000 in
theorem db_L_law_434 : (decode cL_law 434 = .ok (.iload_n 3, 1)) ∧ (decode cL_law 435 = .ok (.iconst 1, 1)) ∧ (decode cL_law 436 = .ok (.iadd, 1)) ∧ (decode cL_law 437 = .ok (.iaload, 1)) ∧ (decode cL_law 438 = .ok (.aload_n 0, 1)) ∧ (decode cL_law 439 = .ok (.iload_n 3, 1)) ∧ (decode cL_law 440 = .ok (.iconst 2, 1)) ∧ (decode cL_law 441 = .ok (.iadd, 1)) := by decide +kernel
theorem dL_law_434 : decode cL_law 434 = .ok (.iload_n 3, 1) := db_L_law_434.1
theorem dL_law_435 : decode cL_law 435 = .ok (.iconst 1, 1) := db_L_law_434.2.1
theorem dL_law_436 : decode cL_law 436 = .ok (.iadd, 1) := db_L_law_434.2.2.1
theorem dL_law_437 : decode cL_law 437 = .ok (.iaload, 1) := db_L_law_434.2.2.2.1
theorem dL_law_438 : decode cL_law 438 = .ok (.aload_n 0, 1) := db_L_law_434.2.2.2.2.1
theorem dL_law_439 : decode cL_law 439 = .ok (.iload_n 3, 1) := db_L_law_434.2.2.2.2.2.1
theorem dL_law_440 : decode cL_law 440 = .ok (.iconst 2, 1) := db_L_law_434.2.2.2.2.2.2.1
theorem dL_law_441 : decode cL_law 441 = .ok (.iadd, 1) := db_L_law_434.2.2.2.2.2.2.2
set_option maxRecDepth 20000 in
theorem db_L_law_442 : (decode cL_law 442 = .ok (.iaload, 1)) ∧ (decode cL_law 443 = .ok (.aload_n 0, 1)) ∧ (decode cL_law 444 = .ok (.iload_n 3, 1)) ∧ (decode cL_law 445 = .ok (.iconst 3, 1)) ∧ (decode cL_law 446 = .ok (.iadd, 1)) ∧ (decode cL_law 447 = .ok (.iaload, 1)) ∧ (decode cL_law 448 = .ok (.invokevirtual 48, 3)) ∧ (decode cL_law 451 = .ok (.pop, 1)) := by decide +kernel
theorem dL_law_442 : decode cL_law 442 = .ok (.iaload, 1) := db_L_law_442.1
theorem dL_law_443 : decode cL_law 443 = .ok (.aload_n 0, 1) := db_L_law_442.2.1
theorem dL_law_444 : decode cL_law 444 = .ok (.iload_n 3, 1) := db_L_law_442.2.2.1
theorem dL_law_445 : decode cL_law 445 = .ok (.iconst 3, 1) := db_L_law_442.2.2.2.1
theorem dL_law_446 : decode cL_law 446 = .ok (.iadd, 1) := db_L_law_442.2.2.2.2.1
theorem dL_law_447 : decode cL_law 447 = .ok (.iaload, 1) := db_L_law_442.2.2.2.2.2.1
set_option maxRecDepth 20000 in
theorem ggL_law_X7_offer : GoodIn wsL_law wsX7_offer := goodIn_ch _ [(10, 10), (0, 15), (6, 12), (7, 10), (10, 11), (9, 0), (7, 11), (7, 12), (7, 13), (0, 2), (7, 14), (6, 11), (4, 5), (4, 6), (4, 7), (10, 12), (10, 13), (10, 14), (10, 15), (10, 16), (10, 17), (1, 17), (10, 18), (2, 6), (6, 19), (2, 8), (6, 17), (6, 18), (29, 0), (29, 1), (29, 2), (29, 3), (29, 4), (31, 0), (31, 1), (31, 2), (31, 3), (31, 4), (31, 5), (31, 6), (36, 0), (36, 1), (36, 2), (36, 3), (36, 4), (36, 5), (36, 6), (36, 7), (36, 8), (36, 9), (36, 10)] rfl (by decide +kernel)
set_option maxRecDepth 20000 in
theorem gL_law_X7_offer : GoodIn wsL_law (wsV RL 48 RX7 yX7_offer wsX7_offer) := goodIn_app (goodIn_ch _ [(10, 7), (10, 8), (10, 9), (0, 2)] rfl (by decide +kernel)) ggL_law_X7_offer
theorem dL_law_448 : decode cL_law 448 = .ok (.invokevirtual 48, 3) := db_L_law_442.2.2.2.2.2.2.1
theorem dL_law_451 : decode cL_law 451 = .ok (.pop, 1) := db_L_law_442.2.2.2.2.2.2.2
set_option maxRecDepth 20000 in
theorem db_L_law_452 : (decode cL_law 452 = .ok (.aload_n 2, 1)) ∧ (decode cL_law 453 = .ok (.aload_n 0, 1)) ∧ (decode cL_law 454 = .ok (.iload_n 3, 1)) ∧ (decode cL_law 455 = .ok (.iconst 1, 1)) ∧ (decode cL_law 456 = .ok (.iadd, 1)) ∧ (decode cL_law 457 = .ok (.iaload, 1)) ∧ (decode cL_law 458 = .ok (.aload_n 0, 1)) ∧ (decode cL_law 459 = .ok (.iload_n 3, 1)) := by decide +kernel
theorem dL_law_452 : decode cL_law 452 = .ok (.aload_n 2, 1) := db_L_law_452.1
theorem dL_law_453 : decode cL_law 453 = .ok (.aload_n 0, 1) := db_L_law_452.2.1
theorem dL_law_454 : decode cL_law 454 = .ok (.iload_n 3, 1) := db_L_law_452.2.2.1
theorem dL_law_455 : decode cL_law 455 = .ok (.iconst 1, 1) := db_L_law_452.2.2.2.1
theorem dL_law_456 : decode cL_law 456 = .ok (.iadd, 1) := db_L_law_452.2.2.2.2.1
theorem dL_law_457 : decode cL_law 457 = .ok (.iaload, 1) := db_L_law_452.2.2.2.2.2.1
theorem dL_law_458 : decode cL_law 458 = .ok (.aload_n 0, 1) := db_L_law_452.2.2.2.2.2.2.1
theorem dL_law_459 : decode cL_law 459 = .ok (.iload_n 3, 1) := db_L_law_452.2.2.2.2.2.2.2
set_option maxRecDepth 20000 in
theorem db_L_law_460 : (decode cL_law 460 = .ok (.iconst 2, 1)) ∧ (decode cL_law 461 = .ok (.iadd, 1)) ∧ (decode cL_law 462 = .ok (.iaload, 1)) ∧ (decode cL_law 463 = .ok (.aload_n 0, 1)) ∧ (decode cL_law 464 = .ok (.iload_n 3, 1)) ∧ (decode cL_law 465 = .ok (.iconst 3, 1)) ∧ (decode cL_law 466 = .ok (.iadd, 1)) ∧ (decode cL_law 467 = .ok (.iaload, 1)) := by decide +kernel
theorem dL_law_460 : decode cL_law 460 = .ok (.iconst 2, 1) := db_L_law_460.1
theorem dL_law_461 : decode cL_law 461 = .ok (.iadd, 1) := db_L_law_460.2.1
theorem dL_law_462 : decode cL_law 462 = .ok (.iaload, 1) := db_L_law_460.2.2.1
theorem dL_law_463 : decode cL_law 463 = .ok (.aload_n 0, 1) := db_L_law_460.2.2.2.1
theorem dL_law_464 : decode cL_law 464 = .ok (.iload_n 3, 1) := db_L_law_460.2.2.2.2.1
theorem dL_law_465 : decode cL_law 465 = .ok (.iconst 3, 1) := db_L_law_460.2.2.2.2.2.1
theorem dL_law_466 : decode cL_law 466 = .ok (.iadd, 1) := db_L_law_460.2.2.2.2.2.2.1
theorem dL_law_467 : decode cL_law 467 = .ok (.iaload, 1) := db_L_law_460.2.2.2.2.2.2.2
set_option maxRecDepth 20000 in
theorem ggL_law_X8_offer : GoodIn wsL_law wsX8_offer := goodIn_ch _ [(10, 22), (3, 13), (7, 19), (7, 20), (7, 21), (0, 5), (7, 22), (4, 12), (4, 13), (4, 14), (10, 23), (11, 0), (11, 1), (7, 3), (7, 4), (7, 5), (30, 0), (30, 1), (30, 2), (30, 3), (30, 4), (30, 5), (30, 6), (30, 7), (30, 8), (30, 9), (30, 10)] rfl (by decide +kernel)
set_option maxRecDepth 20000 in
theorem gL_law_X8_offer : GoodIn wsL_law (wsV RL 52 RX8 yX8_offer wsX8_offer) := goodIn_app (goodIn_ch _ [(10, 19), (10, 20), (10, 21), (0, 5)] rfl (by decide +kernel)) ggL_law_X8_offer
set_option maxRecDepth 20000 in
theorem db_L_law_468 : (decode cL_law 468 = .ok (.invokevirtual 52, 3)) ∧ (decode cL_law 471 = .ok (.pop, 1)) ∧ (decode cL_law 472 = .ok (.goto 588, 3)) ∧ (decode cL_law 475 = .ok (.aload_n 1, 1)) ∧ (decode cL_law 476 = .ok (.aload_n 0, 1)) ∧ (decode cL_law 477 = .ok (.iload_n 3, 1)) ∧ (decode cL_law 478 = .ok (.iconst 1, 1)) ∧ (decode cL_law 479 = .ok (.iadd, 1)) := by decide +kernel
theorem dL_law_468 : decode cL_law 468 = .ok (.invokevirtual 52, 3) := db_L_law_468.1
theorem dL_law_471 : decode cL_law 471 = .ok (.pop, 1) := db_L_law_468.2.1
theorem dL_law_472 : decode cL_law 472 = .ok (.goto 588, 3) := db_L_law_468.2.2.1
theorem dL_law_475 : decode cL_law 475 = .ok (.aload_n 1, 1) := db_L_law_468.2.2.2.1
theorem dL_law_476 : decode cL_law 476 = .ok (.aload_n 0, 1) := db_L_law_468.2.2.2.2.1
theorem dL_law_477 : decode cL_law 477 = .ok (.iload_n 3, 1) := db_L_law_468.2.2.2.2.2.1
theorem dL_law_478 : decode cL_law 478 = .ok (.iconst 1, 1) := db_L_law_468.2.2.2.2.2.2.1
theorem dL_law_479 : decode cL_law 479 = .ok (.iadd, 1) := db_L_law_468.2.2.2.2.2.2.2
set_option maxRecDepth 20000 in
theorem db_L_law_480 : (decode cL_law 480 = .ok (.iaload, 1)) ∧ (decode cL_law 481 = .ok (.aload_n 0, 1)) ∧ (decode cL_law 482 = .ok (.iload_n 3, 1)) ∧ (decode cL_law 483 = .ok (.iconst 2, 1)) ∧ (decode cL_law 484 = .ok (.iadd, 1)) ∧ (decode cL_law 485 = .ok (.iaload, 1)) ∧ (decode cL_law 486 = .ok (.invokevirtual 53, 3)) ∧ (decode cL_law 489 = .ok (.pop, 1)) := by decide +kernel
theorem dL_law_480 : decode cL_law 480 = .ok (.iaload, 1) := db_L_law_480.1
theorem dL_law_481 : decode cL_law 481 = .ok (.aload_n 0, 1) := db_L_law_480.2.1
theorem dL_law_482 : decode cL_law 482 = .ok (.iload_n 3, 1) := db_L_law_480.2.2.1
theorem dL_law_483 : decode cL_law 483 = .ok (.iconst 2, 1) := db_L_law_480.2.2.2.1
theorem dL_law_484 : decode cL_law 484 = .ok (.iadd, 1) := db_L_law_480.2.2.2.2.1
theorem dL_law_485 : decode cL_law 485 = .ok (.iaload, 1) := db_L_law_480.2.2.2.2.2.1
set_option maxRecDepth 20000 in
theorem ggL_law_X7_put : GoodIn wsL_law wsX7_put := goodIn_ch _ [(11, 5), (0, 15), (6, 12), (10, 11), (7, 11), (7, 12), (7, 13), (0, 2), (7, 14), (6, 11), (4, 5), (4, 6), (4, 7), (10, 12), (10, 13), (10, 14), (29, 0), (29, 1), (29, 2), (29, 3), (29, 4), (31, 0), (31, 1), (31, 2), (31, 3), (31, 4), (31, 5), (31, 6), (36, 0), (36, 1), (36, 2), (36, 3), (36, 4), (36, 5), (36, 6), (36, 7), (36, 8), (36, 9), (36, 10)] rfl (by decide +kernel)
set_option maxRecDepth 20000 in
theorem gL_law_X7_put : GoodIn wsL_law (wsV RL 53 RX7 yX7_put wsX7_put) := goodIn_app (goodIn_ch _ [(11, 2), (11, 3), (11, 4), (0, 2)] rfl (by decide +kernel)) ggL_law_X7_put
theorem dL_law_486 : decode cL_law 486 = .ok (.invokevirtual 53, 3) := db_L_law_480.2.2.2.2.2.2.1
theorem dL_law_489 : decode cL_law 489 = .ok (.pop, 1) := db_L_law_480.2.2.2.2.2.2.2
set_option maxRecDepth 20000 in
theorem db_L_law_490 : (decode cL_law 490 = .ok (.aload_n 2, 1)) ∧ (decode cL_law 491 = .ok (.aload_n 0, 1)) ∧ (decode cL_law 492 = .ok (.iload_n 3, 1)) ∧ (decode cL_law 493 = .ok (.iconst 1, 1)) ∧ (decode cL_law 494 = .ok (.iadd, 1)) ∧ (decode cL_law 495 = .ok (.iaload, 1)) ∧ (decode cL_law 496 = .ok (.aload_n 0, 1)) ∧ (decode cL_law 497 = .ok (.iload_n 3, 1)) := by decide +kernel
theorem dL_law_490 : decode cL_law 490 = .ok (.aload_n 2, 1) := db_L_law_490.1
theorem dL_law_491 : decode cL_law 491 = .ok (.aload_n 0, 1) := db_L_law_490.2.1
theorem dL_law_492 : decode cL_law 492 = .ok (.iload_n 3, 1) := db_L_law_490.2.2.1
theorem dL_law_493 : decode cL_law 493 = .ok (.iconst 1, 1) := db_L_law_490.2.2.2.1
theorem dL_law_494 : decode cL_law 494 = .ok (.iadd, 1) := db_L_law_490.2.2.2.2.1
theorem dL_law_495 : decode cL_law 495 = .ok (.iaload, 1) := db_L_law_490.2.2.2.2.2.1
theorem dL_law_496 : decode cL_law 496 = .ok (.aload_n 0, 1) := db_L_law_490.2.2.2.2.2.2.1
theorem dL_law_497 : decode cL_law 497 = .ok (.iload_n 3, 1) := db_L_law_490.2.2.2.2.2.2.2
set_option maxRecDepth 20000 in
theorem db_L_law_498 : (decode cL_law 498 = .ok (.iconst 2, 1)) ∧ (decode cL_law 499 = .ok (.iadd, 1)) ∧ (decode cL_law 500 = .ok (.iaload, 1)) ∧ (decode cL_law 501 = .ok (.invokevirtual 56, 3)) ∧ (decode cL_law 504 = .ok (.pop, 1)) ∧ (decode cL_law 505 = .ok (.goto 555, 3)) ∧ (decode cL_law 508 = .ok (.aload_n 1, 1)) ∧ (decode cL_law 509 = .ok (.aload_n 0, 1)) := by decide +kernel
theorem dL_law_498 : decode cL_law 498 = .ok (.iconst 2, 1) := db_L_law_498.1
theorem dL_law_499 : decode cL_law 499 = .ok (.iadd, 1) := db_L_law_498.2.1
theorem dL_law_500 : decode cL_law 500 = .ok (.iaload, 1) := db_L_law_498.2.2.1
set_option maxRecDepth 20000 in
theorem ggL_law_X8_put : GoodIn wsL_law wsX8_put := goodIn_ch _ [(11, 9), (3, 13), (7, 19), (7, 20), (7, 21), (0, 5), (7, 22), (4, 12), (4, 13), (4, 14), (10, 23), (11, 0), (11, 1), (30, 0), (30, 1), (30, 2), (30, 3), (30, 4), (30, 5), (30, 6), (30, 7), (30, 8), (30, 9), (30, 10)] rfl (by decide +kernel)
set_option maxRecDepth 20000 in
theorem gL_law_X8_put : GoodIn wsL_law (wsV RL 56 RX8 yX8_put wsX8_put) := goodIn_app (goodIn_ch _ [(11, 6), (11, 7), (11, 8), (0, 5)] rfl (by decide +kernel)) ggL_law_X8_put
theorem dL_law_501 : decode cL_law 501 = .ok (.invokevirtual 56, 3) := db_L_law_498.2.2.2.1
theorem dL_law_504 : decode cL_law 504 = .ok (.pop, 1) := db_L_law_498.2.2.2.2.1
theorem dL_law_505 : decode cL_law 505 = .ok (.goto 555, 3) := db_L_law_498.2.2.2.2.2.1
theorem dL_law_508 : decode cL_law 508 = .ok (.aload_n 1, 1) := db_L_law_498.2.2.2.2.2.2.1
theorem dL_law_509 : decode cL_law 509 = .ok (.aload_n 0, 1) := db_L_law_498.2.2.2.2.2.2.2
set_option maxRecDepth 20000 in
theorem db_L_law_510 : (decode cL_law 510 = .ok (.iload_n 3, 1)) ∧ (decode cL_law 511 = .ok (.iconst 1, 1)) ∧ (decode cL_law 512 = .ok (.iadd, 1)) ∧ (decode cL_law 513 = .ok (.iaload, 1)) ∧ (decode cL_law 514 = .ok (.aload_n 0, 1)) ∧ (decode cL_law 515 = .ok (.iload_n 3, 1)) ∧ (decode cL_law 516 = .ok (.iconst 2, 1)) ∧ (decode cL_law 517 = .ok (.iadd, 1)) := by decide +kernel
theorem dL_law_510 : decode cL_law 510 = .ok (.iload_n 3, 1) := db_L_law_510.1
theorem dL_law_511 : decode cL_law 511 = .ok (.iconst 1, 1) := db_L_law_510.2.1
theorem dL_law_512 : decode cL_law 512 = .ok (.iadd, 1) := db_L_law_510.2.2.1
theorem dL_law_513 : decode cL_law 513 = .ok (.iaload, 1) := db_L_law_510.2.2.2.1
theorem dL_law_514 : decode cL_law 514 = .ok (.aload_n 0, 1) := db_L_law_510.2.2.2.2.1
theorem dL_law_515 : decode cL_law 515 = .ok (.iload_n 3, 1) := db_L_law_510.2.2.2.2.2.1
theorem dL_law_516 : decode cL_law 516 = .ok (.iconst 2, 1) := db_L_law_510.2.2.2.2.2.2.1
theorem dL_law_517 : decode cL_law 517 = .ok (.iadd, 1) := db_L_law_510.2.2.2.2.2.2.2
set_option maxRecDepth 20000 in
theorem db_L_law_518 : (decode cL_law 518 = .ok (.iaload, 1)) ∧ (decode cL_law 519 = .ok (.aload_n 0, 1)) ∧ (decode cL_law 520 = .ok (.iload_n 3, 1)) ∧ (decode cL_law 521 = .ok (.iconst 3, 1)) ∧ (decode cL_law 522 = .ok (.iadd, 1)) ∧ (decode cL_law 523 = .ok (.iaload, 1)) ∧ (decode cL_law 524 = .ok (.aload_n 0, 1)) ∧ (decode cL_law 525 = .ok (.iload_n 3, 1)) := by decide +kernel
theorem dL_law_518 : decode cL_law 518 = .ok (.iaload, 1) := db_L_law_518.1
theorem dL_law_519 : decode cL_law 519 = .ok (.aload_n 0, 1) := db_L_law_518.2.1
theorem dL_law_520 : decode cL_law 520 = .ok (.iload_n 3, 1) := db_L_law_518.2.2.1
theorem dL_law_521 : decode cL_law 521 = .ok (.iconst 3, 1) := db_L_law_518.2.2.2.1
theorem dL_law_522 : decode cL_law 522 = .ok (.iadd, 1) := db_L_law_518.2.2.2.2.1
theorem dL_law_523 : decode cL_law 523 = .ok (.iaload, 1) := db_L_law_518.2.2.2.2.2.1
theorem dL_law_524 : decode cL_law 524 = .ok (.aload_n 0, 1) := db_L_law_518.2.2.2.2.2.2.1
theorem dL_law_525 : decode cL_law 525 = .ok (.iload_n 3, 1) := db_L_law_518.2.2.2.2.2.2.2
set_option maxRecDepth 20000 in
theorem db_L_law_526 : (decode cL_law 526 = .ok (.iconst 4, 1)) ∧ (decode cL_law 527 = .ok (.iadd, 1)) ∧ (decode cL_law 528 = .ok (.iaload, 1)) ∧ (decode cL_law 529 = .ok (.ifCond .eq 7, 3)) ∧ (decode cL_law 536 = .ok (.iconst 0, 1)) ∧ (decode cL_law 537 = .ok (.invokevirtual 57, 3)) ∧ (decode cL_law 540 = .ok (.pop, 1)) ∧ (decode cL_law 541 = .ok (.aload_n 2, 1)) := by decide +kernel
theorem dL_law_526 : decode cL_law 526 = .ok (.iconst 4, 1) := db_L_law_526.1
theorem dL_law_527 : decode cL_law 527 = .ok (.iadd, 1) := db_L_law_526.2.1
theorem dL_law_528 : decode cL_law 528 = .ok (.iaload, 1) := db_L_law_526.2.2.1
theorem dL_law_529 : decode cL_law 529 = .ok (.ifCond .eq 7, 3) := db_L_law_526.2.2.2.1
theorem dL_law_536 : decode cL_law 536 = .ok (.iconst 0, 1) := db_L_law_526.2.2.2.2.1
set_option maxRecDepth 20000 in
theorem ggL_law_X7_learns : GoodIn wsL_law wsX7_learns := goodIn_ch _ [(11, 13), (0, 15), (6, 12), (9, 0), (7, 11), (7, 12), (7, 13), (0, 2), (7, 14), (6, 11), (4, 5), (4, 6), (4, 7), (10, 12), (10, 13), (10, 14), (11, 14), (11, 15), (11, 16), (1, 17), (11, 17), (2, 8), (6, 18), (11, 18), (11, 19), (11, 20), (11, 21), (11, 22), (11, 23), (12, 0), (12, 1), (6, 17), (6, 19), (12, 2), (12, 3), (12, 4), (12, 5), (12, 6), (12, 7), (12, 8), (29, 0), (29, 1), (29, 2), (29, 3), (29, 4), (31, 0), (31, 1), (31, 2), (31, 3), (31, 4), (31, 5), (31, 6), (36, 0), (36, 1), (36, 2), (36, 3), (36, 4), (36, 5), (36, 6), (36, 7), (36, 8), (36, 9), (36, 10)] rfl (by decide +kernel)
set_option maxRecDepth 20000 in
theorem gL_law_X7_learns : GoodIn wsL_law (wsV RL 57 RX7 yX7_learns wsX7_learns) := goodIn_app (goodIn_ch _ [(11, 10), (11, 11), (11, 12), (0, 2)] rfl (by decide +kernel)) ggL_law_X7_learns
theorem dL_law_537 : decode cL_law 537 = .ok (.invokevirtual 57, 3) := db_L_law_526.2.2.2.2.2.1
theorem dL_law_540 : decode cL_law 540 = .ok (.pop, 1) := db_L_law_526.2.2.2.2.2.2.1
theorem dL_law_541 : decode cL_law 541 = .ok (.aload_n 2, 1) := db_L_law_526.2.2.2.2.2.2.2
set_option maxRecDepth 20000 in
theorem db_L_law_542 : (decode cL_law 542 = .ok (.aload_n 0, 1)) ∧ (decode cL_law 543 = .ok (.iload_n 3, 1)) ∧ (decode cL_law 544 = .ok (.iconst 1, 1)) ∧ (decode cL_law 545 = .ok (.iadd, 1)) ∧ (decode cL_law 546 = .ok (.iaload, 1)) ∧ (decode cL_law 547 = .ok (.aload_n 0, 1)) ∧ (decode cL_law 548 = .ok (.iload_n 3, 1)) ∧ (decode cL_law 549 = .ok (.iconst 2, 1)) := by decide +kernel
theorem dL_law_542 : decode cL_law 542 = .ok (.aload_n 0, 1) := db_L_law_542.1
theorem dL_law_543 : decode cL_law 543 = .ok (.iload_n 3, 1) := db_L_law_542.2.1
theorem dL_law_544 : decode cL_law 544 = .ok (.iconst 1, 1) := db_L_law_542.2.2.1
theorem dL_law_545 : decode cL_law 545 = .ok (.iadd, 1) := db_L_law_542.2.2.2.1
theorem dL_law_546 : decode cL_law 546 = .ok (.iaload, 1) := db_L_law_542.2.2.2.2.1
theorem dL_law_547 : decode cL_law 547 = .ok (.aload_n 0, 1) := db_L_law_542.2.2.2.2.2.1
theorem dL_law_548 : decode cL_law 548 = .ok (.iload_n 3, 1) := db_L_law_542.2.2.2.2.2.2.1
theorem dL_law_549 : decode cL_law 549 = .ok (.iconst 2, 1) := db_L_law_542.2.2.2.2.2.2.2
set_option maxRecDepth 20000 in
theorem db_L_law_550 : (decode cL_law 550 = .ok (.iadd, 1)) ∧ (decode cL_law 551 = .ok (.iaload, 1)) ∧ (decode cL_law 552 = .ok (.aload_n 0, 1)) ∧ (decode cL_law 553 = .ok (.iload_n 3, 1)) ∧ (decode cL_law 554 = .ok (.iconst 3, 1)) ∧ (decode cL_law 555 = .ok (.iadd, 1)) ∧ (decode cL_law 556 = .ok (.iaload, 1)) ∧ (decode cL_law 557 = .ok (.aload_n 0, 1)) := by decide +kernel
theorem dL_law_550 : decode cL_law 550 = .ok (.iadd, 1) := db_L_law_550.1
theorem dL_law_551 : decode cL_law 551 = .ok (.iaload, 1) := db_L_law_550.2.1
theorem dL_law_552 : decode cL_law 552 = .ok (.aload_n 0, 1) := db_L_law_550.2.2.1
theorem dL_law_553 : decode cL_law 553 = .ok (.iload_n 3, 1) := db_L_law_550.2.2.2.1
theorem dL_law_554 : decode cL_law 554 = .ok (.iconst 3, 1) := db_L_law_550.2.2.2.2.1
theorem dL_law_555 : decode cL_law 555 = .ok (.iadd, 1) := db_L_law_550.2.2.2.2.2.1
theorem dL_law_556 : decode cL_law 556 = .ok (.iaload, 1) := db_L_law_550.2.2.2.2.2.2.1
theorem dL_law_557 : decode cL_law 557 = .ok (.aload_n 0, 1) := db_L_law_550.2.2.2.2.2.2.2
set_option maxRecDepth 20000 in
theorem db_L_law_558 : (decode cL_law 558 = .ok (.iload_n 3, 1)) ∧ (decode cL_law 559 = .ok (.iconst 4, 1)) ∧ (decode cL_law 560 = .ok (.iadd, 1)) ∧ (decode cL_law 561 = .ok (.iaload, 1)) ∧ (decode cL_law 562 = .ok (.ifCond .eq 7, 3)) ∧ (decode cL_law 569 = .ok (.iconst 0, 1)) ∧ (decode cL_law 570 = .ok (.invokevirtual 61, 3)) ∧ (decode cL_law 573 = .ok (.pop, 1)) := by decide +kernel
theorem dL_law_558 : decode cL_law 558 = .ok (.iload_n 3, 1) := db_L_law_558.1
theorem dL_law_559 : decode cL_law 559 = .ok (.iconst 4, 1) := db_L_law_558.2.1
theorem dL_law_560 : decode cL_law 560 = .ok (.iadd, 1) := db_L_law_558.2.2.1
theorem dL_law_561 : decode cL_law 561 = .ok (.iaload, 1) := db_L_law_558.2.2.2.1
theorem dL_law_562 : decode cL_law 562 = .ok (.ifCond .eq 7, 3) := db_L_law_558.2.2.2.2.1
theorem dL_law_569 : decode cL_law 569 = .ok (.iconst 0, 1) := db_L_law_558.2.2.2.2.2.1
set_option maxRecDepth 20000 in
theorem ggL_law_X8_learns : GoodIn wsL_law wsX8_learns := goodIn_ch _ [(12, 12), (3, 13), (7, 19), (7, 20), (7, 21), (0, 5), (7, 22), (4, 12), (4, 13), (4, 14), (10, 23), (11, 0), (11, 1), (7, 3), (7, 4), (7, 5), (30, 0), (30, 1), (30, 2), (30, 3), (30, 4), (30, 5), (30, 6), (30, 7), (30, 8), (30, 9), (30, 10)] rfl (by decide +kernel)
set_option maxRecDepth 20000 in
theorem gL_law_X8_learns : GoodIn wsL_law (wsV RL 61 RX8 yX8_learns wsX8_learns) := goodIn_app (goodIn_ch _ [(12, 9), (12, 10), (12, 11), (0, 5)] rfl (by decide +kernel)) ggL_law_X8_learns
theorem dL_law_570 : decode cL_law 570 = .ok (.invokevirtual 61, 3) := db_L_law_558.2.2.2.2.2.2.1
theorem dL_law_573 : decode cL_law 573 = .ok (.pop, 1) := db_L_law_558.2.2.2.2.2.2.2
set_option maxRecDepth 20000 in
theorem db_L_law_574 : (decode cL_law 574 = .ok (.goto 486, 3)) ∧ (decode cL_law 532 = .ok (.iconst 1, 1)) ∧ (decode cL_law 533 = .ok (.goto 4, 3)) ∧ (decode cL_law 565 = .ok (.iconst 1, 1)) ∧ (decode cL_law 566 = .ok (.goto 4, 3)) ∧ (decode cL_law 577 = .ok (.aload_n 1, 1)) ∧ (decode cL_law 578 = .ok (.aload_n 0, 1)) ∧ (decode cL_law 579 = .ok (.iload_n 3, 1)) := by decide +kernel
theorem dL_law_574 : decode cL_law 574 = .ok (.goto 486, 3) := db_L_law_574.1
theorem dL_law_532 : decode cL_law 532 = .ok (.iconst 1, 1) := db_L_law_574.2.1
theorem dL_law_533 : decode cL_law 533 = .ok (.goto 4, 3) := db_L_law_574.2.2.1
theorem dL_law_565 : decode cL_law 565 = .ok (.iconst 1, 1) := db_L_law_574.2.2.2.1
theorem dL_law_566 : decode cL_law 566 = .ok (.goto 4, 3) := db_L_law_574.2.2.2.2.1
theorem dL_law_577 : decode cL_law 577 = .ok (.aload_n 1, 1) := db_L_law_574.2.2.2.2.2.1
theorem dL_law_578 : decode cL_law 578 = .ok (.aload_n 0, 1) := db_L_law_574.2.2.2.2.2.2.1
theorem dL_law_579 : decode cL_law 579 = .ok (.iload_n 3, 1) := db_L_law_574.2.2.2.2.2.2.2
set_option maxRecDepth 20000 in
theorem db_L_law_580 : (decode cL_law 580 = .ok (.iconst 1, 1)) ∧ (decode cL_law 581 = .ok (.iadd, 1)) ∧ (decode cL_law 582 = .ok (.iaload, 1)) ∧ (decode cL_law 583 = .ok (.aload_n 0, 1)) ∧ (decode cL_law 584 = .ok (.iload_n 3, 1)) ∧ (decode cL_law 585 = .ok (.iconst 2, 1)) ∧ (decode cL_law 586 = .ok (.iadd, 1)) ∧ (decode cL_law 587 = .ok (.iaload, 1)) := by decide +kernel
theorem dL_law_580 : decode cL_law 580 = .ok (.iconst 1, 1) := db_L_law_580.1
theorem dL_law_581 : decode cL_law 581 = .ok (.iadd, 1) := db_L_law_580.2.1
theorem dL_law_582 : decode cL_law 582 = .ok (.iaload, 1) := db_L_law_580.2.2.1
theorem dL_law_583 : decode cL_law 583 = .ok (.aload_n 0, 1) := db_L_law_580.2.2.2.1
theorem dL_law_584 : decode cL_law 584 = .ok (.iload_n 3, 1) := db_L_law_580.2.2.2.2.1
theorem dL_law_585 : decode cL_law 585 = .ok (.iconst 2, 1) := db_L_law_580.2.2.2.2.2.1
theorem dL_law_586 : decode cL_law 586 = .ok (.iadd, 1) := db_L_law_580.2.2.2.2.2.2.1
theorem dL_law_587 : decode cL_law 587 = .ok (.iaload, 1) := db_L_law_580.2.2.2.2.2.2.2
set_option maxRecDepth 20000 in
theorem ggL_law_X7_maySit : GoodIn wsL_law wsX7_maySit := goodIn_ch _ [(12, 16), (0, 15), (6, 12), (4, 5), (4, 6), (0, 2), (4, 7), (12, 17), (12, 18), (12, 19), (0, 14), (12, 20), (12, 21), (7, 11), (7, 12), (7, 13), (7, 14), (6, 11), (12, 22), (12, 23), (13, 0), (13, 1), (1, 9), (13, 2), (13, 3), (1, 7), (13, 4), (5, 17), (5, 18), (13, 5), (13, 6), (13, 7), (13, 8), (13, 9), (13, 10), (13, 11), (29, 0), (29, 1), (29, 2), (29, 3), (29, 4), (31, 0), (31, 1), (31, 2), (31, 3), (31, 4), (31, 5), (31, 6), (35, 0), (35, 1), (35, 2), (36, 0), (36, 1), (36, 2), (36, 3), (36, 4), (36, 5), (36, 6), (36, 7), (36, 8), (36, 9), (36, 10), (34, 0), (34, 1)] rfl (by decide +kernel)
set_option maxRecDepth 20000 in
theorem gL_law_X7_maySit : GoodIn wsL_law (wsV RL 62 RX7 yX7_maySit wsX7_maySit) := goodIn_app (goodIn_ch _ [(12, 13), (12, 14), (12, 15), (0, 2)] rfl (by decide +kernel)) ggL_law_X7_maySit
set_option maxRecDepth 20000 in
theorem db_L_law_588 : (decode cL_law 588 = .ok (.invokevirtual 62, 3)) ∧ (decode cL_law 591 = .ok (.pop, 1)) ∧ (decode cL_law 592 = .ok (.aload_n 2, 1)) ∧ (decode cL_law 593 = .ok (.aload_n 0, 1)) ∧ (decode cL_law 594 = .ok (.iload_n 3, 1)) ∧ (decode cL_law 595 = .ok (.iconst 1, 1)) ∧ (decode cL_law 596 = .ok (.iadd, 1)) ∧ (decode cL_law 597 = .ok (.iaload, 1)) := by decide +kernel
theorem dL_law_588 : decode cL_law 588 = .ok (.invokevirtual 62, 3) := db_L_law_588.1
theorem dL_law_591 : decode cL_law 591 = .ok (.pop, 1) := db_L_law_588.2.1
theorem dL_law_592 : decode cL_law 592 = .ok (.aload_n 2, 1) := db_L_law_588.2.2.1
theorem dL_law_593 : decode cL_law 593 = .ok (.aload_n 0, 1) := db_L_law_588.2.2.2.1
theorem dL_law_594 : decode cL_law 594 = .ok (.iload_n 3, 1) := db_L_law_588.2.2.2.2.1
theorem dL_law_595 : decode cL_law 595 = .ok (.iconst 1, 1) := db_L_law_588.2.2.2.2.2.1
theorem dL_law_596 : decode cL_law 596 = .ok (.iadd, 1) := db_L_law_588.2.2.2.2.2.2.1
theorem dL_law_597 : decode cL_law 597 = .ok (.iaload, 1) := db_L_law_588.2.2.2.2.2.2.2
set_option maxRecDepth 20000 in
theorem db_L_law_598 : (decode cL_law 598 = .ok (.aload_n 0, 1)) ∧ (decode cL_law 599 = .ok (.iload_n 3, 1)) ∧ (decode cL_law 600 = .ok (.iconst 2, 1)) ∧ (decode cL_law 601 = .ok (.iadd, 1)) ∧ (decode cL_law 602 = .ok (.iaload, 1)) ∧ (decode cL_law 603 = .ok (.invokevirtual 65, 3)) ∧ (decode cL_law 606 = .ok (.pop, 1)) ∧ (decode cL_law 607 = .ok (.goto 453, 3)) := by decide +kernel
theorem dL_law_598 : decode cL_law 598 = .ok (.aload_n 0, 1) := db_L_law_598.1
theorem dL_law_599 : decode cL_law 599 = .ok (.iload_n 3, 1) := db_L_law_598.2.1
theorem dL_law_600 : decode cL_law 600 = .ok (.iconst 2, 1) := db_L_law_598.2.2.1
theorem dL_law_601 : decode cL_law 601 = .ok (.iadd, 1) := db_L_law_598.2.2.2.1
theorem dL_law_602 : decode cL_law 602 = .ok (.iaload, 1) := db_L_law_598.2.2.2.2.1
set_option maxRecDepth 20000 in
theorem ggL_law_X8_maySit : GoodIn wsL_law wsX8_maySit := goodIn_ch _ [(13, 15), (13, 16), (13, 17), (13, 18), (0, 5), (13, 19), (4, 12), (4, 13), (4, 14), (13, 20), (13, 21), (13, 22), (5, 23), (6, 0), (6, 1), (6, 2), (3, 13), (7, 19), (7, 20), (7, 21), (7, 22), (13, 23), (14, 0), (14, 1), (14, 2), (14, 3), (14, 4), (14, 5), (7, 3), (7, 4), (7, 5), (14, 6), (14, 7), (14, 8), (14, 9), (30, 0), (30, 1), (30, 2), (30, 3), (30, 4), (30, 5), (30, 6), (30, 7), (30, 8), (30, 9), (30, 10)] rfl (by decide +kernel)
set_option maxRecDepth 20000 in
theorem gL_law_X8_maySit : GoodIn wsL_law (wsV RL 65 RX8 yX8_maySit wsX8_maySit) := goodIn_app (goodIn_ch _ [(13, 12), (13, 13), (13, 14), (0, 5)] rfl (by decide +kernel)) ggL_law_X8_maySit
theorem dL_law_603 : decode cL_law 603 = .ok (.invokevirtual 65, 3) := db_L_law_598.2.2.2.2.2.1
theorem dL_law_606 : decode cL_law 606 = .ok (.pop, 1) := db_L_law_598.2.2.2.2.2.2.1
theorem dL_law_607 : decode cL_law 607 = .ok (.goto 453, 3) := db_L_law_598.2.2.2.2.2.2.2
set_option maxRecDepth 20000 in
theorem db_L_law_610 : (decode cL_law 610 = .ok (.aload_n 1, 1)) ∧ (decode cL_law 611 = .ok (.aload_n 0, 1)) ∧ (decode cL_law 612 = .ok (.iload_n 3, 1)) ∧ (decode cL_law 613 = .ok (.iconst 1, 1)) ∧ (decode cL_law 614 = .ok (.iadd, 1)) ∧ (decode cL_law 615 = .ok (.iaload, 1)) ∧ (decode cL_law 616 = .ok (.invokevirtual 66, 3)) ∧ (decode cL_law 619 = .ok (.pop, 1)) := by decide +kernel
theorem dL_law_610 : decode cL_law 610 = .ok (.aload_n 1, 1) := db_L_law_610.1
theorem dL_law_611 : decode cL_law 611 = .ok (.aload_n 0, 1) := db_L_law_610.2.1
theorem dL_law_612 : decode cL_law 612 = .ok (.iload_n 3, 1) := db_L_law_610.2.2.1
theorem dL_law_613 : decode cL_law 613 = .ok (.iconst 1, 1) := db_L_law_610.2.2.2.1
theorem dL_law_614 : decode cL_law 614 = .ok (.iadd, 1) := db_L_law_610.2.2.2.2.1
theorem dL_law_615 : decode cL_law 615 = .ok (.iaload, 1) := db_L_law_610.2.2.2.2.2.1
set_option maxRecDepth 20000 in
theorem ggL_law_X7_rooms : GoodIn wsL_law wsX7_rooms := goodIn_ch _ [(14, 13), (1, 1), (4, 5), (4, 6), (0, 2), (4, 7), (29, 0), (29, 1), (29, 2), (29, 3), (29, 4)] rfl (by decide +kernel)
set_option maxRecDepth 20000 in
theorem gL_law_X7_rooms : GoodIn wsL_law (wsV RL 66 RX7 yX7_rooms wsX7_rooms) := goodIn_app (goodIn_ch _ [(14, 10), (14, 11), (14, 12), (0, 2)] rfl (by decide +kernel)) ggL_law_X7_rooms
theorem dL_law_616 : decode cL_law 616 = .ok (.invokevirtual 66, 3) := db_L_law_610.2.2.2.2.2.2.1
theorem dL_law_619 : decode cL_law 619 = .ok (.pop, 1) := db_L_law_610.2.2.2.2.2.2.2
set_option maxRecDepth 20000 in
theorem db_L_law_620 : (decode cL_law 620 = .ok (.aload_n 2, 1)) ∧ (decode cL_law 621 = .ok (.aload_n 0, 1)) ∧ (decode cL_law 622 = .ok (.iload_n 3, 1)) ∧ (decode cL_law 623 = .ok (.iconst 1, 1)) ∧ (decode cL_law 624 = .ok (.iadd, 1)) ∧ (decode cL_law 625 = .ok (.iaload, 1)) ∧ (decode cL_law 626 = .ok (.invokevirtual 69, 3)) ∧ (decode cL_law 629 = .ok (.pop, 1)) := by decide +kernel
theorem dL_law_620 : decode cL_law 620 = .ok (.aload_n 2, 1) := db_L_law_620.1
theorem dL_law_621 : decode cL_law 621 = .ok (.aload_n 0, 1) := db_L_law_620.2.1
theorem dL_law_622 : decode cL_law 622 = .ok (.iload_n 3, 1) := db_L_law_620.2.2.1
theorem dL_law_623 : decode cL_law 623 = .ok (.iconst 1, 1) := db_L_law_620.2.2.2.1
theorem dL_law_624 : decode cL_law 624 = .ok (.iadd, 1) := db_L_law_620.2.2.2.2.1
theorem dL_law_625 : decode cL_law 625 = .ok (.iaload, 1) := db_L_law_620.2.2.2.2.2.1
set_option maxRecDepth 20000 in
theorem ggL_law_X8_rooms : GoodIn wsL_law wsX8_rooms := goodIn_ch _ [(14, 17), (3, 15), (4, 12), (4, 13), (0, 5), (4, 14), (30, 0), (30, 1), (30, 2), (30, 3), (30, 4), (30, 5), (30, 6), (30, 7), (30, 8), (30, 9), (30, 10)] rfl (by decide +kernel)
set_option maxRecDepth 20000 in
theorem gL_law_X8_rooms : GoodIn wsL_law (wsV RL 69 RX8 yX8_rooms wsX8_rooms) := goodIn_app (goodIn_ch _ [(14, 14), (14, 15), (14, 16), (0, 5)] rfl (by decide +kernel)) ggL_law_X8_rooms
theorem dL_law_626 : decode cL_law 626 = .ok (.invokevirtual 69, 3) := db_L_law_620.2.2.2.2.2.2.1
theorem dL_law_629 : decode cL_law 629 = .ok (.pop, 1) := db_L_law_620.2.2.2.2.2.2.2
theorem dL_law_630 : decode cL_law 630 = .ok (.goto 430, 3) := by decide +kernel
set_option maxHeartbeats 4000000 in
set_option maxRecDepth 100000 in
/-- the case of party -/
theorem lc_0 {p : Program} {l : Launch} {e : Env} {s : State} {m : MethodId} {below : List Frame} {meth : Method} {c : Code} {dC : Nat → ClassId} {dI : Nat → Nat → Nat} {cy : Nat → ClassId} {b L : Nat} {xs : Nat → Int32} (C0 : lw_At p s m meth c b L xs) {t1 t2 : Nat} (hSt : ex_St t1 t2 (fun q : Nat => s.heap.size ≤ q) s) (hE : ex_K s) (hK : va_K (dC, dI) vwCl (ty_L cy) s) (hL : L ≤ 3584) {ad ad2 : Nat → Nat} {kv : Value} {N : Nat} (hN : 119 ≤ N) {v v2 : Nat → Nat → Int32} (hv : Iv v) (hq : Ir v2) {n : Int32} (hJ : RR n v v2) {i : Int32} (hi : 0 ≤ i.toInt ∧ i.toInt + 7 ≤ (L : Int)) {cells slots : Nat} (hcs : cells ≤ room_1.cells ∧ slots ≤ room_1.slots) {H : Heap} {locs : List Loc} (hP : va_P (dC, dI) vwCl (wl ad kv cy N v ++ wm ad2 cy v2) H) (hD : va_D (fun q : Nat => s.heap.size ≤ q) (wl ad kv cy N v ++ wm ad2 cy v2)) (hS : va_S (fun q : Nat => s.heap.size ≤ q) s.heap H locs) (ls : Array Slot) (hl : lv_has ls 4 [(3, .int i), (2, .ref (ad2 0)), (1, .ref (ad 0)), (0, .ref b)]) (kk : ∀ (v1 v3 : Nat → Nat → Int32) (H1 : Heap) (locs1 : List Loc) (ls1 : Array Slot), Iv v1 → Ir v3 → RR n v1 v3 → va_P (dC, dI) vwCl (wl ad kv cy N v1 ++ wm ad2 cy v3) H1 → va_D (fun q : Nat => s.heap.size ≤ q) (wl ad kv cy N v1 ++ wm ad2 cy v3) → va_S (fun q : Nat => s.heap.size ≤ q) s.heap H1 locs1 → lv_has ls1 4 [(3, .int i), (2, .ref (ad2 0)), (1, .ref (ad 0)), (0, .ref b)] → W p l e room_1 s m #[Value.ref b] below meth c H1 locs1 cells slots (lw_Z below #[Value.ref b] s) (F0 m 1060 ls1 [])) : W p l e room_1 s m #[Value.ref b] below meth c H locs cells slots (lw_Z below #[Value.ref b] s) (F0 m 152 ls []) := by
  obtain ⟨hx, hb, hr, hml, hown, hts0, hX, hbl, hlocks, hgv⟩ := id C0
  have hts : ∀ w ∈ wsL_law, w.before #[Value.ref b] s = true := fun w h => hts0 w (wsL_law_in w h)
  have hown : s.vm.findClass RL = some m.cls := hown
  have hA : ∀ q : Nat, s.heap.size ≤ q → (fun q : Nat => s.heap.size ≤ q) q := fun _ h => h
  have hbA : ¬ (fun q : Nat => s.heap.size ≤ q) b := Nat.not_le.mpr hbl
  refine lv_aload_n hx hb dL_law_152 rfl (lv_at hl 2 rfl) ?_
  refine lv_aload_n hx hb dL_law_153 rfl (lv_at hl 3 rfl) ?_
  refine lv_iload_n hx hb dL_law_154 rfl (lv_at hl 0 rfl) ?_
  refine lv_iconst (v := 1) hx hb dL_law_155 (by decide) ?_
  refine lv_iadd hx hb dL_law_156 ?_
  refine lv_topi (fun x_1 ex_1 => ?_)
  have k_1 : (1 : Int32).toInt = 1 := by decide
  have tx_1 : x_1.toInt = i.toInt + (1 : Int32).toInt := by rw [ex_1]; exact t_add ⟨by omega, by omega⟩
  refine va_sld hx hb hX hbl hbA hS (vp_in_iff.mpr ⟨by omega, by omega⟩) dL_law_157 ?_
  refine lv_topi (fun x_2 ex_2 => ?_)
  refine lv_aload_n hx hb dL_law_158 rfl (lv_at hl 3 rfl) ?_
  refine lv_iload_n hx hb dL_law_159 rfl (lv_at hl 0 rfl) ?_
  refine lv_iconst (v := 2) hx hb dL_law_160 (by decide) ?_
  refine lv_iadd hx hb dL_law_161 ?_
  refine lv_topi (fun x_3 ex_3 => ?_)
  have k_2 : (2 : Int32).toInt = 2 := by decide
  have tx_3 : x_3.toInt = i.toInt + (2 : Int32).toInt := by rw [ex_3]; exact t_add ⟨by omega, by omega⟩
  refine va_sld hx hb hX hbl hbA hS (vp_in_iff.mpr ⟨by omega, by omega⟩) dL_law_162 ?_
  refine lv_topi (fun x_4 ex_4 => ?_)
  have hv0 := hv
  refine yl_i (X := wl ad kv cy N v) (Y := wm ad2 cy v2) (w1 := fun (u : Nat → Nat → Int32) => wl ad kv cy N u) hP hD hS hA (va_runV (As := [.int x_2, .int x_4]) (rest := []) ⟨hx, hb, hml, hown, hts⟩ (e_X7_party l dC dI cy _ ad kv N hN v hv x_2 x_4) (cwV 2 hts gL_law_X7_party rfl rfl rfl hd_V_X7_party_2 ⟨Nat.le_of_ble_eq_true rfl, Nat.le_of_ble_eq_true rfl⟩) (yl_preV hE hK hP hD (ci := 7) (q0 := 0) rfl (wl_at (by omega) (ce_0 (by decide)))) rfl rfl hl.1 rfl (lv_room (Nat.le_of_ble_eq_true rfl)) dL_law_163 hcs) (fun r_5 c_5 H locs hw_5 hP hD hS => ?_)
  have hP : va_P (dC, dI) vwCl (wm ad2 cy v2 ++ wl ad kv cy N c_5) H := hP
  have hD : va_D (fun q : Nat => s.heap.size ≤ q) (wm ad2 cy v2 ++ wl ad kv cy N c_5) := hD
  obtain ⟨hv, hpc⟩ := hw_5
  refine lv_pop hx hb dL_law_166 rfl ?_
  refine lv_aload_n hx hb dL_law_167 rfl (lv_at hl 1 rfl) ?_
  refine lv_aload_n hx hb dL_law_168 rfl (lv_at hl 3 rfl) ?_
  refine lv_iload_n hx hb dL_law_169 rfl (lv_at hl 0 rfl) ?_
  refine lv_iconst (v := 1) hx hb dL_law_170 (by decide) ?_
  refine lv_iadd hx hb dL_law_171 ?_
  refine lv_topi (fun x_6 ex_6 => ?_)
  obtain rfl : x_1 = x_6 := ex_1.trans ex_6.symm
  refine va_sld hx hb hX hbl hbA hS (vp_in_iff.mpr ⟨by omega, by omega⟩) dL_law_172 ?_
  refine lv_topi (fun x_7 ex_7 => ?_)
  obtain rfl : x_2 = x_7 := ex_2.trans ex_7.symm
  refine lv_aload_n hx hb dL_law_173 rfl (lv_at hl 3 rfl) ?_
  refine lv_iload_n hx hb dL_law_174 rfl (lv_at hl 0 rfl) ?_
  refine lv_iconst (v := 2) hx hb dL_law_175 (by decide) ?_
  refine lv_iadd hx hb dL_law_176 ?_
  refine lv_topi (fun x_8 ex_8 => ?_)
  obtain rfl : x_3 = x_8 := ex_3.trans ex_8.symm
  refine va_sld hx hb hX hbl hbA hS (vp_in_iff.mpr ⟨by omega, by omega⟩) dL_law_177 ?_
  refine lv_topi (fun x_9 ex_9 => ?_)
  obtain rfl : x_4 = x_9 := ex_4.trans ex_9.symm
  have hq0 := hq
  refine yl_i (X := wm ad2 cy v2) (Y := wl ad kv cy N c_5) (w1 := fun (u : Nat → Nat → Int32) => wm ad2 cy u) hP hD hS hA (va_runV (As := [.int x_2, .int x_4]) (rest := []) ⟨hx, hb, hml, hown, hts⟩ (e_X8_party l dC dI cy _ ad2 v2 hq x_2 x_4) (cwV 2 hts gL_law_X8_party rfl rfl rfl hd_V_X8_party_2 ⟨Nat.le_of_ble_eq_true rfl, Nat.le_of_ble_eq_true rfl⟩) (yl_preV hE hK hP hD (ci := 8) (q0 := 0) rfl (wm_at (by decide) rc_0)) rfl rfl hl.1 rfl (lv_room (Nat.le_of_ble_eq_true rfl)) dL_law_178 hcs) (fun r_10 m_10 H locs hw_10 hP hD hS => ?_)
  have hP : va_P (dC, dI) vwCl (wl ad kv cy N c_5 ++ wm ad2 cy m_10) H := hP
  have hD : va_D (fun q : Nat => s.heap.size ≤ q) (wl ad kv cy N c_5 ++ wm ad2 cy m_10) := hD
  obtain ⟨hq, hpm⟩ := hw_10
  obtain ⟨hrr, hJ⟩ := T_party hv0 hq0 hJ hpc hpm
  subst hrr
  refine lv_pop hx hb dL_law_181 rfl ?_
  refine lv_goto (tgt := 1060) hx hb dL_law_182 (by decide) ?_
  exact kk c_5 m_10 _ _ ls hv hq hJ hP hD hS hl

set_option maxHeartbeats 4000000 in
set_option maxRecDepth 100000 in
/-- the case of mediator -/
theorem lc_1 {p : Program} {l : Launch} {e : Env} {s : State} {m : MethodId} {below : List Frame} {meth : Method} {c : Code} {dC : Nat → ClassId} {dI : Nat → Nat → Nat} {cy : Nat → ClassId} {b L : Nat} {xs : Nat → Int32} (C0 : lw_At p s m meth c b L xs) {t1 t2 : Nat} (hSt : ex_St t1 t2 (fun q : Nat => s.heap.size ≤ q) s) (hE : ex_K s) (hK : va_K (dC, dI) vwCl (ty_L cy) s) (hL : L ≤ 3584) {ad ad2 : Nat → Nat} {kv : Value} {N : Nat} (hN : 119 ≤ N) {v v2 : Nat → Nat → Int32} (hv : Iv v) (hq : Ir v2) {n : Int32} (hJ : RR n v v2) {i : Int32} (hi : 0 ≤ i.toInt ∧ i.toInt + 7 ≤ (L : Int)) {cells slots : Nat} (hcs : cells ≤ room_1.cells ∧ slots ≤ room_1.slots) {H : Heap} {locs : List Loc} (hP : va_P (dC, dI) vwCl (wl ad kv cy N v ++ wm ad2 cy v2) H) (hD : va_D (fun q : Nat => s.heap.size ≤ q) (wl ad kv cy N v ++ wm ad2 cy v2)) (hS : va_S (fun q : Nat => s.heap.size ≤ q) s.heap H locs) (ls : Array Slot) (hl : lv_has ls 4 [(3, .int i), (2, .ref (ad2 0)), (1, .ref (ad 0)), (0, .ref b)]) (kk : ∀ (v1 v3 : Nat → Nat → Int32) (H1 : Heap) (locs1 : List Loc) (ls1 : Array Slot), Iv v1 → Ir v3 → RR n v1 v3 → va_P (dC, dI) vwCl (wl ad kv cy N v1 ++ wm ad2 cy v3) H1 → va_D (fun q : Nat => s.heap.size ≤ q) (wl ad kv cy N v1 ++ wm ad2 cy v3) → va_S (fun q : Nat => s.heap.size ≤ q) s.heap H1 locs1 → lv_has ls1 4 [(3, .int i), (2, .ref (ad2 0)), (1, .ref (ad 0)), (0, .ref b)] → W p l e room_1 s m #[Value.ref b] below meth c H1 locs1 cells slots (lw_Z below #[Value.ref b] s) (F0 m 1060 ls1 [])) : W p l e room_1 s m #[Value.ref b] below meth c H locs cells slots (lw_Z below #[Value.ref b] s) (F0 m 185 ls []) := by
  obtain ⟨hx, hb, hr, hml, hown, hts0, hX, hbl, hlocks, hgv⟩ := id C0
  have hts : ∀ w ∈ wsL_law, w.before #[Value.ref b] s = true := fun w h => hts0 w (wsL_law_in w h)
  have hown : s.vm.findClass RL = some m.cls := hown
  have hA : ∀ q : Nat, s.heap.size ≤ q → (fun q : Nat => s.heap.size ≤ q) q := fun _ h => h
  have hbA : ¬ (fun q : Nat => s.heap.size ≤ q) b := Nat.not_le.mpr hbl
  refine lv_aload_n hx hb dL_law_185 rfl (lv_at hl 2 rfl) ?_
  refine lv_aload_n hx hb dL_law_186 rfl (lv_at hl 3 rfl) ?_
  refine lv_iload_n hx hb dL_law_187 rfl (lv_at hl 0 rfl) ?_
  refine lv_iconst (v := 1) hx hb dL_law_188 (by decide) ?_
  refine lv_iadd hx hb dL_law_189 ?_
  refine lv_topi (fun x_1 ex_1 => ?_)
  have k_1 : (1 : Int32).toInt = 1 := by decide
  have tx_1 : x_1.toInt = i.toInt + (1 : Int32).toInt := by rw [ex_1]; exact t_add ⟨by omega, by omega⟩
  refine va_sld hx hb hX hbl hbA hS (vp_in_iff.mpr ⟨by omega, by omega⟩) dL_law_190 ?_
  refine lv_topi (fun x_2 ex_2 => ?_)
  refine lv_aload_n hx hb dL_law_191 rfl (lv_at hl 3 rfl) ?_
  refine lv_iload_n hx hb dL_law_192 rfl (lv_at hl 0 rfl) ?_
  refine lv_iconst (v := 2) hx hb dL_law_193 (by decide) ?_
  refine lv_iadd hx hb dL_law_194 ?_
  refine lv_topi (fun x_3 ex_3 => ?_)
  have k_2 : (2 : Int32).toInt = 2 := by decide
  have tx_3 : x_3.toInt = i.toInt + (2 : Int32).toInt := by rw [ex_3]; exact t_add ⟨by omega, by omega⟩
  refine va_sld hx hb hX hbl hbA hS (vp_in_iff.mpr ⟨by omega, by omega⟩) dL_law_195 ?_
  refine lv_topi (fun x_4 ex_4 => ?_)
  have hv0 := hv
  refine yl_i (X := wl ad kv cy N v) (Y := wm ad2 cy v2) (w1 := fun (u : Nat → Nat → Int32) => wl ad kv cy N u) hP hD hS hA (va_runV (As := [.int x_2, .int x_4]) (rest := []) ⟨hx, hb, hml, hown, hts⟩ (e_X7_mediator l dC dI cy _ ad kv N hN v hv x_2 x_4) (cwV 2 hts gL_law_X7_mediator rfl rfl rfl hd_V_X7_mediator_2 ⟨Nat.le_of_ble_eq_true rfl, Nat.le_of_ble_eq_true rfl⟩) (yl_preV hE hK hP hD (ci := 7) (q0 := 0) rfl (wl_at (by omega) (ce_0 (by decide)))) rfl rfl hl.1 rfl (lv_room (Nat.le_of_ble_eq_true rfl)) dL_law_196 hcs) (fun r_5 c_5 H locs hw_5 hP hD hS => ?_)
  have hP : va_P (dC, dI) vwCl (wm ad2 cy v2 ++ wl ad kv cy N c_5) H := hP
  have hD : va_D (fun q : Nat => s.heap.size ≤ q) (wm ad2 cy v2 ++ wl ad kv cy N c_5) := hD
  obtain ⟨hv, hpc⟩ := hw_5
  refine lv_pop hx hb dL_law_199 rfl ?_
  refine lv_aload_n hx hb dL_law_200 rfl (lv_at hl 1 rfl) ?_
  refine lv_aload_n hx hb dL_law_201 rfl (lv_at hl 3 rfl) ?_
  refine lv_iload_n hx hb dL_law_202 rfl (lv_at hl 0 rfl) ?_
  refine lv_iconst (v := 1) hx hb dL_law_203 (by decide) ?_
  refine lv_iadd hx hb dL_law_204 ?_
  refine lv_topi (fun x_6 ex_6 => ?_)
  obtain rfl : x_1 = x_6 := ex_1.trans ex_6.symm
  refine va_sld hx hb hX hbl hbA hS (vp_in_iff.mpr ⟨by omega, by omega⟩) dL_law_205 ?_
  refine lv_topi (fun x_7 ex_7 => ?_)
  obtain rfl : x_2 = x_7 := ex_2.trans ex_7.symm
  refine lv_aload_n hx hb dL_law_206 rfl (lv_at hl 3 rfl) ?_
  refine lv_iload_n hx hb dL_law_207 rfl (lv_at hl 0 rfl) ?_
  refine lv_iconst (v := 2) hx hb dL_law_208 (by decide) ?_
  refine lv_iadd hx hb dL_law_209 ?_
  refine lv_topi (fun x_8 ex_8 => ?_)
  obtain rfl : x_3 = x_8 := ex_3.trans ex_8.symm
  refine va_sld hx hb hX hbl hbA hS (vp_in_iff.mpr ⟨by omega, by omega⟩) dL_law_210 ?_
  refine lv_topi (fun x_9 ex_9 => ?_)
  obtain rfl : x_4 = x_9 := ex_4.trans ex_9.symm
  have hq0 := hq
  refine yl_i (X := wm ad2 cy v2) (Y := wl ad kv cy N c_5) (w1 := fun (u : Nat → Nat → Int32) => wm ad2 cy u) hP hD hS hA (va_runV (As := [.int x_2, .int x_4]) (rest := []) ⟨hx, hb, hml, hown, hts⟩ (e_X8_mediator l dC dI cy _ ad2 v2 hq x_2 x_4) (cwV 2 hts gL_law_X8_mediator rfl rfl rfl hd_V_X8_mediator_2 ⟨Nat.le_of_ble_eq_true rfl, Nat.le_of_ble_eq_true rfl⟩) (yl_preV hE hK hP hD (ci := 8) (q0 := 0) rfl (wm_at (by decide) rc_0)) rfl rfl hl.1 rfl (lv_room (Nat.le_of_ble_eq_true rfl)) dL_law_211 hcs) (fun r_10 m_10 H locs hw_10 hP hD hS => ?_)
  have hP : va_P (dC, dI) vwCl (wl ad kv cy N c_5 ++ wm ad2 cy m_10) H := hP
  have hD : va_D (fun q : Nat => s.heap.size ≤ q) (wl ad kv cy N c_5 ++ wm ad2 cy m_10) := hD
  obtain ⟨hq, hpm⟩ := hw_10
  obtain ⟨hrr, hJ⟩ := T_mediator hv0 hq0 hJ hpc hpm
  subst hrr
  refine lv_pop hx hb dL_law_214 rfl ?_
  refine lv_goto (tgt := 1060) hx hb dL_law_215 (by decide) ?_
  exact kk c_5 m_10 _ _ ls hv hq hJ hP hD hS hl

set_option maxHeartbeats 4000000 in
set_option maxRecDepth 100000 in
/-- the case of kin -/
theorem lc_2 {p : Program} {l : Launch} {e : Env} {s : State} {m : MethodId} {below : List Frame} {meth : Method} {c : Code} {dC : Nat → ClassId} {dI : Nat → Nat → Nat} {cy : Nat → ClassId} {b L : Nat} {xs : Nat → Int32} (C0 : lw_At p s m meth c b L xs) {t1 t2 : Nat} (hSt : ex_St t1 t2 (fun q : Nat => s.heap.size ≤ q) s) (hE : ex_K s) (hK : va_K (dC, dI) vwCl (ty_L cy) s) (hL : L ≤ 3584) {ad ad2 : Nat → Nat} {kv : Value} {N : Nat} (hN : 119 ≤ N) {v v2 : Nat → Nat → Int32} (hv : Iv v) (hq : Ir v2) {n : Int32} (hJ : RR n v v2) {i : Int32} (hi : 0 ≤ i.toInt ∧ i.toInt + 7 ≤ (L : Int)) {cells slots : Nat} (hcs : cells ≤ room_1.cells ∧ slots ≤ room_1.slots) {H : Heap} {locs : List Loc} (hP : va_P (dC, dI) vwCl (wl ad kv cy N v ++ wm ad2 cy v2) H) (hD : va_D (fun q : Nat => s.heap.size ≤ q) (wl ad kv cy N v ++ wm ad2 cy v2)) (hS : va_S (fun q : Nat => s.heap.size ≤ q) s.heap H locs) (ls : Array Slot) (hl : lv_has ls 4 [(3, .int i), (2, .ref (ad2 0)), (1, .ref (ad 0)), (0, .ref b)]) (kk : ∀ (v1 v3 : Nat → Nat → Int32) (H1 : Heap) (locs1 : List Loc) (ls1 : Array Slot), Iv v1 → Ir v3 → RR n v1 v3 → va_P (dC, dI) vwCl (wl ad kv cy N v1 ++ wm ad2 cy v3) H1 → va_D (fun q : Nat => s.heap.size ≤ q) (wl ad kv cy N v1 ++ wm ad2 cy v3) → va_S (fun q : Nat => s.heap.size ≤ q) s.heap H1 locs1 → lv_has ls1 4 [(3, .int i), (2, .ref (ad2 0)), (1, .ref (ad 0)), (0, .ref b)] → W p l e room_1 s m #[Value.ref b] below meth c H1 locs1 cells slots (lw_Z below #[Value.ref b] s) (F0 m 1060 ls1 [])) : W p l e room_1 s m #[Value.ref b] below meth c H locs cells slots (lw_Z below #[Value.ref b] s) (F0 m 218 ls []) := by
  obtain ⟨hx, hb, hr, hml, hown, hts0, hX, hbl, hlocks, hgv⟩ := id C0
  have hts : ∀ w ∈ wsL_law, w.before #[Value.ref b] s = true := fun w h => hts0 w (wsL_law_in w h)
  have hown : s.vm.findClass RL = some m.cls := hown
  have hA : ∀ q : Nat, s.heap.size ≤ q → (fun q : Nat => s.heap.size ≤ q) q := fun _ h => h
  have hbA : ¬ (fun q : Nat => s.heap.size ≤ q) b := Nat.not_le.mpr hbl
  refine lv_aload_n hx hb dL_law_218 rfl (lv_at hl 2 rfl) ?_
  refine lv_aload_n hx hb dL_law_219 rfl (lv_at hl 3 rfl) ?_
  refine lv_iload_n hx hb dL_law_220 rfl (lv_at hl 0 rfl) ?_
  refine lv_iconst (v := 1) hx hb dL_law_221 (by decide) ?_
  refine lv_iadd hx hb dL_law_222 ?_
  refine lv_topi (fun x_1 ex_1 => ?_)
  have k_1 : (1 : Int32).toInt = 1 := by decide
  have tx_1 : x_1.toInt = i.toInt + (1 : Int32).toInt := by rw [ex_1]; exact t_add ⟨by omega, by omega⟩
  refine va_sld hx hb hX hbl hbA hS (vp_in_iff.mpr ⟨by omega, by omega⟩) dL_law_223 ?_
  refine lv_topi (fun x_2 ex_2 => ?_)
  refine lv_aload_n hx hb dL_law_224 rfl (lv_at hl 3 rfl) ?_
  refine lv_iload_n hx hb dL_law_225 rfl (lv_at hl 0 rfl) ?_
  refine lv_iconst (v := 2) hx hb dL_law_226 (by decide) ?_
  refine lv_iadd hx hb dL_law_227 ?_
  refine lv_topi (fun x_3 ex_3 => ?_)
  have k_2 : (2 : Int32).toInt = 2 := by decide
  have tx_3 : x_3.toInt = i.toInt + (2 : Int32).toInt := by rw [ex_3]; exact t_add ⟨by omega, by omega⟩
  refine va_sld hx hb hX hbl hbA hS (vp_in_iff.mpr ⟨by omega, by omega⟩) dL_law_228 ?_
  refine lv_topi (fun x_4 ex_4 => ?_)
  refine lv_aload_n hx hb dL_law_229 rfl (lv_at hl 3 rfl) ?_
  refine lv_iload_n hx hb dL_law_230 rfl (lv_at hl 0 rfl) ?_
  refine lv_iconst (v := 3) hx hb dL_law_231 (by decide) ?_
  refine lv_iadd hx hb dL_law_232 ?_
  refine lv_topi (fun x_5 ex_5 => ?_)
  have k_3 : (3 : Int32).toInt = 3 := by decide
  have tx_5 : x_5.toInt = i.toInt + (3 : Int32).toInt := by rw [ex_5]; exact t_add ⟨by omega, by omega⟩
  refine va_sld hx hb hX hbl hbA hS (vp_in_iff.mpr ⟨by omega, by omega⟩) dL_law_233 ?_
  refine lv_topi (fun x_6 ex_6 => ?_)
  have k_0 : (0 : Int32).toInt = 0 := by decide
  refine lv_if_eq (tgt := 241) hx hb dL_law_234 (by decide) (fun c_7 => ?_) (fun c_7 => ?_)
  · have tc_7 : x_6.toInt = (0 : Int32).toInt := by rw [c_7]
    refine lv_iconst (v := 0) hx hb dL_law_241 (by decide) ?_
    have hv0 := hv
    refine yl_i (X := wl ad kv cy N v) (Y := wm ad2 cy v2) (w1 := fun (u : Nat → Nat → Int32) => wl ad kv cy N u) hP hD hS hA (va_runV (As := [.int x_2, .int x_4, .int 0]) (rest := []) ⟨hx, hb, hml, hown, hts⟩ (e_X7_kin_0 l dC dI cy _ ad kv N hN v hv x_2 x_4) (cwV 3 hts gL_law_X7_kin rfl rfl rfl hd_V_X7_kin_3 ⟨Nat.le_of_ble_eq_true rfl, Nat.le_of_ble_eq_true rfl⟩) (yl_preV hE hK hP hD (ci := 7) (q0 := 0) rfl (wl_at (by omega) (ce_0 (by decide)))) rfl rfl hl.1 rfl (lv_room (Nat.le_of_ble_eq_true rfl)) dL_law_242 hcs) (fun r_8 c_8 H locs hw_8 hP hD hS => ?_)
    have hP : va_P (dC, dI) vwCl (wm ad2 cy v2 ++ wl ad kv cy N c_8) H := hP
    have hD : va_D (fun q : Nat => s.heap.size ≤ q) (wm ad2 cy v2 ++ wl ad kv cy N c_8) := hD
    obtain ⟨hv, hpc⟩ := hw_8
    refine lv_pop hx hb dL_law_245 rfl ?_
    refine lv_aload_n hx hb dL_law_246 rfl (lv_at hl 1 rfl) ?_
    refine lv_aload_n hx hb dL_law_247 rfl (lv_at hl 3 rfl) ?_
    refine lv_iload_n hx hb dL_law_248 rfl (lv_at hl 0 rfl) ?_
    refine lv_iconst (v := 1) hx hb dL_law_249 (by decide) ?_
    refine lv_iadd hx hb dL_law_250 ?_
    refine lv_topi (fun x_9 ex_9 => ?_)
    obtain rfl : x_1 = x_9 := ex_1.trans ex_9.symm
    refine va_sld hx hb hX hbl hbA hS (vp_in_iff.mpr ⟨by omega, by omega⟩) dL_law_251 ?_
    refine lv_topi (fun x_10 ex_10 => ?_)
    obtain rfl : x_2 = x_10 := ex_2.trans ex_10.symm
    refine lv_aload_n hx hb dL_law_252 rfl (lv_at hl 3 rfl) ?_
    refine lv_iload_n hx hb dL_law_253 rfl (lv_at hl 0 rfl) ?_
    refine lv_iconst (v := 2) hx hb dL_law_254 (by decide) ?_
    refine lv_iadd hx hb dL_law_255 ?_
    refine lv_topi (fun x_11 ex_11 => ?_)
    obtain rfl : x_3 = x_11 := ex_3.trans ex_11.symm
    refine va_sld hx hb hX hbl hbA hS (vp_in_iff.mpr ⟨by omega, by omega⟩) dL_law_256 ?_
    refine lv_topi (fun x_12 ex_12 => ?_)
    obtain rfl : x_4 = x_12 := ex_4.trans ex_12.symm
    refine lv_aload_n hx hb dL_law_257 rfl (lv_at hl 3 rfl) ?_
    refine lv_iload_n hx hb dL_law_258 rfl (lv_at hl 0 rfl) ?_
    refine lv_iconst (v := 3) hx hb dL_law_259 (by decide) ?_
    refine lv_iadd hx hb dL_law_260 ?_
    refine lv_topi (fun x_13 ex_13 => ?_)
    obtain rfl : x_5 = x_13 := ex_5.trans ex_13.symm
    refine va_sld hx hb hX hbl hbA hS (vp_in_iff.mpr ⟨by omega, by omega⟩) dL_law_261 ?_
    refine lv_topi (fun x_14 ex_14 => ?_)
    obtain rfl : x_6 = x_14 := ex_6.trans ex_14.symm
    refine lv_if_eq (tgt := 269) hx hb dL_law_262 (by decide) (fun c_15 => ?_) (fun c_15 => ?_)
    · have tc_15 : x_6.toInt = (0 : Int32).toInt := by rw [c_15]
      refine lv_iconst (v := 0) hx hb dL_law_269 (by decide) ?_
      have hq0 := hq
      refine yl_i (X := wm ad2 cy v2) (Y := wl ad kv cy N c_8) (w1 := fun (u : Nat → Nat → Int32) => wm ad2 cy u) hP hD hS hA (va_runV (As := [.int x_2, .int x_4, .int 0]) (rest := []) ⟨hx, hb, hml, hown, hts⟩ (e_X8_kin_0 l dC dI cy _ ad2 v2 hq x_2 x_4) (cwV 3 hts gL_law_X8_kin rfl rfl rfl hd_V_X8_kin_3 ⟨Nat.le_of_ble_eq_true rfl, Nat.le_of_ble_eq_true rfl⟩) (yl_preV hE hK hP hD (ci := 8) (q0 := 0) rfl (wm_at (by decide) rc_0)) rfl rfl hl.1 rfl (lv_room (Nat.le_of_ble_eq_true rfl)) dL_law_270 hcs) (fun r_16 m_16 H locs hw_16 hP hD hS => ?_)
      have hP : va_P (dC, dI) vwCl (wl ad kv cy N c_8 ++ wm ad2 cy m_16) H := hP
      have hD : va_D (fun q : Nat => s.heap.size ≤ q) (wl ad kv cy N c_8 ++ wm ad2 cy m_16) := hD
      obtain ⟨hq, hpm⟩ := hw_16
      obtain ⟨hrr, hJ⟩ := T_kin_0 hv0 hq0 hJ hpc hpm
      subst hrr
      refine lv_pop hx hb dL_law_273 rfl ?_
      refine lv_goto (tgt := 1060) hx hb dL_law_274 (by decide) ?_
      exact kk c_8 m_16 _ _ ls hv hq hJ hP hD hS hl
    · have tc_15 : x_6.toInt ≠ (0 : Int32).toInt := fun q => absurd (Int32.toInt_inj.mp q) c_15
      exfalso
      omega
  · have tc_7 : x_6.toInt ≠ (0 : Int32).toInt := fun q => absurd (Int32.toInt_inj.mp q) c_7
    refine lv_iconst (v := 1) hx hb dL_law_237 (by decide) ?_
    refine lv_goto (tgt := 242) hx hb dL_law_238 (by decide) ?_
    have hv0 := hv
    refine yl_i (X := wl ad kv cy N v) (Y := wm ad2 cy v2) (w1 := fun (u : Nat → Nat → Int32) => wl ad kv cy N u) hP hD hS hA (va_runV (As := [.int x_2, .int x_4, .int 1]) (rest := []) ⟨hx, hb, hml, hown, hts⟩ (e_X7_kin_1 l dC dI cy _ ad kv N hN v hv x_2 x_4) (cwV 3 hts gL_law_X7_kin rfl rfl rfl hd_V_X7_kin_3 ⟨Nat.le_of_ble_eq_true rfl, Nat.le_of_ble_eq_true rfl⟩) (yl_preV hE hK hP hD (ci := 7) (q0 := 0) rfl (wl_at (by omega) (ce_0 (by decide)))) rfl rfl hl.1 rfl (lv_room (Nat.le_of_ble_eq_true rfl)) dL_law_242 hcs) (fun r_8 c_8 H locs hw_8 hP hD hS => ?_)
    have hP : va_P (dC, dI) vwCl (wm ad2 cy v2 ++ wl ad kv cy N c_8) H := hP
    have hD : va_D (fun q : Nat => s.heap.size ≤ q) (wm ad2 cy v2 ++ wl ad kv cy N c_8) := hD
    obtain ⟨hv, hpc⟩ := hw_8
    refine lv_pop hx hb dL_law_245 rfl ?_
    refine lv_aload_n hx hb dL_law_246 rfl (lv_at hl 1 rfl) ?_
    refine lv_aload_n hx hb dL_law_247 rfl (lv_at hl 3 rfl) ?_
    refine lv_iload_n hx hb dL_law_248 rfl (lv_at hl 0 rfl) ?_
    refine lv_iconst (v := 1) hx hb dL_law_249 (by decide) ?_
    refine lv_iadd hx hb dL_law_250 ?_
    refine lv_topi (fun x_9 ex_9 => ?_)
    obtain rfl : x_1 = x_9 := ex_1.trans ex_9.symm
    refine va_sld hx hb hX hbl hbA hS (vp_in_iff.mpr ⟨by omega, by omega⟩) dL_law_251 ?_
    refine lv_topi (fun x_10 ex_10 => ?_)
    obtain rfl : x_2 = x_10 := ex_2.trans ex_10.symm
    refine lv_aload_n hx hb dL_law_252 rfl (lv_at hl 3 rfl) ?_
    refine lv_iload_n hx hb dL_law_253 rfl (lv_at hl 0 rfl) ?_
    refine lv_iconst (v := 2) hx hb dL_law_254 (by decide) ?_
    refine lv_iadd hx hb dL_law_255 ?_
    refine lv_topi (fun x_11 ex_11 => ?_)
    obtain rfl : x_3 = x_11 := ex_3.trans ex_11.symm
    refine va_sld hx hb hX hbl hbA hS (vp_in_iff.mpr ⟨by omega, by omega⟩) dL_law_256 ?_
    refine lv_topi (fun x_12 ex_12 => ?_)
    obtain rfl : x_4 = x_12 := ex_4.trans ex_12.symm
    refine lv_aload_n hx hb dL_law_257 rfl (lv_at hl 3 rfl) ?_
    refine lv_iload_n hx hb dL_law_258 rfl (lv_at hl 0 rfl) ?_
    refine lv_iconst (v := 3) hx hb dL_law_259 (by decide) ?_
    refine lv_iadd hx hb dL_law_260 ?_
    refine lv_topi (fun x_13 ex_13 => ?_)
    obtain rfl : x_5 = x_13 := ex_5.trans ex_13.symm
    refine va_sld hx hb hX hbl hbA hS (vp_in_iff.mpr ⟨by omega, by omega⟩) dL_law_261 ?_
    refine lv_topi (fun x_14 ex_14 => ?_)
    obtain rfl : x_6 = x_14 := ex_6.trans ex_14.symm
    refine lv_if_eq (tgt := 269) hx hb dL_law_262 (by decide) (fun c_15 => ?_) (fun c_15 => ?_)
    · have tc_15 : x_6.toInt = (0 : Int32).toInt := by rw [c_15]
      exfalso
      omega
    · have tc_15 : x_6.toInt ≠ (0 : Int32).toInt := fun q => absurd (Int32.toInt_inj.mp q) c_15
      refine lv_iconst (v := 1) hx hb dL_law_265 (by decide) ?_
      refine lv_goto (tgt := 270) hx hb dL_law_266 (by decide) ?_
      have hq0 := hq
      refine yl_i (X := wm ad2 cy v2) (Y := wl ad kv cy N c_8) (w1 := fun (u : Nat → Nat → Int32) => wm ad2 cy u) hP hD hS hA (va_runV (As := [.int x_2, .int x_4, .int 1]) (rest := []) ⟨hx, hb, hml, hown, hts⟩ (e_X8_kin_1 l dC dI cy _ ad2 v2 hq x_2 x_4) (cwV 3 hts gL_law_X8_kin rfl rfl rfl hd_V_X8_kin_3 ⟨Nat.le_of_ble_eq_true rfl, Nat.le_of_ble_eq_true rfl⟩) (yl_preV hE hK hP hD (ci := 8) (q0 := 0) rfl (wm_at (by decide) rc_0)) rfl rfl hl.1 rfl (lv_room (Nat.le_of_ble_eq_true rfl)) dL_law_270 hcs) (fun r_16 m_16 H locs hw_16 hP hD hS => ?_)
      have hP : va_P (dC, dI) vwCl (wl ad kv cy N c_8 ++ wm ad2 cy m_16) H := hP
      have hD : va_D (fun q : Nat => s.heap.size ≤ q) (wl ad kv cy N c_8 ++ wm ad2 cy m_16) := hD
      obtain ⟨hq, hpm⟩ := hw_16
      obtain ⟨hrr, hJ⟩ := T_kin_1 hv0 hq0 hJ hpc hpm
      subst hrr
      refine lv_pop hx hb dL_law_273 rfl ?_
      refine lv_goto (tgt := 1060) hx hb dL_law_274 (by decide) ?_
      exact kk c_8 m_16 _ _ ls hv hq hJ hP hD hS hl

set_option maxHeartbeats 4000000 in
set_option maxRecDepth 100000 in
/-- the case of open -/
theorem lc_3 {p : Program} {l : Launch} {e : Env} {s : State} {m : MethodId} {below : List Frame} {meth : Method} {c : Code} {dC : Nat → ClassId} {dI : Nat → Nat → Nat} {cy : Nat → ClassId} {b L : Nat} {xs : Nat → Int32} (C0 : lw_At p s m meth c b L xs) {t1 t2 : Nat} (hSt : ex_St t1 t2 (fun q : Nat => s.heap.size ≤ q) s) (hE : ex_K s) (hK : va_K (dC, dI) vwCl (ty_L cy) s) (hL : L ≤ 3584) {ad ad2 : Nat → Nat} {kv : Value} {N : Nat} (hN : 119 ≤ N) {v v2 : Nat → Nat → Int32} (hv : Iv v) (hq : Ir v2) {n : Int32} (hJ : RR n v v2) {i : Int32} (hi : 0 ≤ i.toInt ∧ i.toInt + 7 ≤ (L : Int)) {cells slots : Nat} (hcs : cells ≤ room_1.cells ∧ slots ≤ room_1.slots) {H : Heap} {locs : List Loc} (hP : va_P (dC, dI) vwCl (wl ad kv cy N v ++ wm ad2 cy v2) H) (hD : va_D (fun q : Nat => s.heap.size ≤ q) (wl ad kv cy N v ++ wm ad2 cy v2)) (hS : va_S (fun q : Nat => s.heap.size ≤ q) s.heap H locs) (ls : Array Slot) (hl : lv_has ls 4 [(3, .int i), (2, .ref (ad2 0)), (1, .ref (ad 0)), (0, .ref b)]) (kk : ∀ (v1 v3 : Nat → Nat → Int32) (H1 : Heap) (locs1 : List Loc) (ls1 : Array Slot), Iv v1 → Ir v3 → RR n v1 v3 → va_P (dC, dI) vwCl (wl ad kv cy N v1 ++ wm ad2 cy v3) H1 → va_D (fun q : Nat => s.heap.size ≤ q) (wl ad kv cy N v1 ++ wm ad2 cy v3) → va_S (fun q : Nat => s.heap.size ≤ q) s.heap H1 locs1 → lv_has ls1 4 [(3, .int i), (2, .ref (ad2 0)), (1, .ref (ad 0)), (0, .ref b)] → W p l e room_1 s m #[Value.ref b] below meth c H1 locs1 cells slots (lw_Z below #[Value.ref b] s) (F0 m 1060 ls1 [])) : W p l e room_1 s m #[Value.ref b] below meth c H locs cells slots (lw_Z below #[Value.ref b] s) (F0 m 277 ls []) := by
  obtain ⟨hx, hb, hr, hml, hown, hts0, hX, hbl, hlocks, hgv⟩ := id C0
  have hts : ∀ w ∈ wsL_law, w.before #[Value.ref b] s = true := fun w h => hts0 w (wsL_law_in w h)
  have hown : s.vm.findClass RL = some m.cls := hown
  have hA : ∀ q : Nat, s.heap.size ≤ q → (fun q : Nat => s.heap.size ≤ q) q := fun _ h => h
  have hbA : ¬ (fun q : Nat => s.heap.size ≤ q) b := Nat.not_le.mpr hbl
  refine lv_aload_n hx hb dL_law_277 rfl (lv_at hl 2 rfl) ?_
  refine lv_aload_n hx hb dL_law_278 rfl (lv_at hl 3 rfl) ?_
  refine lv_iload_n hx hb dL_law_279 rfl (lv_at hl 0 rfl) ?_
  refine lv_iconst (v := 1) hx hb dL_law_280 (by decide) ?_
  refine lv_iadd hx hb dL_law_281 ?_
  refine lv_topi (fun x_1 ex_1 => ?_)
  have k_1 : (1 : Int32).toInt = 1 := by decide
  have tx_1 : x_1.toInt = i.toInt + (1 : Int32).toInt := by rw [ex_1]; exact t_add ⟨by omega, by omega⟩
  refine va_sld hx hb hX hbl hbA hS (vp_in_iff.mpr ⟨by omega, by omega⟩) dL_law_282 ?_
  refine lv_topi (fun x_2 ex_2 => ?_)
  refine lv_aload_n hx hb dL_law_283 rfl (lv_at hl 3 rfl) ?_
  refine lv_iload_n hx hb dL_law_284 rfl (lv_at hl 0 rfl) ?_
  refine lv_iconst (v := 2) hx hb dL_law_285 (by decide) ?_
  refine lv_iadd hx hb dL_law_286 ?_
  refine lv_topi (fun x_3 ex_3 => ?_)
  have k_2 : (2 : Int32).toInt = 2 := by decide
  have tx_3 : x_3.toInt = i.toInt + (2 : Int32).toInt := by rw [ex_3]; exact t_add ⟨by omega, by omega⟩
  refine va_sld hx hb hX hbl hbA hS (vp_in_iff.mpr ⟨by omega, by omega⟩) dL_law_287 ?_
  refine lv_topi (fun x_4 ex_4 => ?_)
  have hv0 := hv
  refine yl_i (X := wl ad kv cy N v) (Y := wm ad2 cy v2) (w1 := fun (u : Nat → Nat → Int32) => wl ad kv cy N u) hP hD hS hA (va_runV (As := [.int x_2, .int x_4]) (rest := []) ⟨hx, hb, hml, hown, hts⟩ (e_X7_open l dC dI cy _ ad kv N hN v hv x_2 x_4) (cwV 2 hts gL_law_X7_open rfl rfl rfl hd_V_X7_open_2 ⟨Nat.le_of_ble_eq_true rfl, Nat.le_of_ble_eq_true rfl⟩) (yl_preV hE hK hP hD (ci := 7) (q0 := 0) rfl (wl_at (by omega) (ce_0 (by decide)))) rfl rfl hl.1 rfl (lv_room (Nat.le_of_ble_eq_true rfl)) dL_law_288 hcs) (fun r_5 c_5 H locs hw_5 hP hD hS => ?_)
  have hP : va_P (dC, dI) vwCl (wm ad2 cy v2 ++ wl ad kv cy N c_5) H := hP
  have hD : va_D (fun q : Nat => s.heap.size ≤ q) (wm ad2 cy v2 ++ wl ad kv cy N c_5) := hD
  obtain ⟨hv, hpc⟩ := hw_5
  refine lv_pop hx hb dL_law_291 rfl ?_
  refine lv_aload_n hx hb dL_law_292 rfl (lv_at hl 1 rfl) ?_
  refine lv_aload_n hx hb dL_law_293 rfl (lv_at hl 3 rfl) ?_
  refine lv_iload_n hx hb dL_law_294 rfl (lv_at hl 0 rfl) ?_
  refine lv_iconst (v := 1) hx hb dL_law_295 (by decide) ?_
  refine lv_iadd hx hb dL_law_296 ?_
  refine lv_topi (fun x_6 ex_6 => ?_)
  obtain rfl : x_1 = x_6 := ex_1.trans ex_6.symm
  refine va_sld hx hb hX hbl hbA hS (vp_in_iff.mpr ⟨by omega, by omega⟩) dL_law_297 ?_
  refine lv_topi (fun x_7 ex_7 => ?_)
  obtain rfl : x_2 = x_7 := ex_2.trans ex_7.symm
  refine lv_aload_n hx hb dL_law_298 rfl (lv_at hl 3 rfl) ?_
  refine lv_iload_n hx hb dL_law_299 rfl (lv_at hl 0 rfl) ?_
  refine lv_iconst (v := 2) hx hb dL_law_300 (by decide) ?_
  refine lv_iadd hx hb dL_law_301 ?_
  refine lv_topi (fun x_8 ex_8 => ?_)
  obtain rfl : x_3 = x_8 := ex_3.trans ex_8.symm
  refine va_sld hx hb hX hbl hbA hS (vp_in_iff.mpr ⟨by omega, by omega⟩) dL_law_302 ?_
  refine lv_topi (fun x_9 ex_9 => ?_)
  obtain rfl : x_4 = x_9 := ex_4.trans ex_9.symm
  have hq0 := hq
  refine yl_i (X := wm ad2 cy v2) (Y := wl ad kv cy N c_5) (w1 := fun (u : Nat → Nat → Int32) => wm ad2 cy u) hP hD hS hA (va_runV (As := [.int x_2, .int x_4]) (rest := []) ⟨hx, hb, hml, hown, hts⟩ (e_X8_open l dC dI cy _ ad2 v2 hq x_2 x_4) (cwV 2 hts gL_law_X8_open rfl rfl rfl hd_V_X8_open_2 ⟨Nat.le_of_ble_eq_true rfl, Nat.le_of_ble_eq_true rfl⟩) (yl_preV hE hK hP hD (ci := 8) (q0 := 0) rfl (wm_at (by decide) rc_0)) rfl rfl hl.1 rfl (lv_room (Nat.le_of_ble_eq_true rfl)) dL_law_303 hcs) (fun r_10 m_10 H locs hw_10 hP hD hS => ?_)
  have hP : va_P (dC, dI) vwCl (wl ad kv cy N c_5 ++ wm ad2 cy m_10) H := hP
  have hD : va_D (fun q : Nat => s.heap.size ≤ q) (wl ad kv cy N c_5 ++ wm ad2 cy m_10) := hD
  obtain ⟨hq, hpm⟩ := hw_10
  obtain ⟨hrr, hJ⟩ := T_open hv0 hq0 hJ hpc hpm
  subst hrr
  refine lv_pop hx hb dL_law_306 rfl ?_
  refine lv_goto (tgt := 1060) hx hb dL_law_307 (by decide) ?_
  exact kk c_5 m_10 _ _ ls hv hq hJ hP hD hS hl

set_option maxHeartbeats 4000000 in
set_option maxRecDepth 100000 in
/-- the case of close -/
theorem lc_4 {p : Program} {l : Launch} {e : Env} {s : State} {m : MethodId} {below : List Frame} {meth : Method} {c : Code} {dC : Nat → ClassId} {dI : Nat → Nat → Nat} {cy : Nat → ClassId} {b L : Nat} {xs : Nat → Int32} (C0 : lw_At p s m meth c b L xs) {t1 t2 : Nat} (hSt : ex_St t1 t2 (fun q : Nat => s.heap.size ≤ q) s) (hE : ex_K s) (hK : va_K (dC, dI) vwCl (ty_L cy) s) (hL : L ≤ 3584) {ad ad2 : Nat → Nat} {kv : Value} {N : Nat} (hN : 119 ≤ N) {v v2 : Nat → Nat → Int32} (hv : Iv v) (hq : Ir v2) {n : Int32} (hJ : RR n v v2) {i : Int32} (hi : 0 ≤ i.toInt ∧ i.toInt + 7 ≤ (L : Int)) {cells slots : Nat} (hcs : cells ≤ room_1.cells ∧ slots ≤ room_1.slots) {H : Heap} {locs : List Loc} (hP : va_P (dC, dI) vwCl (wl ad kv cy N v ++ wm ad2 cy v2) H) (hD : va_D (fun q : Nat => s.heap.size ≤ q) (wl ad kv cy N v ++ wm ad2 cy v2)) (hS : va_S (fun q : Nat => s.heap.size ≤ q) s.heap H locs) (ls : Array Slot) (hl : lv_has ls 4 [(3, .int i), (2, .ref (ad2 0)), (1, .ref (ad 0)), (0, .ref b)]) (kk : ∀ (v1 v3 : Nat → Nat → Int32) (H1 : Heap) (locs1 : List Loc) (ls1 : Array Slot), Iv v1 → Ir v3 → RR n v1 v3 → va_P (dC, dI) vwCl (wl ad kv cy N v1 ++ wm ad2 cy v3) H1 → va_D (fun q : Nat => s.heap.size ≤ q) (wl ad kv cy N v1 ++ wm ad2 cy v3) → va_S (fun q : Nat => s.heap.size ≤ q) s.heap H1 locs1 → lv_has ls1 4 [(3, .int i), (2, .ref (ad2 0)), (1, .ref (ad 0)), (0, .ref b)] → W p l e room_1 s m #[Value.ref b] below meth c H1 locs1 cells slots (lw_Z below #[Value.ref b] s) (F0 m 1060 ls1 [])) : W p l e room_1 s m #[Value.ref b] below meth c H locs cells slots (lw_Z below #[Value.ref b] s) (F0 m 310 ls []) := by
  obtain ⟨hx, hb, hr, hml, hown, hts0, hX, hbl, hlocks, hgv⟩ := id C0
  have hts : ∀ w ∈ wsL_law, w.before #[Value.ref b] s = true := fun w h => hts0 w (wsL_law_in w h)
  have hown : s.vm.findClass RL = some m.cls := hown
  have hA : ∀ q : Nat, s.heap.size ≤ q → (fun q : Nat => s.heap.size ≤ q) q := fun _ h => h
  have hbA : ¬ (fun q : Nat => s.heap.size ≤ q) b := Nat.not_le.mpr hbl
  refine lv_aload_n hx hb dL_law_310 rfl (lv_at hl 2 rfl) ?_
  refine lv_aload_n hx hb dL_law_311 rfl (lv_at hl 3 rfl) ?_
  refine lv_iload_n hx hb dL_law_312 rfl (lv_at hl 0 rfl) ?_
  refine lv_iconst (v := 1) hx hb dL_law_313 (by decide) ?_
  refine lv_iadd hx hb dL_law_314 ?_
  refine lv_topi (fun x_1 ex_1 => ?_)
  have k_1 : (1 : Int32).toInt = 1 := by decide
  have tx_1 : x_1.toInt = i.toInt + (1 : Int32).toInt := by rw [ex_1]; exact t_add ⟨by omega, by omega⟩
  refine va_sld hx hb hX hbl hbA hS (vp_in_iff.mpr ⟨by omega, by omega⟩) dL_law_315 ?_
  refine lv_topi (fun x_2 ex_2 => ?_)
  have hv0 := hv
  refine yl_i (X := wl ad kv cy N v) (Y := wm ad2 cy v2) (w1 := fun (u : Nat → Nat → Int32) => wl ad kv cy N u) hP hD hS hA (va_runV (As := [.int x_2]) (rest := []) ⟨hx, hb, hml, hown, hts⟩ (e_X7_close l dC dI cy _ ad kv N hN v hv x_2) (cwV 1 hts gL_law_X7_close rfl rfl rfl hd_V_X7_close_1 ⟨Nat.le_of_ble_eq_true rfl, Nat.le_of_ble_eq_true rfl⟩) (yl_preV hE hK hP hD (ci := 7) (q0 := 0) rfl (wl_at (by omega) (ce_0 (by decide)))) rfl rfl hl.1 rfl (lv_room (Nat.le_of_ble_eq_true rfl)) dL_law_316 hcs) (fun r_3 c_3 H locs hw_3 hP hD hS => ?_)
  have hP : va_P (dC, dI) vwCl (wm ad2 cy v2 ++ wl ad kv cy N c_3) H := hP
  have hD : va_D (fun q : Nat => s.heap.size ≤ q) (wm ad2 cy v2 ++ wl ad kv cy N c_3) := hD
  obtain ⟨hv, hpc⟩ := hw_3
  refine lv_aload_n hx hb dL_law_319 rfl (lv_at hl 1 rfl) ?_
  refine lv_aload_n hx hb dL_law_320 rfl (lv_at hl 3 rfl) ?_
  refine lv_iload_n hx hb dL_law_321 rfl (lv_at hl 0 rfl) ?_
  refine lv_iconst (v := 1) hx hb dL_law_322 (by decide) ?_
  refine lv_iadd hx hb dL_law_323 ?_
  refine lv_topi (fun x_4 ex_4 => ?_)
  obtain rfl : x_1 = x_4 := ex_1.trans ex_4.symm
  refine va_sld hx hb hX hbl hbA hS (vp_in_iff.mpr ⟨by omega, by omega⟩) dL_law_324 ?_
  refine lv_topi (fun x_5 ex_5 => ?_)
  obtain rfl : x_2 = x_5 := ex_2.trans ex_5.symm
  have hq0 := hq
  refine yl_i (X := wm ad2 cy v2) (Y := wl ad kv cy N c_3) (w1 := fun (u : Nat → Nat → Int32) => wm ad2 cy u) hP hD hS hA (va_runV (As := [.int x_2]) (rest := [.int r_3]) ⟨hx, hb, hml, hown, hts⟩ (e_X8_close l dC dI cy _ ad2 v2 hq x_2) (cwV 1 hts gL_law_X8_close rfl rfl rfl hd_V_X8_close_1 ⟨Nat.le_of_ble_eq_true rfl, Nat.le_of_ble_eq_true rfl⟩) (yl_preV hE hK hP hD (ci := 8) (q0 := 0) rfl (wm_at (by decide) rc_0)) rfl rfl hl.1 rfl (lv_room (Nat.le_of_ble_eq_true rfl)) dL_law_325 hcs) (fun r_6 m_6 H locs hw_6 hP hD hS => ?_)
  have hP : va_P (dC, dI) vwCl (wl ad kv cy N c_3 ++ wm ad2 cy m_6) H := hP
  have hD : va_D (fun q : Nat => s.heap.size ≤ q) (wl ad kv cy N c_3 ++ wm ad2 cy m_6) := hD
  obtain ⟨hq, hpm⟩ := hw_6
  obtain ⟨hrr, hJ⟩ := T_close hv0 hq0 hJ hpc hpm
  subst hrr
  refine lv_icmp_eq (tgt := 1060) hx hb dL_law_328 (by decide) (fun c_7 => ?_) (fun c_7 => ?_)
  · have tc_7 : r_3.toInt = r_3.toInt := by rw [c_7]
    exact kk c_3 m_6 _ _ ls hv hq hJ hP hD hS hl
  · have tc_7 : r_3.toInt ≠ r_3.toInt := fun q => absurd (Int32.toInt_inj.mp q) c_7
    exfalso
    omega

set_option maxHeartbeats 4000000 in
set_option maxRecDepth 100000 in
/-- the case of weight -/
theorem lc_5 {p : Program} {l : Launch} {e : Env} {s : State} {m : MethodId} {below : List Frame} {meth : Method} {c : Code} {dC : Nat → ClassId} {dI : Nat → Nat → Nat} {cy : Nat → ClassId} {b L : Nat} {xs : Nat → Int32} (C0 : lw_At p s m meth c b L xs) {t1 t2 : Nat} (hSt : ex_St t1 t2 (fun q : Nat => s.heap.size ≤ q) s) (hE : ex_K s) (hK : va_K (dC, dI) vwCl (ty_L cy) s) (hL : L ≤ 3584) {ad ad2 : Nat → Nat} {kv : Value} {N : Nat} (hN : 119 ≤ N) {v v2 : Nat → Nat → Int32} (hv : Iv v) (hq : Ir v2) {n : Int32} (hJ : RR n v v2) {i : Int32} (hi : 0 ≤ i.toInt ∧ i.toInt + 7 ≤ (L : Int)) {cells slots : Nat} (hcs : cells ≤ room_1.cells ∧ slots ≤ room_1.slots) {H : Heap} {locs : List Loc} (hP : va_P (dC, dI) vwCl (wl ad kv cy N v ++ wm ad2 cy v2) H) (hD : va_D (fun q : Nat => s.heap.size ≤ q) (wl ad kv cy N v ++ wm ad2 cy v2)) (hS : va_S (fun q : Nat => s.heap.size ≤ q) s.heap H locs) (ls : Array Slot) (hl : lv_has ls 4 [(3, .int i), (2, .ref (ad2 0)), (1, .ref (ad 0)), (0, .ref b)]) (kk : ∀ (v1 v3 : Nat → Nat → Int32) (H1 : Heap) (locs1 : List Loc) (ls1 : Array Slot), Iv v1 → Ir v3 → RR n v1 v3 → va_P (dC, dI) vwCl (wl ad kv cy N v1 ++ wm ad2 cy v3) H1 → va_D (fun q : Nat => s.heap.size ≤ q) (wl ad kv cy N v1 ++ wm ad2 cy v3) → va_S (fun q : Nat => s.heap.size ≤ q) s.heap H1 locs1 → lv_has ls1 4 [(3, .int i), (2, .ref (ad2 0)), (1, .ref (ad 0)), (0, .ref b)] → W p l e room_1 s m #[Value.ref b] below meth c H1 locs1 cells slots (lw_Z below #[Value.ref b] s) (F0 m 1060 ls1 [])) : W p l e room_1 s m #[Value.ref b] below meth c H locs cells slots (lw_Z below #[Value.ref b] s) (F0 m 333 ls []) := by
  obtain ⟨hx, hb, hr, hml, hown, hts0, hX, hbl, hlocks, hgv⟩ := id C0
  have hts : ∀ w ∈ wsL_law, w.before #[Value.ref b] s = true := fun w h => hts0 w (wsL_law_in w h)
  have hown : s.vm.findClass RL = some m.cls := hown
  have hA : ∀ q : Nat, s.heap.size ≤ q → (fun q : Nat => s.heap.size ≤ q) q := fun _ h => h
  have hbA : ¬ (fun q : Nat => s.heap.size ≤ q) b := Nat.not_le.mpr hbl
  refine lv_aload_n hx hb dL_law_333 rfl (lv_at hl 2 rfl) ?_
  refine lv_aload_n hx hb dL_law_334 rfl (lv_at hl 3 rfl) ?_
  refine lv_iload_n hx hb dL_law_335 rfl (lv_at hl 0 rfl) ?_
  refine lv_iconst (v := 1) hx hb dL_law_336 (by decide) ?_
  refine lv_iadd hx hb dL_law_337 ?_
  refine lv_topi (fun x_1 ex_1 => ?_)
  have k_1 : (1 : Int32).toInt = 1 := by decide
  have tx_1 : x_1.toInt = i.toInt + (1 : Int32).toInt := by rw [ex_1]; exact t_add ⟨by omega, by omega⟩
  refine va_sld hx hb hX hbl hbA hS (vp_in_iff.mpr ⟨by omega, by omega⟩) dL_law_338 ?_
  refine lv_topi (fun x_2 ex_2 => ?_)
  refine lv_aload_n hx hb dL_law_339 rfl (lv_at hl 3 rfl) ?_
  refine lv_iload_n hx hb dL_law_340 rfl (lv_at hl 0 rfl) ?_
  refine lv_iconst (v := 2) hx hb dL_law_341 (by decide) ?_
  refine lv_iadd hx hb dL_law_342 ?_
  refine lv_topi (fun x_3 ex_3 => ?_)
  have k_2 : (2 : Int32).toInt = 2 := by decide
  have tx_3 : x_3.toInt = i.toInt + (2 : Int32).toInt := by rw [ex_3]; exact t_add ⟨by omega, by omega⟩
  refine va_sld hx hb hX hbl hbA hS (vp_in_iff.mpr ⟨by omega, by omega⟩) dL_law_343 ?_
  refine lv_topi (fun x_4 ex_4 => ?_)
  have hv0 := hv
  refine yl_i (X := wl ad kv cy N v) (Y := wm ad2 cy v2) (w1 := fun (u : Nat → Nat → Int32) => wl ad kv cy N u) hP hD hS hA (va_runV (As := [.int x_2, .int x_4]) (rest := []) ⟨hx, hb, hml, hown, hts⟩ (e_X7_weight l dC dI cy _ ad kv N hN v hv x_2 x_4) (cwV 2 hts gL_law_X7_weight rfl rfl rfl hd_V_X7_weight_2 ⟨Nat.le_of_ble_eq_true rfl, Nat.le_of_ble_eq_true rfl⟩) (yl_preV hE hK hP hD (ci := 7) (q0 := 0) rfl (wl_at (by omega) (ce_0 (by decide)))) rfl rfl hl.1 rfl (lv_room (Nat.le_of_ble_eq_true rfl)) dL_law_344 hcs) (fun r_5 c_5 H locs hw_5 hP hD hS => ?_)
  have hP : va_P (dC, dI) vwCl (wm ad2 cy v2 ++ wl ad kv cy N c_5) H := hP
  have hD : va_D (fun q : Nat => s.heap.size ≤ q) (wm ad2 cy v2 ++ wl ad kv cy N c_5) := hD
  obtain ⟨hv, hpc⟩ := hw_5
  refine lv_pop hx hb dL_law_347 rfl ?_
  refine lv_aload_n hx hb dL_law_348 rfl (lv_at hl 1 rfl) ?_
  refine lv_aload_n hx hb dL_law_349 rfl (lv_at hl 3 rfl) ?_
  refine lv_iload_n hx hb dL_law_350 rfl (lv_at hl 0 rfl) ?_
  refine lv_iconst (v := 1) hx hb dL_law_351 (by decide) ?_
  refine lv_iadd hx hb dL_law_352 ?_
  refine lv_topi (fun x_6 ex_6 => ?_)
  obtain rfl : x_1 = x_6 := ex_1.trans ex_6.symm
  refine va_sld hx hb hX hbl hbA hS (vp_in_iff.mpr ⟨by omega, by omega⟩) dL_law_353 ?_
  refine lv_topi (fun x_7 ex_7 => ?_)
  obtain rfl : x_2 = x_7 := ex_2.trans ex_7.symm
  refine lv_aload_n hx hb dL_law_354 rfl (lv_at hl 3 rfl) ?_
  refine lv_iload_n hx hb dL_law_355 rfl (lv_at hl 0 rfl) ?_
  refine lv_iconst (v := 2) hx hb dL_law_356 (by decide) ?_
  refine lv_iadd hx hb dL_law_357 ?_
  refine lv_topi (fun x_8 ex_8 => ?_)
  obtain rfl : x_3 = x_8 := ex_3.trans ex_8.symm
  refine va_sld hx hb hX hbl hbA hS (vp_in_iff.mpr ⟨by omega, by omega⟩) dL_law_358 ?_
  refine lv_topi (fun x_9 ex_9 => ?_)
  obtain rfl : x_4 = x_9 := ex_4.trans ex_9.symm
  have hq0 := hq
  refine yl_i (X := wm ad2 cy v2) (Y := wl ad kv cy N c_5) (w1 := fun (u : Nat → Nat → Int32) => wm ad2 cy u) hP hD hS hA (va_runV (As := [.int x_2, .int x_4]) (rest := []) ⟨hx, hb, hml, hown, hts⟩ (e_X8_weight l dC dI cy _ ad2 v2 hq x_2 x_4) (cwV 2 hts gL_law_X8_weight rfl rfl rfl hd_V_X8_weight_2 ⟨Nat.le_of_ble_eq_true rfl, Nat.le_of_ble_eq_true rfl⟩) (yl_preV hE hK hP hD (ci := 8) (q0 := 0) rfl (wm_at (by decide) rc_0)) rfl rfl hl.1 rfl (lv_room (Nat.le_of_ble_eq_true rfl)) dL_law_359 hcs) (fun r_10 m_10 H locs hw_10 hP hD hS => ?_)
  have hP : va_P (dC, dI) vwCl (wl ad kv cy N c_5 ++ wm ad2 cy m_10) H := hP
  have hD : va_D (fun q : Nat => s.heap.size ≤ q) (wl ad kv cy N c_5 ++ wm ad2 cy m_10) := hD
  obtain ⟨hq, hpm⟩ := hw_10
  obtain ⟨hrr, hJ⟩ := T_weight hv0 hq0 hJ hpc hpm
  subst hrr
  refine lv_pop hx hb dL_law_362 rfl ?_
  refine lv_goto (tgt := 1060) hx hb dL_law_363 (by decide) ?_
  exact kk c_5 m_10 _ _ ls hv hq hJ hP hD hS hl

set_option maxHeartbeats 4000000 in
set_option maxRecDepth 100000 in
/-- the case of mark -/
theorem lc_6 {p : Program} {l : Launch} {e : Env} {s : State} {m : MethodId} {below : List Frame} {meth : Method} {c : Code} {dC : Nat → ClassId} {dI : Nat → Nat → Nat} {cy : Nat → ClassId} {b L : Nat} {xs : Nat → Int32} (C0 : lw_At p s m meth c b L xs) {t1 t2 : Nat} (hSt : ex_St t1 t2 (fun q : Nat => s.heap.size ≤ q) s) (hE : ex_K s) (hK : va_K (dC, dI) vwCl (ty_L cy) s) (hL : L ≤ 3584) {ad ad2 : Nat → Nat} {kv : Value} {N : Nat} (hN : 119 ≤ N) {v v2 : Nat → Nat → Int32} (hv : Iv v) (hq : Ir v2) {n : Int32} (hJ : RR n v v2) {i : Int32} (hi : 0 ≤ i.toInt ∧ i.toInt + 7 ≤ (L : Int)) {cells slots : Nat} (hcs : cells ≤ room_1.cells ∧ slots ≤ room_1.slots) {H : Heap} {locs : List Loc} (hP : va_P (dC, dI) vwCl (wl ad kv cy N v ++ wm ad2 cy v2) H) (hD : va_D (fun q : Nat => s.heap.size ≤ q) (wl ad kv cy N v ++ wm ad2 cy v2)) (hS : va_S (fun q : Nat => s.heap.size ≤ q) s.heap H locs) (ls : Array Slot) (hl : lv_has ls 4 [(3, .int i), (2, .ref (ad2 0)), (1, .ref (ad 0)), (0, .ref b)]) (kk : ∀ (v1 v3 : Nat → Nat → Int32) (H1 : Heap) (locs1 : List Loc) (ls1 : Array Slot), Iv v1 → Ir v3 → RR n v1 v3 → va_P (dC, dI) vwCl (wl ad kv cy N v1 ++ wm ad2 cy v3) H1 → va_D (fun q : Nat => s.heap.size ≤ q) (wl ad kv cy N v1 ++ wm ad2 cy v3) → va_S (fun q : Nat => s.heap.size ≤ q) s.heap H1 locs1 → lv_has ls1 4 [(3, .int i), (2, .ref (ad2 0)), (1, .ref (ad 0)), (0, .ref b)] → W p l e room_1 s m #[Value.ref b] below meth c H1 locs1 cells slots (lw_Z below #[Value.ref b] s) (F0 m 1060 ls1 [])) : W p l e room_1 s m #[Value.ref b] below meth c H locs cells slots (lw_Z below #[Value.ref b] s) (F0 m 366 ls []) := by
  obtain ⟨hx, hb, hr, hml, hown, hts0, hX, hbl, hlocks, hgv⟩ := id C0
  have hts : ∀ w ∈ wsL_law, w.before #[Value.ref b] s = true := fun w h => hts0 w (wsL_law_in w h)
  have hown : s.vm.findClass RL = some m.cls := hown
  have hA : ∀ q : Nat, s.heap.size ≤ q → (fun q : Nat => s.heap.size ≤ q) q := fun _ h => h
  have hbA : ¬ (fun q : Nat => s.heap.size ≤ q) b := Nat.not_le.mpr hbl
  refine lv_aload_n hx hb dL_law_366 rfl (lv_at hl 2 rfl) ?_
  refine lv_aload_n hx hb dL_law_367 rfl (lv_at hl 3 rfl) ?_
  refine lv_iload_n hx hb dL_law_368 rfl (lv_at hl 0 rfl) ?_
  refine lv_iconst (v := 1) hx hb dL_law_369 (by decide) ?_
  refine lv_iadd hx hb dL_law_370 ?_
  refine lv_topi (fun x_1 ex_1 => ?_)
  have k_1 : (1 : Int32).toInt = 1 := by decide
  have tx_1 : x_1.toInt = i.toInt + (1 : Int32).toInt := by rw [ex_1]; exact t_add ⟨by omega, by omega⟩
  refine va_sld hx hb hX hbl hbA hS (vp_in_iff.mpr ⟨by omega, by omega⟩) dL_law_371 ?_
  refine lv_topi (fun x_2 ex_2 => ?_)
  refine lv_aload_n hx hb dL_law_372 rfl (lv_at hl 3 rfl) ?_
  refine lv_iload_n hx hb dL_law_373 rfl (lv_at hl 0 rfl) ?_
  refine lv_iconst (v := 2) hx hb dL_law_374 (by decide) ?_
  refine lv_iadd hx hb dL_law_375 ?_
  refine lv_topi (fun x_3 ex_3 => ?_)
  have k_2 : (2 : Int32).toInt = 2 := by decide
  have tx_3 : x_3.toInt = i.toInt + (2 : Int32).toInt := by rw [ex_3]; exact t_add ⟨by omega, by omega⟩
  refine va_sld hx hb hX hbl hbA hS (vp_in_iff.mpr ⟨by omega, by omega⟩) dL_law_376 ?_
  refine lv_topi (fun x_4 ex_4 => ?_)
  have hv0 := hv
  refine yl_i (X := wl ad kv cy N v) (Y := wm ad2 cy v2) (w1 := fun (u : Nat → Nat → Int32) => wl ad kv cy N u) hP hD hS hA (va_runV (As := [.int x_2, .int x_4]) (rest := []) ⟨hx, hb, hml, hown, hts⟩ (e_X7_mark l dC dI cy _ ad kv N hN v hv x_2 x_4) (cwV 2 hts gL_law_X7_mark rfl rfl rfl hd_V_X7_mark_2 ⟨Nat.le_of_ble_eq_true rfl, Nat.le_of_ble_eq_true rfl⟩) (yl_preV hE hK hP hD (ci := 7) (q0 := 0) rfl (wl_at (by omega) (ce_0 (by decide)))) rfl rfl hl.1 rfl (lv_room (Nat.le_of_ble_eq_true rfl)) dL_law_377 hcs) (fun r_5 c_5 H locs hw_5 hP hD hS => ?_)
  have hP : va_P (dC, dI) vwCl (wm ad2 cy v2 ++ wl ad kv cy N c_5) H := hP
  have hD : va_D (fun q : Nat => s.heap.size ≤ q) (wm ad2 cy v2 ++ wl ad kv cy N c_5) := hD
  obtain ⟨hv, hpc⟩ := hw_5
  refine lv_pop hx hb dL_law_380 rfl ?_
  refine lv_aload_n hx hb dL_law_381 rfl (lv_at hl 1 rfl) ?_
  refine lv_aload_n hx hb dL_law_382 rfl (lv_at hl 3 rfl) ?_
  refine lv_iload_n hx hb dL_law_383 rfl (lv_at hl 0 rfl) ?_
  refine lv_iconst (v := 1) hx hb dL_law_384 (by decide) ?_
  refine lv_iadd hx hb dL_law_385 ?_
  refine lv_topi (fun x_6 ex_6 => ?_)
  obtain rfl : x_1 = x_6 := ex_1.trans ex_6.symm
  refine va_sld hx hb hX hbl hbA hS (vp_in_iff.mpr ⟨by omega, by omega⟩) dL_law_386 ?_
  refine lv_topi (fun x_7 ex_7 => ?_)
  obtain rfl : x_2 = x_7 := ex_2.trans ex_7.symm
  refine lv_aload_n hx hb dL_law_387 rfl (lv_at hl 3 rfl) ?_
  refine lv_iload_n hx hb dL_law_388 rfl (lv_at hl 0 rfl) ?_
  refine lv_iconst (v := 2) hx hb dL_law_389 (by decide) ?_
  refine lv_iadd hx hb dL_law_390 ?_
  refine lv_topi (fun x_8 ex_8 => ?_)
  obtain rfl : x_3 = x_8 := ex_3.trans ex_8.symm
  refine va_sld hx hb hX hbl hbA hS (vp_in_iff.mpr ⟨by omega, by omega⟩) dL_law_391 ?_
  refine lv_topi (fun x_9 ex_9 => ?_)
  obtain rfl : x_4 = x_9 := ex_4.trans ex_9.symm
  have hq0 := hq
  refine yl_i (X := wm ad2 cy v2) (Y := wl ad kv cy N c_5) (w1 := fun (u : Nat → Nat → Int32) => wm ad2 cy u) hP hD hS hA (va_runV (As := [.int x_2, .int x_4]) (rest := []) ⟨hx, hb, hml, hown, hts⟩ (e_X8_mark l dC dI cy _ ad2 v2 hq x_2 x_4) (cwV 2 hts gL_law_X8_mark rfl rfl rfl hd_V_X8_mark_2 ⟨Nat.le_of_ble_eq_true rfl, Nat.le_of_ble_eq_true rfl⟩) (yl_preV hE hK hP hD (ci := 8) (q0 := 0) rfl (wm_at (by decide) rc_0)) rfl rfl hl.1 rfl (lv_room (Nat.le_of_ble_eq_true rfl)) dL_law_392 hcs) (fun r_10 m_10 H locs hw_10 hP hD hS => ?_)
  have hP : va_P (dC, dI) vwCl (wl ad kv cy N c_5 ++ wm ad2 cy m_10) H := hP
  have hD : va_D (fun q : Nat => s.heap.size ≤ q) (wl ad kv cy N c_5 ++ wm ad2 cy m_10) := hD
  obtain ⟨hq, hpm⟩ := hw_10
  obtain ⟨hrr, hJ⟩ := T_mark hv0 hq0 hJ hpc hpm
  subst hrr
  refine lv_pop hx hb dL_law_395 rfl ?_
  refine lv_goto (tgt := 1060) hx hb dL_law_396 (by decide) ?_
  exact kk c_5 m_10 _ _ ls hv hq hJ hP hD hS hl

set_option maxHeartbeats 4000000 in
set_option maxRecDepth 100000 in
/-- the case of of -/
theorem lc_7 {p : Program} {l : Launch} {e : Env} {s : State} {m : MethodId} {below : List Frame} {meth : Method} {c : Code} {dC : Nat → ClassId} {dI : Nat → Nat → Nat} {cy : Nat → ClassId} {b L : Nat} {xs : Nat → Int32} (C0 : lw_At p s m meth c b L xs) {t1 t2 : Nat} (hSt : ex_St t1 t2 (fun q : Nat => s.heap.size ≤ q) s) (hE : ex_K s) (hK : va_K (dC, dI) vwCl (ty_L cy) s) (hL : L ≤ 3584) {ad ad2 : Nat → Nat} {kv : Value} {N : Nat} (hN : 119 ≤ N) {v v2 : Nat → Nat → Int32} (hv : Iv v) (hq : Ir v2) {n : Int32} (hJ : RR n v v2) {i : Int32} (hi : 0 ≤ i.toInt ∧ i.toInt + 7 ≤ (L : Int)) {cells slots : Nat} (hcs : cells ≤ room_1.cells ∧ slots ≤ room_1.slots) {H : Heap} {locs : List Loc} (hP : va_P (dC, dI) vwCl (wl ad kv cy N v ++ wm ad2 cy v2) H) (hD : va_D (fun q : Nat => s.heap.size ≤ q) (wl ad kv cy N v ++ wm ad2 cy v2)) (hS : va_S (fun q : Nat => s.heap.size ≤ q) s.heap H locs) (ls : Array Slot) (hl : lv_has ls 4 [(3, .int i), (2, .ref (ad2 0)), (1, .ref (ad 0)), (0, .ref b)]) (kk : ∀ (v1 v3 : Nat → Nat → Int32) (H1 : Heap) (locs1 : List Loc) (ls1 : Array Slot), Iv v1 → Ir v3 → RR n v1 v3 → va_P (dC, dI) vwCl (wl ad kv cy N v1 ++ wm ad2 cy v3) H1 → va_D (fun q : Nat => s.heap.size ≤ q) (wl ad kv cy N v1 ++ wm ad2 cy v3) → va_S (fun q : Nat => s.heap.size ≤ q) s.heap H1 locs1 → lv_has ls1 4 [(3, .int i), (2, .ref (ad2 0)), (1, .ref (ad 0)), (0, .ref b)] → W p l e room_1 s m #[Value.ref b] below meth c H1 locs1 cells slots (lw_Z below #[Value.ref b] s) (F0 m 1060 ls1 [])) : W p l e room_1 s m #[Value.ref b] below meth c H locs cells slots (lw_Z below #[Value.ref b] s) (F0 m 399 ls []) := by
  obtain ⟨hx, hb, hr, hml, hown, hts0, hX, hbl, hlocks, hgv⟩ := id C0
  have hts : ∀ w ∈ wsL_law, w.before #[Value.ref b] s = true := fun w h => hts0 w (wsL_law_in w h)
  have hown : s.vm.findClass RL = some m.cls := hown
  have hA : ∀ q : Nat, s.heap.size ≤ q → (fun q : Nat => s.heap.size ≤ q) q := fun _ h => h
  have hbA : ¬ (fun q : Nat => s.heap.size ≤ q) b := Nat.not_le.mpr hbl
  refine lv_aload_n hx hb dL_law_399 rfl (lv_at hl 2 rfl) ?_
  refine lv_aload_n hx hb dL_law_400 rfl (lv_at hl 3 rfl) ?_
  refine lv_iload_n hx hb dL_law_401 rfl (lv_at hl 0 rfl) ?_
  refine lv_iconst (v := 1) hx hb dL_law_402 (by decide) ?_
  refine lv_iadd hx hb dL_law_403 ?_
  refine lv_topi (fun x_1 ex_1 => ?_)
  have k_1 : (1 : Int32).toInt = 1 := by decide
  have tx_1 : x_1.toInt = i.toInt + (1 : Int32).toInt := by rw [ex_1]; exact t_add ⟨by omega, by omega⟩
  refine va_sld hx hb hX hbl hbA hS (vp_in_iff.mpr ⟨by omega, by omega⟩) dL_law_404 ?_
  refine lv_topi (fun x_2 ex_2 => ?_)
  refine lv_aload_n hx hb dL_law_405 rfl (lv_at hl 3 rfl) ?_
  refine lv_iload_n hx hb dL_law_406 rfl (lv_at hl 0 rfl) ?_
  refine lv_iconst (v := 2) hx hb dL_law_407 (by decide) ?_
  refine lv_iadd hx hb dL_law_408 ?_
  refine lv_topi (fun x_3 ex_3 => ?_)
  have k_2 : (2 : Int32).toInt = 2 := by decide
  have tx_3 : x_3.toInt = i.toInt + (2 : Int32).toInt := by rw [ex_3]; exact t_add ⟨by omega, by omega⟩
  refine va_sld hx hb hX hbl hbA hS (vp_in_iff.mpr ⟨by omega, by omega⟩) dL_law_409 ?_
  refine lv_topi (fun x_4 ex_4 => ?_)
  refine yl_i (X := wl ad kv cy N v) (Y := wm ad2 cy v2) (w1 := fun (u : Nat → Nat → Int32) => wl ad kv cy N u) hP hD hS hA (va_runV (As := [.int x_2, .int x_4]) (rest := []) ⟨hx, hb, hml, hown, hts⟩ (g_X7_of l dC dI cy _ ad kv N hN v hv x_2 x_4) (cwV 2 hts gL_law_X7_of rfl rfl rfl hd_V_X7_of_2 ⟨Nat.le_of_ble_eq_true rfl, Nat.le_of_ble_eq_true rfl⟩) (yl_preV hE hK hP hD (ci := 7) (q0 := 0) rfl (wl_at (by omega) (ce_0 (by decide)))) rfl rfl hl.1 rfl (lv_room (Nat.le_of_ble_eq_true rfl)) dL_law_410 hcs) (fun r_5 c_5 H locs hw_5 hP hD hS => ?_)
  have hP : va_P (dC, dI) vwCl (wm ad2 cy v2 ++ wl ad kv cy N c_5) H := hP
  have hD : va_D (fun q : Nat => s.heap.size ≤ q) (wm ad2 cy v2 ++ wl ad kv cy N c_5) := hD
  obtain ⟨hv, hf_c_5⟩ := hw_5
  refine lv_pop hx hb dL_law_413 rfl ?_
  refine lv_aload_n hx hb dL_law_414 rfl (lv_at hl 1 rfl) ?_
  refine lv_aload_n hx hb dL_law_415 rfl (lv_at hl 3 rfl) ?_
  refine lv_iload_n hx hb dL_law_416 rfl (lv_at hl 0 rfl) ?_
  refine lv_iconst (v := 1) hx hb dL_law_417 (by decide) ?_
  refine lv_iadd hx hb dL_law_418 ?_
  refine lv_topi (fun x_6 ex_6 => ?_)
  obtain rfl : x_1 = x_6 := ex_1.trans ex_6.symm
  refine va_sld hx hb hX hbl hbA hS (vp_in_iff.mpr ⟨by omega, by omega⟩) dL_law_419 ?_
  refine lv_topi (fun x_7 ex_7 => ?_)
  obtain rfl : x_2 = x_7 := ex_2.trans ex_7.symm
  refine lv_aload_n hx hb dL_law_420 rfl (lv_at hl 3 rfl) ?_
  refine lv_iload_n hx hb dL_law_421 rfl (lv_at hl 0 rfl) ?_
  refine lv_iconst (v := 2) hx hb dL_law_422 (by decide) ?_
  refine lv_iadd hx hb dL_law_423 ?_
  refine lv_topi (fun x_8 ex_8 => ?_)
  obtain rfl : x_3 = x_8 := ex_3.trans ex_8.symm
  refine va_sld hx hb hX hbl hbA hS (vp_in_iff.mpr ⟨by omega, by omega⟩) dL_law_424 ?_
  refine lv_topi (fun x_9 ex_9 => ?_)
  obtain rfl : x_4 = x_9 := ex_4.trans ex_9.symm
  refine yl_i (X := wm ad2 cy v2) (Y := wl ad kv cy N c_5) (w1 := fun (u : Nat → Nat → Int32) => wm ad2 cy u) hP hD hS hA (va_runV (As := [.int x_2, .int x_4]) (rest := []) ⟨hx, hb, hml, hown, hts⟩ (q_X8_of l dC dI cy _ ad2 v2 hq x_2 x_4) (cwV 2 hts gL_law_X8_of rfl rfl rfl hd_V_X8_of_2 ⟨Nat.le_of_ble_eq_true rfl, Nat.le_of_ble_eq_true rfl⟩) (yl_preV hE hK hP hD (ci := 8) (q0 := 0) rfl (wm_at (by decide) rc_0)) rfl rfl hl.1 rfl (lv_room (Nat.le_of_ble_eq_true rfl)) dL_law_425 hcs) (fun r_10 m_10 H locs hw_10 hP hD hS => ?_)
  have hP : va_P (dC, dI) vwCl (wl ad kv cy N c_5 ++ wm ad2 cy m_10) H := hP
  have hD : va_D (fun q : Nat => s.heap.size ≤ q) (wl ad kv cy N c_5 ++ wm ad2 cy m_10) := hD
  obtain ⟨hq, hf_m_10⟩ := hw_10
  have hJ := hJ.mv hf_c_5 hf_m_10
  refine lv_pop hx hb dL_law_428 rfl ?_
  refine lv_goto (tgt := 1060) hx hb dL_law_429 (by decide) ?_
  exact kk c_5 m_10 _ _ ls hv hq hJ hP hD hS hl

set_option maxHeartbeats 4000000 in
set_option maxRecDepth 100000 in
/-- the case of offer -/
theorem lc_8 {p : Program} {l : Launch} {e : Env} {s : State} {m : MethodId} {below : List Frame} {meth : Method} {c : Code} {dC : Nat → ClassId} {dI : Nat → Nat → Nat} {cy : Nat → ClassId} {b L : Nat} {xs : Nat → Int32} (C0 : lw_At p s m meth c b L xs) {t1 t2 : Nat} (hSt : ex_St t1 t2 (fun q : Nat => s.heap.size ≤ q) s) (hE : ex_K s) (hK : va_K (dC, dI) vwCl (ty_L cy) s) (hL : L ≤ 3584) {ad ad2 : Nat → Nat} {kv : Value} {N : Nat} (hN : 119 ≤ N) {v v2 : Nat → Nat → Int32} (hv : Iv v) (hq : Ir v2) {n : Int32} (hJ : RR n v v2) {i : Int32} (hi : 0 ≤ i.toInt ∧ i.toInt + 7 ≤ (L : Int)) {cells slots : Nat} (hcs : cells ≤ room_1.cells ∧ slots ≤ room_1.slots) {H : Heap} {locs : List Loc} (hP : va_P (dC, dI) vwCl (wl ad kv cy N v ++ wm ad2 cy v2) H) (hD : va_D (fun q : Nat => s.heap.size ≤ q) (wl ad kv cy N v ++ wm ad2 cy v2)) (hS : va_S (fun q : Nat => s.heap.size ≤ q) s.heap H locs) (ls : Array Slot) (hl : lv_has ls 4 [(3, .int i), (2, .ref (ad2 0)), (1, .ref (ad 0)), (0, .ref b)]) (kk : ∀ (v1 v3 : Nat → Nat → Int32) (H1 : Heap) (locs1 : List Loc) (ls1 : Array Slot), Iv v1 → Ir v3 → RR n v1 v3 → va_P (dC, dI) vwCl (wl ad kv cy N v1 ++ wm ad2 cy v3) H1 → va_D (fun q : Nat => s.heap.size ≤ q) (wl ad kv cy N v1 ++ wm ad2 cy v3) → va_S (fun q : Nat => s.heap.size ≤ q) s.heap H1 locs1 → lv_has ls1 4 [(3, .int i), (2, .ref (ad2 0)), (1, .ref (ad 0)), (0, .ref b)] → W p l e room_1 s m #[Value.ref b] below meth c H1 locs1 cells slots (lw_Z below #[Value.ref b] s) (F0 m 1060 ls1 [])) : W p l e room_1 s m #[Value.ref b] below meth c H locs cells slots (lw_Z below #[Value.ref b] s) (F0 m 432 ls []) := by
  obtain ⟨hx, hb, hr, hml, hown, hts0, hX, hbl, hlocks, hgv⟩ := id C0
  have hts : ∀ w ∈ wsL_law, w.before #[Value.ref b] s = true := fun w h => hts0 w (wsL_law_in w h)
  have hown : s.vm.findClass RL = some m.cls := hown
  have hA : ∀ q : Nat, s.heap.size ≤ q → (fun q : Nat => s.heap.size ≤ q) q := fun _ h => h
  have hbA : ¬ (fun q : Nat => s.heap.size ≤ q) b := Nat.not_le.mpr hbl
  refine lv_aload_n hx hb dL_law_432 rfl (lv_at hl 2 rfl) ?_
  refine lv_aload_n hx hb dL_law_433 rfl (lv_at hl 3 rfl) ?_
  refine lv_iload_n hx hb dL_law_434 rfl (lv_at hl 0 rfl) ?_
  refine lv_iconst (v := 1) hx hb dL_law_435 (by decide) ?_
  refine lv_iadd hx hb dL_law_436 ?_
  refine lv_topi (fun x_1 ex_1 => ?_)
  have k_1 : (1 : Int32).toInt = 1 := by decide
  have tx_1 : x_1.toInt = i.toInt + (1 : Int32).toInt := by rw [ex_1]; exact t_add ⟨by omega, by omega⟩
  refine va_sld hx hb hX hbl hbA hS (vp_in_iff.mpr ⟨by omega, by omega⟩) dL_law_437 ?_
  refine lv_topi (fun x_2 ex_2 => ?_)
  refine lv_aload_n hx hb dL_law_438 rfl (lv_at hl 3 rfl) ?_
  refine lv_iload_n hx hb dL_law_439 rfl (lv_at hl 0 rfl) ?_
  refine lv_iconst (v := 2) hx hb dL_law_440 (by decide) ?_
  refine lv_iadd hx hb dL_law_441 ?_
  refine lv_topi (fun x_3 ex_3 => ?_)
  have k_2 : (2 : Int32).toInt = 2 := by decide
  have tx_3 : x_3.toInt = i.toInt + (2 : Int32).toInt := by rw [ex_3]; exact t_add ⟨by omega, by omega⟩
  refine va_sld hx hb hX hbl hbA hS (vp_in_iff.mpr ⟨by omega, by omega⟩) dL_law_442 ?_
  refine lv_topi (fun x_4 ex_4 => ?_)
  refine lv_aload_n hx hb dL_law_443 rfl (lv_at hl 3 rfl) ?_
  refine lv_iload_n hx hb dL_law_444 rfl (lv_at hl 0 rfl) ?_
  refine lv_iconst (v := 3) hx hb dL_law_445 (by decide) ?_
  refine lv_iadd hx hb dL_law_446 ?_
  refine lv_topi (fun x_5 ex_5 => ?_)
  have k_3 : (3 : Int32).toInt = 3 := by decide
  have tx_5 : x_5.toInt = i.toInt + (3 : Int32).toInt := by rw [ex_5]; exact t_add ⟨by omega, by omega⟩
  refine va_sld hx hb hX hbl hbA hS (vp_in_iff.mpr ⟨by omega, by omega⟩) dL_law_447 ?_
  refine lv_topi (fun x_6 ex_6 => ?_)
  rcases side3 x_4 with rfl | rfl | hs
  · have k_0 : (0 : Int32).toInt = 0 := by decide
    have hv0 := hv
    refine yl_i (X := wl ad kv cy N v) (Y := wm ad2 cy v2) (w1 := fun (u : Nat → Nat → Int32) => wl ad kv cy N u) hP hD hS hA (va_runV (As := [.int x_2, .int 0, .int x_6]) (rest := []) ⟨hx, hb, hml, hown, hts⟩ (e_X7_offer_0 l dC dI cy _ ad kv N hN v hv x_2 x_6) (cwV 3 hts gL_law_X7_offer rfl rfl rfl hd_V_X7_offer_3 ⟨Nat.le_of_ble_eq_true rfl, Nat.le_of_ble_eq_true rfl⟩) (yl_preV hE hK hP hD (ci := 7) (q0 := 0) rfl (wl_at (by omega) (ce_0 (by decide)))) rfl rfl hl.1 rfl (lv_room (Nat.le_of_ble_eq_true rfl)) dL_law_448 hcs) (fun r_7 c_7 H locs hw_7 hP hD hS => ?_)
    have hP : va_P (dC, dI) vwCl (wm ad2 cy v2 ++ wl ad kv cy N c_7) H := hP
    have hD : va_D (fun q : Nat => s.heap.size ≤ q) (wm ad2 cy v2 ++ wl ad kv cy N c_7) := hD
    obtain ⟨hv, hpc⟩ := hw_7
    refine lv_pop hx hb dL_law_451 rfl ?_
    refine lv_aload_n hx hb dL_law_452 rfl (lv_at hl 1 rfl) ?_
    refine lv_aload_n hx hb dL_law_453 rfl (lv_at hl 3 rfl) ?_
    refine lv_iload_n hx hb dL_law_454 rfl (lv_at hl 0 rfl) ?_
    refine lv_iconst (v := 1) hx hb dL_law_455 (by decide) ?_
    refine lv_iadd hx hb dL_law_456 ?_
    refine lv_topi (fun x_8 ex_8 => ?_)
    obtain rfl : x_1 = x_8 := ex_1.trans ex_8.symm
    refine va_sld hx hb hX hbl hbA hS (vp_in_iff.mpr ⟨by omega, by omega⟩) dL_law_457 ?_
    refine lv_topi (fun x_9 ex_9 => ?_)
    obtain rfl : x_2 = x_9 := ex_2.trans ex_9.symm
    refine lv_aload_n hx hb dL_law_458 rfl (lv_at hl 3 rfl) ?_
    refine lv_iload_n hx hb dL_law_459 rfl (lv_at hl 0 rfl) ?_
    refine lv_iconst (v := 2) hx hb dL_law_460 (by decide) ?_
    refine lv_iadd hx hb dL_law_461 ?_
    refine lv_topi (fun x_10 ex_10 => ?_)
    obtain rfl : x_3 = x_10 := ex_3.trans ex_10.symm
    refine va_sld hx hb hX hbl hbA hS (vp_in_iff.mpr ⟨by omega, by omega⟩) dL_law_462 ?_
    refine lv_topi (fun x_11 ex_11 => ?_)
    obtain rfl : x_11 = 0 := ex_11.trans ex_4.symm
    refine lv_aload_n hx hb dL_law_463 rfl (lv_at hl 3 rfl) ?_
    refine lv_iload_n hx hb dL_law_464 rfl (lv_at hl 0 rfl) ?_
    refine lv_iconst (v := 3) hx hb dL_law_465 (by decide) ?_
    refine lv_iadd hx hb dL_law_466 ?_
    refine lv_topi (fun x_12 ex_12 => ?_)
    obtain rfl : x_5 = x_12 := ex_5.trans ex_12.symm
    refine va_sld hx hb hX hbl hbA hS (vp_in_iff.mpr ⟨by omega, by omega⟩) dL_law_467 ?_
    refine lv_topi (fun x_13 ex_13 => ?_)
    obtain rfl : x_6 = x_13 := ex_6.trans ex_13.symm
    have hq0 := hq
    refine yl_i (X := wm ad2 cy v2) (Y := wl ad kv cy N c_7) (w1 := fun (u : Nat → Nat → Int32) => wm ad2 cy u) hP hD hS hA (va_runV (As := [.int x_2, .int 0, .int x_6]) (rest := []) ⟨hx, hb, hml, hown, hts⟩ (e_X8_offer_0 l dC dI cy _ ad2 v2 hq x_2 x_6) (cwV 3 hts gL_law_X8_offer rfl rfl rfl hd_V_X8_offer_3 ⟨Nat.le_of_ble_eq_true rfl, Nat.le_of_ble_eq_true rfl⟩) (yl_preV hE hK hP hD (ci := 8) (q0 := 0) rfl (wm_at (by decide) rc_0)) rfl rfl hl.1 rfl (lv_room (Nat.le_of_ble_eq_true rfl)) dL_law_468 hcs) (fun r_14 m_14 H locs hw_14 hP hD hS => ?_)
    have hP : va_P (dC, dI) vwCl (wl ad kv cy N c_7 ++ wm ad2 cy m_14) H := hP
    have hD : va_D (fun q : Nat => s.heap.size ≤ q) (wl ad kv cy N c_7 ++ wm ad2 cy m_14) := hD
    obtain ⟨hq, hpm⟩ := hw_14
    obtain ⟨hrr, hJ⟩ := T_offer_0 hv0 hq0 hJ hpc hpm
    subst hrr
    refine lv_pop hx hb dL_law_471 rfl ?_
    refine lv_goto (tgt := 1060) hx hb dL_law_472 (by decide) ?_
    exact kk c_7 m_14 _ _ ls hv hq hJ hP hD hS hl
  · have hv0 := hv
    refine yl_i (X := wl ad kv cy N v) (Y := wm ad2 cy v2) (w1 := fun (u : Nat → Nat → Int32) => wl ad kv cy N u) hP hD hS hA (va_runV (As := [.int x_2, .int 1, .int x_6]) (rest := []) ⟨hx, hb, hml, hown, hts⟩ (e_X7_offer_1 l dC dI cy _ ad kv N hN v hv x_2 x_6) (cwV 3 hts gL_law_X7_offer rfl rfl rfl hd_V_X7_offer_3 ⟨Nat.le_of_ble_eq_true rfl, Nat.le_of_ble_eq_true rfl⟩) (yl_preV hE hK hP hD (ci := 7) (q0 := 0) rfl (wl_at (by omega) (ce_0 (by decide)))) rfl rfl hl.1 rfl (lv_room (Nat.le_of_ble_eq_true rfl)) dL_law_448 hcs) (fun r_7 c_7 H locs hw_7 hP hD hS => ?_)
    have hP : va_P (dC, dI) vwCl (wm ad2 cy v2 ++ wl ad kv cy N c_7) H := hP
    have hD : va_D (fun q : Nat => s.heap.size ≤ q) (wm ad2 cy v2 ++ wl ad kv cy N c_7) := hD
    obtain ⟨hv, hpc⟩ := hw_7
    refine lv_pop hx hb dL_law_451 rfl ?_
    refine lv_aload_n hx hb dL_law_452 rfl (lv_at hl 1 rfl) ?_
    refine lv_aload_n hx hb dL_law_453 rfl (lv_at hl 3 rfl) ?_
    refine lv_iload_n hx hb dL_law_454 rfl (lv_at hl 0 rfl) ?_
    refine lv_iconst (v := 1) hx hb dL_law_455 (by decide) ?_
    refine lv_iadd hx hb dL_law_456 ?_
    refine lv_topi (fun x_8 ex_8 => ?_)
    obtain rfl : x_1 = x_8 := ex_1.trans ex_8.symm
    refine va_sld hx hb hX hbl hbA hS (vp_in_iff.mpr ⟨by omega, by omega⟩) dL_law_457 ?_
    refine lv_topi (fun x_9 ex_9 => ?_)
    obtain rfl : x_2 = x_9 := ex_2.trans ex_9.symm
    refine lv_aload_n hx hb dL_law_458 rfl (lv_at hl 3 rfl) ?_
    refine lv_iload_n hx hb dL_law_459 rfl (lv_at hl 0 rfl) ?_
    refine lv_iconst (v := 2) hx hb dL_law_460 (by decide) ?_
    refine lv_iadd hx hb dL_law_461 ?_
    refine lv_topi (fun x_10 ex_10 => ?_)
    obtain rfl : x_3 = x_10 := ex_3.trans ex_10.symm
    refine va_sld hx hb hX hbl hbA hS (vp_in_iff.mpr ⟨by omega, by omega⟩) dL_law_462 ?_
    refine lv_topi (fun x_11 ex_11 => ?_)
    obtain rfl : x_11 = 1 := ex_11.trans ex_4.symm
    refine lv_aload_n hx hb dL_law_463 rfl (lv_at hl 3 rfl) ?_
    refine lv_iload_n hx hb dL_law_464 rfl (lv_at hl 0 rfl) ?_
    refine lv_iconst (v := 3) hx hb dL_law_465 (by decide) ?_
    refine lv_iadd hx hb dL_law_466 ?_
    refine lv_topi (fun x_12 ex_12 => ?_)
    obtain rfl : x_5 = x_12 := ex_5.trans ex_12.symm
    refine va_sld hx hb hX hbl hbA hS (vp_in_iff.mpr ⟨by omega, by omega⟩) dL_law_467 ?_
    refine lv_topi (fun x_13 ex_13 => ?_)
    obtain rfl : x_6 = x_13 := ex_6.trans ex_13.symm
    have hq0 := hq
    refine yl_i (X := wm ad2 cy v2) (Y := wl ad kv cy N c_7) (w1 := fun (u : Nat → Nat → Int32) => wm ad2 cy u) hP hD hS hA (va_runV (As := [.int x_2, .int 1, .int x_6]) (rest := []) ⟨hx, hb, hml, hown, hts⟩ (e_X8_offer_1 l dC dI cy _ ad2 v2 hq x_2 x_6) (cwV 3 hts gL_law_X8_offer rfl rfl rfl hd_V_X8_offer_3 ⟨Nat.le_of_ble_eq_true rfl, Nat.le_of_ble_eq_true rfl⟩) (yl_preV hE hK hP hD (ci := 8) (q0 := 0) rfl (wm_at (by decide) rc_0)) rfl rfl hl.1 rfl (lv_room (Nat.le_of_ble_eq_true rfl)) dL_law_468 hcs) (fun r_14 m_14 H locs hw_14 hP hD hS => ?_)
    have hP : va_P (dC, dI) vwCl (wl ad kv cy N c_7 ++ wm ad2 cy m_14) H := hP
    have hD : va_D (fun q : Nat => s.heap.size ≤ q) (wl ad kv cy N c_7 ++ wm ad2 cy m_14) := hD
    obtain ⟨hq, hpm⟩ := hw_14
    obtain ⟨hrr, hJ⟩ := T_offer_1 hv0 hq0 hJ hpc hpm
    subst hrr
    refine lv_pop hx hb dL_law_471 rfl ?_
    refine lv_goto (tgt := 1060) hx hb dL_law_472 (by decide) ?_
    exact kk c_7 m_14 _ _ ls hv hq hJ hP hD hS hl
  · have hv0 := hv
    refine yl_i (X := wl ad kv cy N v) (Y := wm ad2 cy v2) (w1 := fun (u : Nat → Nat → Int32) => wl ad kv cy N u) hP hD hS hA (va_runV (As := [.int x_2, .int x_4, .int x_6]) (rest := []) ⟨hx, hb, hml, hown, hts⟩ (e_X7_offer_o l dC dI cy _ ad kv N hN v hv x_2 x_4 x_6 hs) (cwV 3 hts gL_law_X7_offer rfl rfl rfl hd_V_X7_offer_3 ⟨Nat.le_of_ble_eq_true rfl, Nat.le_of_ble_eq_true rfl⟩) (yl_preV hE hK hP hD (ci := 7) (q0 := 0) rfl (wl_at (by omega) (ce_0 (by decide)))) rfl rfl hl.1 rfl (lv_room (Nat.le_of_ble_eq_true rfl)) dL_law_448 hcs) (fun r_7 c_7 H locs hw_7 hP hD hS => ?_)
    have hP : va_P (dC, dI) vwCl (wm ad2 cy v2 ++ wl ad kv cy N c_7) H := hP
    have hD : va_D (fun q : Nat => s.heap.size ≤ q) (wm ad2 cy v2 ++ wl ad kv cy N c_7) := hD
    obtain ⟨hv, hpc⟩ := hw_7
    refine lv_pop hx hb dL_law_451 rfl ?_
    refine lv_aload_n hx hb dL_law_452 rfl (lv_at hl 1 rfl) ?_
    refine lv_aload_n hx hb dL_law_453 rfl (lv_at hl 3 rfl) ?_
    refine lv_iload_n hx hb dL_law_454 rfl (lv_at hl 0 rfl) ?_
    refine lv_iconst (v := 1) hx hb dL_law_455 (by decide) ?_
    refine lv_iadd hx hb dL_law_456 ?_
    refine lv_topi (fun x_8 ex_8 => ?_)
    obtain rfl : x_1 = x_8 := ex_1.trans ex_8.symm
    refine va_sld hx hb hX hbl hbA hS (vp_in_iff.mpr ⟨by omega, by omega⟩) dL_law_457 ?_
    refine lv_topi (fun x_9 ex_9 => ?_)
    obtain rfl : x_2 = x_9 := ex_2.trans ex_9.symm
    refine lv_aload_n hx hb dL_law_458 rfl (lv_at hl 3 rfl) ?_
    refine lv_iload_n hx hb dL_law_459 rfl (lv_at hl 0 rfl) ?_
    refine lv_iconst (v := 2) hx hb dL_law_460 (by decide) ?_
    refine lv_iadd hx hb dL_law_461 ?_
    refine lv_topi (fun x_10 ex_10 => ?_)
    obtain rfl : x_3 = x_10 := ex_3.trans ex_10.symm
    refine va_sld hx hb hX hbl hbA hS (vp_in_iff.mpr ⟨by omega, by omega⟩) dL_law_462 ?_
    refine lv_topi (fun x_11 ex_11 => ?_)
    obtain rfl : x_4 = x_11 := ex_4.trans ex_11.symm
    refine lv_aload_n hx hb dL_law_463 rfl (lv_at hl 3 rfl) ?_
    refine lv_iload_n hx hb dL_law_464 rfl (lv_at hl 0 rfl) ?_
    refine lv_iconst (v := 3) hx hb dL_law_465 (by decide) ?_
    refine lv_iadd hx hb dL_law_466 ?_
    refine lv_topi (fun x_12 ex_12 => ?_)
    obtain rfl : x_5 = x_12 := ex_5.trans ex_12.symm
    refine va_sld hx hb hX hbl hbA hS (vp_in_iff.mpr ⟨by omega, by omega⟩) dL_law_467 ?_
    refine lv_topi (fun x_13 ex_13 => ?_)
    obtain rfl : x_6 = x_13 := ex_6.trans ex_13.symm
    have hq0 := hq
    refine yl_i (X := wm ad2 cy v2) (Y := wl ad kv cy N c_7) (w1 := fun (u : Nat → Nat → Int32) => wm ad2 cy u) hP hD hS hA (va_runV (As := [.int x_2, .int x_4, .int x_6]) (rest := []) ⟨hx, hb, hml, hown, hts⟩ (e_X8_offer_o l dC dI cy _ ad2 v2 hq x_2 x_4 x_6 hs) (cwV 3 hts gL_law_X8_offer rfl rfl rfl hd_V_X8_offer_3 ⟨Nat.le_of_ble_eq_true rfl, Nat.le_of_ble_eq_true rfl⟩) (yl_preV hE hK hP hD (ci := 8) (q0 := 0) rfl (wm_at (by decide) rc_0)) rfl rfl hl.1 rfl (lv_room (Nat.le_of_ble_eq_true rfl)) dL_law_468 hcs) (fun r_14 m_14 H locs hw_14 hP hD hS => ?_)
    have hP : va_P (dC, dI) vwCl (wl ad kv cy N c_7 ++ wm ad2 cy m_14) H := hP
    have hD : va_D (fun q : Nat => s.heap.size ≤ q) (wl ad kv cy N c_7 ++ wm ad2 cy m_14) := hD
    obtain ⟨hq, hpm⟩ := hw_14
    obtain ⟨hr1, hc1⟩ := hpc
    obtain ⟨hr2, hc2⟩ := hpm
    subst hr1
    subst hr2
    rw [← hc1, ← hc2] at hJ
    refine lv_pop hx hb dL_law_471 rfl ?_
    refine lv_goto (tgt := 1060) hx hb dL_law_472 (by decide) ?_
    exact kk c_7 m_14 _ _ ls hv hq hJ hP hD hS hl

set_option maxHeartbeats 4000000 in
set_option maxRecDepth 100000 in
/-- the case of put -/
theorem lc_9 {p : Program} {l : Launch} {e : Env} {s : State} {m : MethodId} {below : List Frame} {meth : Method} {c : Code} {dC : Nat → ClassId} {dI : Nat → Nat → Nat} {cy : Nat → ClassId} {b L : Nat} {xs : Nat → Int32} (C0 : lw_At p s m meth c b L xs) {t1 t2 : Nat} (hSt : ex_St t1 t2 (fun q : Nat => s.heap.size ≤ q) s) (hE : ex_K s) (hK : va_K (dC, dI) vwCl (ty_L cy) s) (hL : L ≤ 3584) {ad ad2 : Nat → Nat} {kv : Value} {N : Nat} (hN : 119 ≤ N) {v v2 : Nat → Nat → Int32} (hv : Iv v) (hq : Ir v2) {n : Int32} (hJ : RR n v v2) {i : Int32} (hi : 0 ≤ i.toInt ∧ i.toInt + 7 ≤ (L : Int)) {cells slots : Nat} (hcs : cells ≤ room_1.cells ∧ slots ≤ room_1.slots) {H : Heap} {locs : List Loc} (hP : va_P (dC, dI) vwCl (wl ad kv cy N v ++ wm ad2 cy v2) H) (hD : va_D (fun q : Nat => s.heap.size ≤ q) (wl ad kv cy N v ++ wm ad2 cy v2)) (hS : va_S (fun q : Nat => s.heap.size ≤ q) s.heap H locs) (ls : Array Slot) (hl : lv_has ls 4 [(3, .int i), (2, .ref (ad2 0)), (1, .ref (ad 0)), (0, .ref b)]) (kk : ∀ (v1 v3 : Nat → Nat → Int32) (H1 : Heap) (locs1 : List Loc) (ls1 : Array Slot), Iv v1 → Ir v3 → RR n v1 v3 → va_P (dC, dI) vwCl (wl ad kv cy N v1 ++ wm ad2 cy v3) H1 → va_D (fun q : Nat => s.heap.size ≤ q) (wl ad kv cy N v1 ++ wm ad2 cy v3) → va_S (fun q : Nat => s.heap.size ≤ q) s.heap H1 locs1 → lv_has ls1 4 [(3, .int i), (2, .ref (ad2 0)), (1, .ref (ad 0)), (0, .ref b)] → W p l e room_1 s m #[Value.ref b] below meth c H1 locs1 cells slots (lw_Z below #[Value.ref b] s) (F0 m 1060 ls1 [])) : W p l e room_1 s m #[Value.ref b] below meth c H locs cells slots (lw_Z below #[Value.ref b] s) (F0 m 475 ls []) := by
  obtain ⟨hx, hb, hr, hml, hown, hts0, hX, hbl, hlocks, hgv⟩ := id C0
  have hts : ∀ w ∈ wsL_law, w.before #[Value.ref b] s = true := fun w h => hts0 w (wsL_law_in w h)
  have hown : s.vm.findClass RL = some m.cls := hown
  have hA : ∀ q : Nat, s.heap.size ≤ q → (fun q : Nat => s.heap.size ≤ q) q := fun _ h => h
  have hbA : ¬ (fun q : Nat => s.heap.size ≤ q) b := Nat.not_le.mpr hbl
  refine lv_aload_n hx hb dL_law_475 rfl (lv_at hl 2 rfl) ?_
  refine lv_aload_n hx hb dL_law_476 rfl (lv_at hl 3 rfl) ?_
  refine lv_iload_n hx hb dL_law_477 rfl (lv_at hl 0 rfl) ?_
  refine lv_iconst (v := 1) hx hb dL_law_478 (by decide) ?_
  refine lv_iadd hx hb dL_law_479 ?_
  refine lv_topi (fun x_1 ex_1 => ?_)
  have k_1 : (1 : Int32).toInt = 1 := by decide
  have tx_1 : x_1.toInt = i.toInt + (1 : Int32).toInt := by rw [ex_1]; exact t_add ⟨by omega, by omega⟩
  refine va_sld hx hb hX hbl hbA hS (vp_in_iff.mpr ⟨by omega, by omega⟩) dL_law_480 ?_
  refine lv_topi (fun x_2 ex_2 => ?_)
  refine lv_aload_n hx hb dL_law_481 rfl (lv_at hl 3 rfl) ?_
  refine lv_iload_n hx hb dL_law_482 rfl (lv_at hl 0 rfl) ?_
  refine lv_iconst (v := 2) hx hb dL_law_483 (by decide) ?_
  refine lv_iadd hx hb dL_law_484 ?_
  refine lv_topi (fun x_3 ex_3 => ?_)
  have k_2 : (2 : Int32).toInt = 2 := by decide
  have tx_3 : x_3.toInt = i.toInt + (2 : Int32).toInt := by rw [ex_3]; exact t_add ⟨by omega, by omega⟩
  refine va_sld hx hb hX hbl hbA hS (vp_in_iff.mpr ⟨by omega, by omega⟩) dL_law_485 ?_
  refine lv_topi (fun x_4 ex_4 => ?_)
  refine yl_i (X := wl ad kv cy N v) (Y := wm ad2 cy v2) (w1 := fun (u : Nat → Nat → Int32) => wl ad kv cy N u) hP hD hS hA (va_runV (As := [.int x_2, .int x_4]) (rest := []) ⟨hx, hb, hml, hown, hts⟩ (g_X7_put l dC dI cy _ ad kv N hN v hv x_2 x_4) (cwV 2 hts gL_law_X7_put rfl rfl rfl hd_V_X7_put_2 ⟨Nat.le_of_ble_eq_true rfl, Nat.le_of_ble_eq_true rfl⟩) (yl_preV hE hK hP hD (ci := 7) (q0 := 0) rfl (wl_at (by omega) (ce_0 (by decide)))) rfl rfl hl.1 rfl (lv_room (Nat.le_of_ble_eq_true rfl)) dL_law_486 hcs) (fun r_5 c_5 H locs hw_5 hP hD hS => ?_)
  have hP : va_P (dC, dI) vwCl (wm ad2 cy v2 ++ wl ad kv cy N c_5) H := hP
  have hD : va_D (fun q : Nat => s.heap.size ≤ q) (wm ad2 cy v2 ++ wl ad kv cy N c_5) := hD
  obtain ⟨hv, hf_c_5⟩ := hw_5
  refine lv_pop hx hb dL_law_489 rfl ?_
  refine lv_aload_n hx hb dL_law_490 rfl (lv_at hl 1 rfl) ?_
  refine lv_aload_n hx hb dL_law_491 rfl (lv_at hl 3 rfl) ?_
  refine lv_iload_n hx hb dL_law_492 rfl (lv_at hl 0 rfl) ?_
  refine lv_iconst (v := 1) hx hb dL_law_493 (by decide) ?_
  refine lv_iadd hx hb dL_law_494 ?_
  refine lv_topi (fun x_6 ex_6 => ?_)
  obtain rfl : x_1 = x_6 := ex_1.trans ex_6.symm
  refine va_sld hx hb hX hbl hbA hS (vp_in_iff.mpr ⟨by omega, by omega⟩) dL_law_495 ?_
  refine lv_topi (fun x_7 ex_7 => ?_)
  obtain rfl : x_2 = x_7 := ex_2.trans ex_7.symm
  refine lv_aload_n hx hb dL_law_496 rfl (lv_at hl 3 rfl) ?_
  refine lv_iload_n hx hb dL_law_497 rfl (lv_at hl 0 rfl) ?_
  refine lv_iconst (v := 2) hx hb dL_law_498 (by decide) ?_
  refine lv_iadd hx hb dL_law_499 ?_
  refine lv_topi (fun x_8 ex_8 => ?_)
  obtain rfl : x_3 = x_8 := ex_3.trans ex_8.symm
  refine va_sld hx hb hX hbl hbA hS (vp_in_iff.mpr ⟨by omega, by omega⟩) dL_law_500 ?_
  refine lv_topi (fun x_9 ex_9 => ?_)
  obtain rfl : x_4 = x_9 := ex_4.trans ex_9.symm
  refine yl_i (X := wm ad2 cy v2) (Y := wl ad kv cy N c_5) (w1 := fun (u : Nat → Nat → Int32) => wm ad2 cy u) hP hD hS hA (va_runV (As := [.int x_2, .int x_4]) (rest := []) ⟨hx, hb, hml, hown, hts⟩ (q_X8_put l dC dI cy _ ad2 v2 hq x_2 x_4) (cwV 2 hts gL_law_X8_put rfl rfl rfl hd_V_X8_put_2 ⟨Nat.le_of_ble_eq_true rfl, Nat.le_of_ble_eq_true rfl⟩) (yl_preV hE hK hP hD (ci := 8) (q0 := 0) rfl (wm_at (by decide) rc_0)) rfl rfl hl.1 rfl (lv_room (Nat.le_of_ble_eq_true rfl)) dL_law_501 hcs) (fun r_10 m_10 H locs hw_10 hP hD hS => ?_)
  have hP : va_P (dC, dI) vwCl (wl ad kv cy N c_5 ++ wm ad2 cy m_10) H := hP
  have hD : va_D (fun q : Nat => s.heap.size ≤ q) (wl ad kv cy N c_5 ++ wm ad2 cy m_10) := hD
  obtain ⟨hq, hf_m_10⟩ := hw_10
  have hJ := hJ.mv hf_c_5 (Fq_e hf_m_10)
  refine lv_pop hx hb dL_law_504 rfl ?_
  refine lv_goto (tgt := 1060) hx hb dL_law_505 (by decide) ?_
  exact kk c_5 m_10 _ _ ls hv hq hJ hP hD hS hl

set_option maxHeartbeats 4000000 in
set_option maxRecDepth 100000 in
/-- the case of learns -/
theorem lc_10 {p : Program} {l : Launch} {e : Env} {s : State} {m : MethodId} {below : List Frame} {meth : Method} {c : Code} {dC : Nat → ClassId} {dI : Nat → Nat → Nat} {cy : Nat → ClassId} {b L : Nat} {xs : Nat → Int32} (C0 : lw_At p s m meth c b L xs) {t1 t2 : Nat} (hSt : ex_St t1 t2 (fun q : Nat => s.heap.size ≤ q) s) (hE : ex_K s) (hK : va_K (dC, dI) vwCl (ty_L cy) s) (hL : L ≤ 3584) {ad ad2 : Nat → Nat} {kv : Value} {N : Nat} (hN : 119 ≤ N) {v v2 : Nat → Nat → Int32} (hv : Iv v) (hq : Ir v2) {n : Int32} (hJ : RR n v v2) {i : Int32} (hi : 0 ≤ i.toInt ∧ i.toInt + 7 ≤ (L : Int)) {cells slots : Nat} (hcs : cells ≤ room_1.cells ∧ slots ≤ room_1.slots) {H : Heap} {locs : List Loc} (hP : va_P (dC, dI) vwCl (wl ad kv cy N v ++ wm ad2 cy v2) H) (hD : va_D (fun q : Nat => s.heap.size ≤ q) (wl ad kv cy N v ++ wm ad2 cy v2)) (hS : va_S (fun q : Nat => s.heap.size ≤ q) s.heap H locs) (ls : Array Slot) (hl : lv_has ls 4 [(3, .int i), (2, .ref (ad2 0)), (1, .ref (ad 0)), (0, .ref b)]) (kk : ∀ (v1 v3 : Nat → Nat → Int32) (H1 : Heap) (locs1 : List Loc) (ls1 : Array Slot), Iv v1 → Ir v3 → RR n v1 v3 → va_P (dC, dI) vwCl (wl ad kv cy N v1 ++ wm ad2 cy v3) H1 → va_D (fun q : Nat => s.heap.size ≤ q) (wl ad kv cy N v1 ++ wm ad2 cy v3) → va_S (fun q : Nat => s.heap.size ≤ q) s.heap H1 locs1 → lv_has ls1 4 [(3, .int i), (2, .ref (ad2 0)), (1, .ref (ad 0)), (0, .ref b)] → W p l e room_1 s m #[Value.ref b] below meth c H1 locs1 cells slots (lw_Z below #[Value.ref b] s) (F0 m 1060 ls1 [])) : W p l e room_1 s m #[Value.ref b] below meth c H locs cells slots (lw_Z below #[Value.ref b] s) (F0 m 508 ls []) := by
  obtain ⟨hx, hb, hr, hml, hown, hts0, hX, hbl, hlocks, hgv⟩ := id C0
  have hts : ∀ w ∈ wsL_law, w.before #[Value.ref b] s = true := fun w h => hts0 w (wsL_law_in w h)
  have hown : s.vm.findClass RL = some m.cls := hown
  have hA : ∀ q : Nat, s.heap.size ≤ q → (fun q : Nat => s.heap.size ≤ q) q := fun _ h => h
  have hbA : ¬ (fun q : Nat => s.heap.size ≤ q) b := Nat.not_le.mpr hbl
  refine lv_aload_n hx hb dL_law_508 rfl (lv_at hl 2 rfl) ?_
  refine lv_aload_n hx hb dL_law_509 rfl (lv_at hl 3 rfl) ?_
  refine lv_iload_n hx hb dL_law_510 rfl (lv_at hl 0 rfl) ?_
  refine lv_iconst (v := 1) hx hb dL_law_511 (by decide) ?_
  refine lv_iadd hx hb dL_law_512 ?_
  refine lv_topi (fun x_1 ex_1 => ?_)
  have k_1 : (1 : Int32).toInt = 1 := by decide
  have tx_1 : x_1.toInt = i.toInt + (1 : Int32).toInt := by rw [ex_1]; exact t_add ⟨by omega, by omega⟩
  refine va_sld hx hb hX hbl hbA hS (vp_in_iff.mpr ⟨by omega, by omega⟩) dL_law_513 ?_
  refine lv_topi (fun x_2 ex_2 => ?_)
  refine lv_aload_n hx hb dL_law_514 rfl (lv_at hl 3 rfl) ?_
  refine lv_iload_n hx hb dL_law_515 rfl (lv_at hl 0 rfl) ?_
  refine lv_iconst (v := 2) hx hb dL_law_516 (by decide) ?_
  refine lv_iadd hx hb dL_law_517 ?_
  refine lv_topi (fun x_3 ex_3 => ?_)
  have k_2 : (2 : Int32).toInt = 2 := by decide
  have tx_3 : x_3.toInt = i.toInt + (2 : Int32).toInt := by rw [ex_3]; exact t_add ⟨by omega, by omega⟩
  refine va_sld hx hb hX hbl hbA hS (vp_in_iff.mpr ⟨by omega, by omega⟩) dL_law_518 ?_
  refine lv_topi (fun x_4 ex_4 => ?_)
  refine lv_aload_n hx hb dL_law_519 rfl (lv_at hl 3 rfl) ?_
  refine lv_iload_n hx hb dL_law_520 rfl (lv_at hl 0 rfl) ?_
  refine lv_iconst (v := 3) hx hb dL_law_521 (by decide) ?_
  refine lv_iadd hx hb dL_law_522 ?_
  refine lv_topi (fun x_5 ex_5 => ?_)
  have k_3 : (3 : Int32).toInt = 3 := by decide
  have tx_5 : x_5.toInt = i.toInt + (3 : Int32).toInt := by rw [ex_5]; exact t_add ⟨by omega, by omega⟩
  refine va_sld hx hb hX hbl hbA hS (vp_in_iff.mpr ⟨by omega, by omega⟩) dL_law_523 ?_
  refine lv_topi (fun x_6 ex_6 => ?_)
  refine lv_aload_n hx hb dL_law_524 rfl (lv_at hl 3 rfl) ?_
  refine lv_iload_n hx hb dL_law_525 rfl (lv_at hl 0 rfl) ?_
  refine lv_iconst (v := 4) hx hb dL_law_526 (by decide) ?_
  refine lv_iadd hx hb dL_law_527 ?_
  refine lv_topi (fun x_7 ex_7 => ?_)
  have k_4 : (4 : Int32).toInt = 4 := by decide
  have tx_7 : x_7.toInt = i.toInt + (4 : Int32).toInt := by rw [ex_7]; exact t_add ⟨by omega, by omega⟩
  refine va_sld hx hb hX hbl hbA hS (vp_in_iff.mpr ⟨by omega, by omega⟩) dL_law_528 ?_
  refine lv_topi (fun x_8 ex_8 => ?_)
  have k_0 : (0 : Int32).toInt = 0 := by decide
  refine lv_if_eq (tgt := 536) hx hb dL_law_529 (by decide) (fun c_9 => ?_) (fun c_9 => ?_)
  · have tc_9 : x_8.toInt = (0 : Int32).toInt := by rw [c_9]
    refine lv_iconst (v := 0) hx hb dL_law_536 (by decide) ?_
    refine yl_i (X := wl ad kv cy N v) (Y := wm ad2 cy v2) (w1 := fun (u : Nat → Nat → Int32) => wl ad kv cy N u) hP hD hS hA (va_runV (As := [.int x_2, .int x_4, .int x_6, .int 0]) (rest := []) ⟨hx, hb, hml, hown, hts⟩ (g_X7_learns l dC dI cy _ ad kv N hN v hv x_2 x_4 x_6 0) (cwV 4 hts gL_law_X7_learns rfl rfl rfl hd_V_X7_learns_4 ⟨Nat.le_of_ble_eq_true rfl, Nat.le_of_ble_eq_true rfl⟩) (yl_preV hE hK hP hD (ci := 7) (q0 := 0) rfl (wl_at (by omega) (ce_0 (by decide)))) rfl rfl hl.1 rfl (lv_room (Nat.le_of_ble_eq_true rfl)) dL_law_537 hcs) (fun r_10 c_10 H locs hw_10 hP hD hS => ?_)
    have hP : va_P (dC, dI) vwCl (wm ad2 cy v2 ++ wl ad kv cy N c_10) H := hP
    have hD : va_D (fun q : Nat => s.heap.size ≤ q) (wm ad2 cy v2 ++ wl ad kv cy N c_10) := hD
    obtain ⟨hv, hf_c_10⟩ := hw_10
    refine lv_pop hx hb dL_law_540 rfl ?_
    refine lv_aload_n hx hb dL_law_541 rfl (lv_at hl 1 rfl) ?_
    refine lv_aload_n hx hb dL_law_542 rfl (lv_at hl 3 rfl) ?_
    refine lv_iload_n hx hb dL_law_543 rfl (lv_at hl 0 rfl) ?_
    refine lv_iconst (v := 1) hx hb dL_law_544 (by decide) ?_
    refine lv_iadd hx hb dL_law_545 ?_
    refine lv_topi (fun x_11 ex_11 => ?_)
    obtain rfl : x_1 = x_11 := ex_1.trans ex_11.symm
    refine va_sld hx hb hX hbl hbA hS (vp_in_iff.mpr ⟨by omega, by omega⟩) dL_law_546 ?_
    refine lv_topi (fun x_12 ex_12 => ?_)
    obtain rfl : x_2 = x_12 := ex_2.trans ex_12.symm
    refine lv_aload_n hx hb dL_law_547 rfl (lv_at hl 3 rfl) ?_
    refine lv_iload_n hx hb dL_law_548 rfl (lv_at hl 0 rfl) ?_
    refine lv_iconst (v := 2) hx hb dL_law_549 (by decide) ?_
    refine lv_iadd hx hb dL_law_550 ?_
    refine lv_topi (fun x_13 ex_13 => ?_)
    obtain rfl : x_3 = x_13 := ex_3.trans ex_13.symm
    refine va_sld hx hb hX hbl hbA hS (vp_in_iff.mpr ⟨by omega, by omega⟩) dL_law_551 ?_
    refine lv_topi (fun x_14 ex_14 => ?_)
    obtain rfl : x_4 = x_14 := ex_4.trans ex_14.symm
    refine lv_aload_n hx hb dL_law_552 rfl (lv_at hl 3 rfl) ?_
    refine lv_iload_n hx hb dL_law_553 rfl (lv_at hl 0 rfl) ?_
    refine lv_iconst (v := 3) hx hb dL_law_554 (by decide) ?_
    refine lv_iadd hx hb dL_law_555 ?_
    refine lv_topi (fun x_15 ex_15 => ?_)
    obtain rfl : x_5 = x_15 := ex_5.trans ex_15.symm
    refine va_sld hx hb hX hbl hbA hS (vp_in_iff.mpr ⟨by omega, by omega⟩) dL_law_556 ?_
    refine lv_topi (fun x_16 ex_16 => ?_)
    obtain rfl : x_6 = x_16 := ex_6.trans ex_16.symm
    refine lv_aload_n hx hb dL_law_557 rfl (lv_at hl 3 rfl) ?_
    refine lv_iload_n hx hb dL_law_558 rfl (lv_at hl 0 rfl) ?_
    refine lv_iconst (v := 4) hx hb dL_law_559 (by decide) ?_
    refine lv_iadd hx hb dL_law_560 ?_
    refine lv_topi (fun x_17 ex_17 => ?_)
    obtain rfl : x_7 = x_17 := ex_7.trans ex_17.symm
    refine va_sld hx hb hX hbl hbA hS (vp_in_iff.mpr ⟨by omega, by omega⟩) dL_law_561 ?_
    refine lv_topi (fun x_18 ex_18 => ?_)
    obtain rfl : x_8 = x_18 := ex_8.trans ex_18.symm
    refine lv_if_eq (tgt := 569) hx hb dL_law_562 (by decide) (fun c_19 => ?_) (fun c_19 => ?_)
    · have tc_19 : x_8.toInt = (0 : Int32).toInt := by rw [c_19]
      refine lv_iconst (v := 0) hx hb dL_law_569 (by decide) ?_
      refine yl_i (X := wm ad2 cy v2) (Y := wl ad kv cy N c_10) (w1 := fun (u : Nat → Nat → Int32) => wm ad2 cy u) hP hD hS hA (va_runV (As := [.int x_2, .int x_4, .int x_6, .int 0]) (rest := []) ⟨hx, hb, hml, hown, hts⟩ (q_X8_learns l dC dI cy _ ad2 v2 hq x_2 x_4 x_6 0) (cwV 4 hts gL_law_X8_learns rfl rfl rfl hd_V_X8_learns_4 ⟨Nat.le_of_ble_eq_true rfl, Nat.le_of_ble_eq_true rfl⟩) (yl_preV hE hK hP hD (ci := 8) (q0 := 0) rfl (wm_at (by decide) rc_0)) rfl rfl hl.1 rfl (lv_room (Nat.le_of_ble_eq_true rfl)) dL_law_570 hcs) (fun r_20 m_20 H locs hw_20 hP hD hS => ?_)
      have hP : va_P (dC, dI) vwCl (wl ad kv cy N c_10 ++ wm ad2 cy m_20) H := hP
      have hD : va_D (fun q : Nat => s.heap.size ≤ q) (wl ad kv cy N c_10 ++ wm ad2 cy m_20) := hD
      obtain ⟨hq, hf_m_20⟩ := hw_20
      have hJ := hJ.mv hf_c_10 (Fq_e hf_m_20)
      refine lv_pop hx hb dL_law_573 rfl ?_
      refine lv_goto (tgt := 1060) hx hb dL_law_574 (by decide) ?_
      exact kk c_10 m_20 _ _ ls hv hq hJ hP hD hS hl
    · have tc_19 : x_8.toInt ≠ (0 : Int32).toInt := fun q => absurd (Int32.toInt_inj.mp q) c_19
      exfalso
      omega
  · have tc_9 : x_8.toInt ≠ (0 : Int32).toInt := fun q => absurd (Int32.toInt_inj.mp q) c_9
    refine lv_iconst (v := 1) hx hb dL_law_532 (by decide) ?_
    refine lv_goto (tgt := 537) hx hb dL_law_533 (by decide) ?_
    refine yl_i (X := wl ad kv cy N v) (Y := wm ad2 cy v2) (w1 := fun (u : Nat → Nat → Int32) => wl ad kv cy N u) hP hD hS hA (va_runV (As := [.int x_2, .int x_4, .int x_6, .int 1]) (rest := []) ⟨hx, hb, hml, hown, hts⟩ (g_X7_learns l dC dI cy _ ad kv N hN v hv x_2 x_4 x_6 1) (cwV 4 hts gL_law_X7_learns rfl rfl rfl hd_V_X7_learns_4 ⟨Nat.le_of_ble_eq_true rfl, Nat.le_of_ble_eq_true rfl⟩) (yl_preV hE hK hP hD (ci := 7) (q0 := 0) rfl (wl_at (by omega) (ce_0 (by decide)))) rfl rfl hl.1 rfl (lv_room (Nat.le_of_ble_eq_true rfl)) dL_law_537 hcs) (fun r_10 c_10 H locs hw_10 hP hD hS => ?_)
    have hP : va_P (dC, dI) vwCl (wm ad2 cy v2 ++ wl ad kv cy N c_10) H := hP
    have hD : va_D (fun q : Nat => s.heap.size ≤ q) (wm ad2 cy v2 ++ wl ad kv cy N c_10) := hD
    obtain ⟨hv, hf_c_10⟩ := hw_10
    refine lv_pop hx hb dL_law_540 rfl ?_
    refine lv_aload_n hx hb dL_law_541 rfl (lv_at hl 1 rfl) ?_
    refine lv_aload_n hx hb dL_law_542 rfl (lv_at hl 3 rfl) ?_
    refine lv_iload_n hx hb dL_law_543 rfl (lv_at hl 0 rfl) ?_
    refine lv_iconst (v := 1) hx hb dL_law_544 (by decide) ?_
    refine lv_iadd hx hb dL_law_545 ?_
    refine lv_topi (fun x_11 ex_11 => ?_)
    obtain rfl : x_1 = x_11 := ex_1.trans ex_11.symm
    refine va_sld hx hb hX hbl hbA hS (vp_in_iff.mpr ⟨by omega, by omega⟩) dL_law_546 ?_
    refine lv_topi (fun x_12 ex_12 => ?_)
    obtain rfl : x_2 = x_12 := ex_2.trans ex_12.symm
    refine lv_aload_n hx hb dL_law_547 rfl (lv_at hl 3 rfl) ?_
    refine lv_iload_n hx hb dL_law_548 rfl (lv_at hl 0 rfl) ?_
    refine lv_iconst (v := 2) hx hb dL_law_549 (by decide) ?_
    refine lv_iadd hx hb dL_law_550 ?_
    refine lv_topi (fun x_13 ex_13 => ?_)
    obtain rfl : x_3 = x_13 := ex_3.trans ex_13.symm
    refine va_sld hx hb hX hbl hbA hS (vp_in_iff.mpr ⟨by omega, by omega⟩) dL_law_551 ?_
    refine lv_topi (fun x_14 ex_14 => ?_)
    obtain rfl : x_4 = x_14 := ex_4.trans ex_14.symm
    refine lv_aload_n hx hb dL_law_552 rfl (lv_at hl 3 rfl) ?_
    refine lv_iload_n hx hb dL_law_553 rfl (lv_at hl 0 rfl) ?_
    refine lv_iconst (v := 3) hx hb dL_law_554 (by decide) ?_
    refine lv_iadd hx hb dL_law_555 ?_
    refine lv_topi (fun x_15 ex_15 => ?_)
    obtain rfl : x_5 = x_15 := ex_5.trans ex_15.symm
    refine va_sld hx hb hX hbl hbA hS (vp_in_iff.mpr ⟨by omega, by omega⟩) dL_law_556 ?_
    refine lv_topi (fun x_16 ex_16 => ?_)
    obtain rfl : x_6 = x_16 := ex_6.trans ex_16.symm
    refine lv_aload_n hx hb dL_law_557 rfl (lv_at hl 3 rfl) ?_
    refine lv_iload_n hx hb dL_law_558 rfl (lv_at hl 0 rfl) ?_
    refine lv_iconst (v := 4) hx hb dL_law_559 (by decide) ?_
    refine lv_iadd hx hb dL_law_560 ?_
    refine lv_topi (fun x_17 ex_17 => ?_)
    obtain rfl : x_7 = x_17 := ex_7.trans ex_17.symm
    refine va_sld hx hb hX hbl hbA hS (vp_in_iff.mpr ⟨by omega, by omega⟩) dL_law_561 ?_
    refine lv_topi (fun x_18 ex_18 => ?_)
    obtain rfl : x_8 = x_18 := ex_8.trans ex_18.symm
    refine lv_if_eq (tgt := 569) hx hb dL_law_562 (by decide) (fun c_19 => ?_) (fun c_19 => ?_)
    · have tc_19 : x_8.toInt = (0 : Int32).toInt := by rw [c_19]
      exfalso
      omega
    · have tc_19 : x_8.toInt ≠ (0 : Int32).toInt := fun q => absurd (Int32.toInt_inj.mp q) c_19
      refine lv_iconst (v := 1) hx hb dL_law_565 (by decide) ?_
      refine lv_goto (tgt := 570) hx hb dL_law_566 (by decide) ?_
      refine yl_i (X := wm ad2 cy v2) (Y := wl ad kv cy N c_10) (w1 := fun (u : Nat → Nat → Int32) => wm ad2 cy u) hP hD hS hA (va_runV (As := [.int x_2, .int x_4, .int x_6, .int 1]) (rest := []) ⟨hx, hb, hml, hown, hts⟩ (q_X8_learns l dC dI cy _ ad2 v2 hq x_2 x_4 x_6 1) (cwV 4 hts gL_law_X8_learns rfl rfl rfl hd_V_X8_learns_4 ⟨Nat.le_of_ble_eq_true rfl, Nat.le_of_ble_eq_true rfl⟩) (yl_preV hE hK hP hD (ci := 8) (q0 := 0) rfl (wm_at (by decide) rc_0)) rfl rfl hl.1 rfl (lv_room (Nat.le_of_ble_eq_true rfl)) dL_law_570 hcs) (fun r_20 m_20 H locs hw_20 hP hD hS => ?_)
      have hP : va_P (dC, dI) vwCl (wl ad kv cy N c_10 ++ wm ad2 cy m_20) H := hP
      have hD : va_D (fun q : Nat => s.heap.size ≤ q) (wl ad kv cy N c_10 ++ wm ad2 cy m_20) := hD
      obtain ⟨hq, hf_m_20⟩ := hw_20
      have hJ := hJ.mv hf_c_10 (Fq_e hf_m_20)
      refine lv_pop hx hb dL_law_573 rfl ?_
      refine lv_goto (tgt := 1060) hx hb dL_law_574 (by decide) ?_
      exact kk c_10 m_20 _ _ ls hv hq hJ hP hD hS hl

set_option maxHeartbeats 4000000 in
set_option maxRecDepth 100000 in
/-- the case of maySit -/
theorem lc_11 {p : Program} {l : Launch} {e : Env} {s : State} {m : MethodId} {below : List Frame} {meth : Method} {c : Code} {dC : Nat → ClassId} {dI : Nat → Nat → Nat} {cy : Nat → ClassId} {b L : Nat} {xs : Nat → Int32} (C0 : lw_At p s m meth c b L xs) {t1 t2 : Nat} (hSt : ex_St t1 t2 (fun q : Nat => s.heap.size ≤ q) s) (hE : ex_K s) (hK : va_K (dC, dI) vwCl (ty_L cy) s) (hL : L ≤ 3584) {ad ad2 : Nat → Nat} {kv : Value} {N : Nat} (hN : 119 ≤ N) {v v2 : Nat → Nat → Int32} (hv : Iv v) (hq : Ir v2) {n : Int32} (hJ : RR n v v2) {i : Int32} (hi : 0 ≤ i.toInt ∧ i.toInt + 7 ≤ (L : Int)) {cells slots : Nat} (hcs : cells ≤ room_1.cells ∧ slots ≤ room_1.slots) {H : Heap} {locs : List Loc} (hP : va_P (dC, dI) vwCl (wl ad kv cy N v ++ wm ad2 cy v2) H) (hD : va_D (fun q : Nat => s.heap.size ≤ q) (wl ad kv cy N v ++ wm ad2 cy v2)) (hS : va_S (fun q : Nat => s.heap.size ≤ q) s.heap H locs) (ls : Array Slot) (hl : lv_has ls 4 [(3, .int i), (2, .ref (ad2 0)), (1, .ref (ad 0)), (0, .ref b)]) (kk : ∀ (v1 v3 : Nat → Nat → Int32) (H1 : Heap) (locs1 : List Loc) (ls1 : Array Slot), Iv v1 → Ir v3 → RR n v1 v3 → va_P (dC, dI) vwCl (wl ad kv cy N v1 ++ wm ad2 cy v3) H1 → va_D (fun q : Nat => s.heap.size ≤ q) (wl ad kv cy N v1 ++ wm ad2 cy v3) → va_S (fun q : Nat => s.heap.size ≤ q) s.heap H1 locs1 → lv_has ls1 4 [(3, .int i), (2, .ref (ad2 0)), (1, .ref (ad 0)), (0, .ref b)] → W p l e room_1 s m #[Value.ref b] below meth c H1 locs1 cells slots (lw_Z below #[Value.ref b] s) (F0 m 1060 ls1 [])) : W p l e room_1 s m #[Value.ref b] below meth c H locs cells slots (lw_Z below #[Value.ref b] s) (F0 m 577 ls []) := by
  obtain ⟨hx, hb, hr, hml, hown, hts0, hX, hbl, hlocks, hgv⟩ := id C0
  have hts : ∀ w ∈ wsL_law, w.before #[Value.ref b] s = true := fun w h => hts0 w (wsL_law_in w h)
  have hown : s.vm.findClass RL = some m.cls := hown
  have hA : ∀ q : Nat, s.heap.size ≤ q → (fun q : Nat => s.heap.size ≤ q) q := fun _ h => h
  have hbA : ¬ (fun q : Nat => s.heap.size ≤ q) b := Nat.not_le.mpr hbl
  refine lv_aload_n hx hb dL_law_577 rfl (lv_at hl 2 rfl) ?_
  refine lv_aload_n hx hb dL_law_578 rfl (lv_at hl 3 rfl) ?_
  refine lv_iload_n hx hb dL_law_579 rfl (lv_at hl 0 rfl) ?_
  refine lv_iconst (v := 1) hx hb dL_law_580 (by decide) ?_
  refine lv_iadd hx hb dL_law_581 ?_
  refine lv_topi (fun x_1 ex_1 => ?_)
  have k_1 : (1 : Int32).toInt = 1 := by decide
  have tx_1 : x_1.toInt = i.toInt + (1 : Int32).toInt := by rw [ex_1]; exact t_add ⟨by omega, by omega⟩
  refine va_sld hx hb hX hbl hbA hS (vp_in_iff.mpr ⟨by omega, by omega⟩) dL_law_582 ?_
  refine lv_topi (fun x_2 ex_2 => ?_)
  refine lv_aload_n hx hb dL_law_583 rfl (lv_at hl 3 rfl) ?_
  refine lv_iload_n hx hb dL_law_584 rfl (lv_at hl 0 rfl) ?_
  refine lv_iconst (v := 2) hx hb dL_law_585 (by decide) ?_
  refine lv_iadd hx hb dL_law_586 ?_
  refine lv_topi (fun x_3 ex_3 => ?_)
  have k_2 : (2 : Int32).toInt = 2 := by decide
  have tx_3 : x_3.toInt = i.toInt + (2 : Int32).toInt := by rw [ex_3]; exact t_add ⟨by omega, by omega⟩
  refine va_sld hx hb hX hbl hbA hS (vp_in_iff.mpr ⟨by omega, by omega⟩) dL_law_587 ?_
  refine lv_topi (fun x_4 ex_4 => ?_)
  refine yl_i (X := wl ad kv cy N v) (Y := wm ad2 cy v2) (w1 := fun (u : Nat → Nat → Int32) => wl ad kv cy N u) hP hD hS hA (va_runV (As := [.int x_2, .int x_4]) (rest := []) ⟨hx, hb, hml, hown, hts⟩ (g_X7_maySit l dC dI cy _ ad kv N hN v hv x_2 x_4 t1 t2) (cwV 2 hts gL_law_X7_maySit rfl rfl rfl hd_V_X7_maySit_2 ⟨Nat.le_of_ble_eq_true rfl, Nat.le_of_ble_eq_true rfl⟩) ⟨ex_blindT, va_recv hK (yl_P hP) (ci := 7) (q0 := 0) rfl (wl_at (by omega) (ce_0 (by decide))), fun U hU hW => ⟨rfl, ((yw_preS (As := []) hE hK (yl_P hP) (yl_D hD)).2 U hU hW).2, hSt.go hS (yw_F (yl_D hD) hS hA) hU hW⟩⟩ rfl rfl hl.1 rfl (lv_room (Nat.le_of_ble_eq_true rfl)) dL_law_588 hcs) (fun r_5 c_5 H locs hw_5 hP hD hS => ?_)
  have hP : va_P (dC, dI) vwCl (wm ad2 cy v2 ++ wl ad kv cy N c_5) H := hP
  have hD : va_D (fun q : Nat => s.heap.size ≤ q) (wm ad2 cy v2 ++ wl ad kv cy N c_5) := hD
  obtain ⟨hv, hf_c_5⟩ := hw_5
  refine lv_pop hx hb dL_law_591 rfl ?_
  refine lv_aload_n hx hb dL_law_592 rfl (lv_at hl 1 rfl) ?_
  refine lv_aload_n hx hb dL_law_593 rfl (lv_at hl 3 rfl) ?_
  refine lv_iload_n hx hb dL_law_594 rfl (lv_at hl 0 rfl) ?_
  refine lv_iconst (v := 1) hx hb dL_law_595 (by decide) ?_
  refine lv_iadd hx hb dL_law_596 ?_
  refine lv_topi (fun x_6 ex_6 => ?_)
  obtain rfl : x_1 = x_6 := ex_1.trans ex_6.symm
  refine va_sld hx hb hX hbl hbA hS (vp_in_iff.mpr ⟨by omega, by omega⟩) dL_law_597 ?_
  refine lv_topi (fun x_7 ex_7 => ?_)
  obtain rfl : x_2 = x_7 := ex_2.trans ex_7.symm
  refine lv_aload_n hx hb dL_law_598 rfl (lv_at hl 3 rfl) ?_
  refine lv_iload_n hx hb dL_law_599 rfl (lv_at hl 0 rfl) ?_
  refine lv_iconst (v := 2) hx hb dL_law_600 (by decide) ?_
  refine lv_iadd hx hb dL_law_601 ?_
  refine lv_topi (fun x_8 ex_8 => ?_)
  obtain rfl : x_3 = x_8 := ex_3.trans ex_8.symm
  refine va_sld hx hb hX hbl hbA hS (vp_in_iff.mpr ⟨by omega, by omega⟩) dL_law_602 ?_
  refine lv_topi (fun x_9 ex_9 => ?_)
  obtain rfl : x_4 = x_9 := ex_4.trans ex_9.symm
  refine yl_i (X := wm ad2 cy v2) (Y := wl ad kv cy N c_5) (w1 := fun (u : Nat → Nat → Int32) => wm ad2 cy u) hP hD hS hA (va_runV (As := [.int x_2, .int x_4]) (rest := []) ⟨hx, hb, hml, hown, hts⟩ (q_X8_maySit l dC dI cy _ ad2 v2 hq x_2 x_4) (cwV 2 hts gL_law_X8_maySit rfl rfl rfl hd_V_X8_maySit_2 ⟨Nat.le_of_ble_eq_true rfl, Nat.le_of_ble_eq_true rfl⟩) (yl_preV hE hK hP hD (ci := 8) (q0 := 0) rfl (wm_at (by decide) rc_0)) rfl rfl hl.1 rfl (lv_room (Nat.le_of_ble_eq_true rfl)) dL_law_603 hcs) (fun r_10 m_10 H locs hw_10 hP hD hS => ?_)
  have hP : va_P (dC, dI) vwCl (wl ad kv cy N c_5 ++ wm ad2 cy m_10) H := hP
  have hD : va_D (fun q : Nat => s.heap.size ≤ q) (wl ad kv cy N c_5 ++ wm ad2 cy m_10) := hD
  obtain ⟨hq, hf_m_10⟩ := hw_10
  have hJ := hJ.mv hf_c_5 (Fq_e hf_m_10)
  refine lv_pop hx hb dL_law_606 rfl ?_
  refine lv_goto (tgt := 1060) hx hb dL_law_607 (by decide) ?_
  exact kk c_5 m_10 _ _ ls hv hq hJ hP hD hS hl

set_option maxHeartbeats 4000000 in
set_option maxRecDepth 100000 in
/-- the case of rooms -/
theorem lc_12 {p : Program} {l : Launch} {e : Env} {s : State} {m : MethodId} {below : List Frame} {meth : Method} {c : Code} {dC : Nat → ClassId} {dI : Nat → Nat → Nat} {cy : Nat → ClassId} {b L : Nat} {xs : Nat → Int32} (C0 : lw_At p s m meth c b L xs) {t1 t2 : Nat} (hSt : ex_St t1 t2 (fun q : Nat => s.heap.size ≤ q) s) (hE : ex_K s) (hK : va_K (dC, dI) vwCl (ty_L cy) s) (hL : L ≤ 3584) {ad ad2 : Nat → Nat} {kv : Value} {N : Nat} (hN : 119 ≤ N) {v v2 : Nat → Nat → Int32} (hv : Iv v) (hq : Ir v2) {n : Int32} (hJ : RR n v v2) {i : Int32} (hi : 0 ≤ i.toInt ∧ i.toInt + 7 ≤ (L : Int)) {cells slots : Nat} (hcs : cells ≤ room_1.cells ∧ slots ≤ room_1.slots) {H : Heap} {locs : List Loc} (hP : va_P (dC, dI) vwCl (wl ad kv cy N v ++ wm ad2 cy v2) H) (hD : va_D (fun q : Nat => s.heap.size ≤ q) (wl ad kv cy N v ++ wm ad2 cy v2)) (hS : va_S (fun q : Nat => s.heap.size ≤ q) s.heap H locs) (ls : Array Slot) (hl : lv_has ls 4 [(3, .int i), (2, .ref (ad2 0)), (1, .ref (ad 0)), (0, .ref b)]) (kk : ∀ (v1 v3 : Nat → Nat → Int32) (H1 : Heap) (locs1 : List Loc) (ls1 : Array Slot), Iv v1 → Ir v3 → RR n v1 v3 → va_P (dC, dI) vwCl (wl ad kv cy N v1 ++ wm ad2 cy v3) H1 → va_D (fun q : Nat => s.heap.size ≤ q) (wl ad kv cy N v1 ++ wm ad2 cy v3) → va_S (fun q : Nat => s.heap.size ≤ q) s.heap H1 locs1 → lv_has ls1 4 [(3, .int i), (2, .ref (ad2 0)), (1, .ref (ad 0)), (0, .ref b)] → W p l e room_1 s m #[Value.ref b] below meth c H1 locs1 cells slots (lw_Z below #[Value.ref b] s) (F0 m 1060 ls1 [])) : W p l e room_1 s m #[Value.ref b] below meth c H locs cells slots (lw_Z below #[Value.ref b] s) (F0 m 610 ls []) := by
  obtain ⟨hx, hb, hr, hml, hown, hts0, hX, hbl, hlocks, hgv⟩ := id C0
  have hts : ∀ w ∈ wsL_law, w.before #[Value.ref b] s = true := fun w h => hts0 w (wsL_law_in w h)
  have hown : s.vm.findClass RL = some m.cls := hown
  have hA : ∀ q : Nat, s.heap.size ≤ q → (fun q : Nat => s.heap.size ≤ q) q := fun _ h => h
  have hbA : ¬ (fun q : Nat => s.heap.size ≤ q) b := Nat.not_le.mpr hbl
  refine lv_aload_n hx hb dL_law_610 rfl (lv_at hl 2 rfl) ?_
  refine lv_aload_n hx hb dL_law_611 rfl (lv_at hl 3 rfl) ?_
  refine lv_iload_n hx hb dL_law_612 rfl (lv_at hl 0 rfl) ?_
  refine lv_iconst (v := 1) hx hb dL_law_613 (by decide) ?_
  refine lv_iadd hx hb dL_law_614 ?_
  refine lv_topi (fun x_1 ex_1 => ?_)
  have k_1 : (1 : Int32).toInt = 1 := by decide
  have tx_1 : x_1.toInt = i.toInt + (1 : Int32).toInt := by rw [ex_1]; exact t_add ⟨by omega, by omega⟩
  refine va_sld hx hb hX hbl hbA hS (vp_in_iff.mpr ⟨by omega, by omega⟩) dL_law_615 ?_
  refine lv_topi (fun x_2 ex_2 => ?_)
  have hv0 := hv
  refine yl_i (X := wl ad kv cy N v) (Y := wm ad2 cy v2) (w1 := fun (u : Nat → Nat → Int32) => wl ad kv cy N u) hP hD hS hA (va_runV (As := [.int x_2]) (rest := []) ⟨hx, hb, hml, hown, hts⟩ (e_X7_rooms l dC dI cy _ ad kv N hN v hv x_2) (cwV 1 hts gL_law_X7_rooms rfl rfl rfl hd_V_X7_rooms_1 ⟨Nat.le_of_ble_eq_true rfl, Nat.le_of_ble_eq_true rfl⟩) (yl_preV hE hK hP hD (ci := 7) (q0 := 0) rfl (wl_at (by omega) (ce_0 (by decide)))) rfl rfl hl.1 rfl (lv_room (Nat.le_of_ble_eq_true rfl)) dL_law_616 hcs) (fun r_3 c_3 H locs hw_3 hP hD hS => ?_)
  have hP : va_P (dC, dI) vwCl (wm ad2 cy v2 ++ wl ad kv cy N c_3) H := hP
  have hD : va_D (fun q : Nat => s.heap.size ≤ q) (wm ad2 cy v2 ++ wl ad kv cy N c_3) := hD
  obtain ⟨hv, hpc⟩ := hw_3
  refine lv_pop hx hb dL_law_619 rfl ?_
  refine lv_aload_n hx hb dL_law_620 rfl (lv_at hl 1 rfl) ?_
  refine lv_aload_n hx hb dL_law_621 rfl (lv_at hl 3 rfl) ?_
  refine lv_iload_n hx hb dL_law_622 rfl (lv_at hl 0 rfl) ?_
  refine lv_iconst (v := 1) hx hb dL_law_623 (by decide) ?_
  refine lv_iadd hx hb dL_law_624 ?_
  refine lv_topi (fun x_4 ex_4 => ?_)
  obtain rfl : x_1 = x_4 := ex_1.trans ex_4.symm
  refine va_sld hx hb hX hbl hbA hS (vp_in_iff.mpr ⟨by omega, by omega⟩) dL_law_625 ?_
  refine lv_topi (fun x_5 ex_5 => ?_)
  obtain rfl : x_2 = x_5 := ex_2.trans ex_5.symm
  have hq0 := hq
  refine yl_i (X := wm ad2 cy v2) (Y := wl ad kv cy N c_3) (w1 := fun (u : Nat → Nat → Int32) => wm ad2 cy u) hP hD hS hA (va_runV (As := [.int x_2]) (rest := []) ⟨hx, hb, hml, hown, hts⟩ (q_X8_rooms l dC dI cy _ ad2 v2 hq x_2) (cwV 1 hts gL_law_X8_rooms rfl rfl rfl hd_V_X8_rooms_1 ⟨Nat.le_of_ble_eq_true rfl, Nat.le_of_ble_eq_true rfl⟩) (yl_preV hE hK hP hD (ci := 8) (q0 := 0) rfl (wm_at (by decide) rc_0)) rfl rfl hl.1 rfl (lv_room (Nat.le_of_ble_eq_true rfl)) dL_law_626 hcs) (fun r_6 m_6 H locs hw_6 hP hD hS => ?_)
  have hP : va_P (dC, dI) vwCl (wl ad kv cy N c_3 ++ wm ad2 cy m_6) H := hP
  have hD : va_D (fun q : Nat => s.heap.size ≤ q) (wl ad kv cy N c_3 ++ wm ad2 cy m_6) := hD
  obtain ⟨hq, hpm⟩ := hw_6
  obtain ⟨hrr, hJ⟩ := T_rooms hJ hpc hpm
  subst hrr
  refine lv_pop hx hb dL_law_629 rfl ?_
  refine lv_goto (tgt := 1060) hx hb dL_law_630 (by decide) ?_
  exact kk c_3 m_6 _ _ ls hv hq hJ hP hD hS hl
