theorem dL_law_0_b : (decode cL_law 0 = .ok (.new 7, 3)) ∧ (decode cL_law 3 = .ok (.dup, 1)) ∧ (decode cL_law 4 = .ok (.invokespecial 9, 3)) ∧ (decode cL_law 7 = .ok (.astore_n 1, 1)) ∧ (decode cL_law 8 = .ok (.new 10, 3)) ∧ (decode cL_law 11 = .ok (.dup, 1)) ∧ (decode cL_law 12 = .ok (.invokespecial 12, 3)) ∧ (decode cL_law 15 = .ok (.astore_n 2, 1)) ∧ (decode cL_law 16 = .ok (.iconst 0, 1)) ∧ (decode cL_law 17 = .ok (.istore_n 3, 1)) ∧ (decode cL_law 18 = .ok (.iload_n 3, 1)) ∧ (decode cL_law 19 = .ok (.aload_n 0, 1)) := by decide +kernel
theorem dL_law_0 : decode cL_law 0 = .ok (.new 7, 3) := dL_law_0_b.1
theorem dL_law_3 : decode cL_law 3 = .ok (.dup, 1) := dL_law_0_b.2.1
theorem dL_law_4 : decode cL_law 4 = .ok (.invokespecial 9, 3) := dL_law_0_b.2.2.1
theorem dL_law_7 : decode cL_law 7 = .ok (.astore_n 1, 1) := dL_law_0_b.2.2.2.1
theorem dL_law_8 : decode cL_law 8 = .ok (.new 10, 3) := dL_law_0_b.2.2.2.2.1
theorem dL_law_11 : decode cL_law 11 = .ok (.dup, 1) := dL_law_0_b.2.2.2.2.2.1
theorem dL_law_12 : decode cL_law 12 = .ok (.invokespecial 12, 3) := dL_law_0_b.2.2.2.2.2.2.1
theorem dL_law_15 : decode cL_law 15 = .ok (.astore_n 2, 1) := dL_law_0_b.2.2.2.2.2.2.2.1
theorem dL_law_16 : decode cL_law 16 = .ok (.iconst 0, 1) := dL_law_0_b.2.2.2.2.2.2.2.2.1
theorem dL_law_17 : decode cL_law 17 = .ok (.istore_n 3, 1) := dL_law_0_b.2.2.2.2.2.2.2.2.2.1
theorem dL_law_18 : decode cL_law 18 = .ok (.iload_n 3, 1) := dL_law_0_b.2.2.2.2.2.2.2.2.2.2.1
theorem dL_law_19 : decode cL_law 19 = .ok (.aload_n 0, 1) := dL_law_0_b.2.2.2.2.2.2.2.2.2.2.2
theorem dL_law_20_b : (decode cL_law 20 = .ok (.arraylength, 1)) ∧ (decode cL_law 21 = .ok (.bipush 6, 2)) ∧ (decode cL_law 23 = .ok (.isub, 1)) ∧ (decode cL_law 24 = .ok (.if_icmp .gt 1141, 3)) ∧ (decode cL_law 27 = .ok (.aload_n 0, 1)) ∧ (decode cL_law 28 = .ok (.iload_n 3, 1)) ∧ (decode cL_law 29 = .ok (.iaload, 1)) ∧ (decode cL_law 30 = .ok (.bipush 63, 2)) ∧ (decode cL_law 32 = .ok (.iand, 1)) ∧ (decode cL_law 33 = .ok (.tableswitch 1126 0 32 #[147, 190, 233, 296, 319, 342, 355, 368, 391, 424, 457, 480, 493, 526, 549, 572, 595, 618, 631, 654, 697, 740, 793, 846, 889, 932, 955, 978, 1001, 1034, 1067, 1090, 1113], 147)) ∧ (decode cL_law 180 = .ok (.aload_n 1, 1)) ∧ (decode cL_law 181 = .ok (.aload_n 0, 1)) := by decide +kernel
theorem dL_law_20 : decode cL_law 20 = .ok (.arraylength, 1) := dL_law_20_b.1
theorem dL_law_21 : decode cL_law 21 = .ok (.bipush 6, 2) := dL_law_20_b.2.1
theorem dL_law_23 : decode cL_law 23 = .ok (.isub, 1) := dL_law_20_b.2.2.1
theorem dL_law_24 : decode cL_law 24 = .ok (.if_icmp .gt 1141, 3) := dL_law_20_b.2.2.2.1
theorem dL_law_27 : decode cL_law 27 = .ok (.aload_n 0, 1) := dL_law_20_b.2.2.2.2.1
theorem dL_law_28 : decode cL_law 28 = .ok (.iload_n 3, 1) := dL_law_20_b.2.2.2.2.2.1
theorem dL_law_29 : decode cL_law 29 = .ok (.iaload, 1) := dL_law_20_b.2.2.2.2.2.2.1
theorem dL_law_30 : decode cL_law 30 = .ok (.bipush 63, 2) := dL_law_20_b.2.2.2.2.2.2.2.1
theorem dL_law_32 : decode cL_law 32 = .ok (.iand, 1) := dL_law_20_b.2.2.2.2.2.2.2.2.1
theorem dL_law_33 : decode cL_law 33 = .ok (.tableswitch 1126 0 32 #[147, 190, 233, 296, 319, 342, 355, 368, 391, 424, 457, 480, 493, 526, 549, 572, 595, 618, 631, 654, 697, 740, 793, 846, 889, 932, 955, 978, 1001, 1034, 1067, 1090, 1113], 147) := dL_law_20_b.2.2.2.2.2.2.2.2.2.1
theorem dL_law_180 : decode cL_law 180 = .ok (.aload_n 1, 1) := dL_law_20_b.2.2.2.2.2.2.2.2.2.2.1
theorem dL_law_181 : decode cL_law 181 = .ok (.aload_n 0, 1) := dL_law_20_b.2.2.2.2.2.2.2.2.2.2.2
theorem dL_law_182_b : (decode cL_law 182 = .ok (.iload_n 3, 1)) ∧ (decode cL_law 183 = .ok (.iconst 1, 1)) ∧ (decode cL_law 184 = .ok (.iadd, 1)) ∧ (decode cL_law 185 = .ok (.iaload, 1)) ∧ (decode cL_law 186 = .ok (.aload_n 0, 1)) ∧ (decode cL_law 187 = .ok (.iload_n 3, 1)) ∧ (decode cL_law 188 = .ok (.iconst 2, 1)) ∧ (decode cL_law 189 = .ok (.iadd, 1)) ∧ (decode cL_law 190 = .ok (.iaload, 1)) ∧ (decode cL_law 191 = .ok (.aload_n 0, 1)) ∧ (decode cL_law 192 = .ok (.iload_n 3, 1)) ∧ (decode cL_law 193 = .ok (.iconst 3, 1)) := by decide +kernel
theorem dL_law_182 : decode cL_law 182 = .ok (.iload_n 3, 1) := dL_law_182_b.1
theorem dL_law_183 : decode cL_law 183 = .ok (.iconst 1, 1) := dL_law_182_b.2.1
theorem dL_law_184 : decode cL_law 184 = .ok (.iadd, 1) := dL_law_182_b.2.2.1
theorem dL_law_185 : decode cL_law 185 = .ok (.iaload, 1) := dL_law_182_b.2.2.2.1
theorem dL_law_186 : decode cL_law 186 = .ok (.aload_n 0, 1) := dL_law_182_b.2.2.2.2.1
theorem dL_law_187 : decode cL_law 187 = .ok (.iload_n 3, 1) := dL_law_182_b.2.2.2.2.2.1
theorem dL_law_188 : decode cL_law 188 = .ok (.iconst 2, 1) := dL_law_182_b.2.2.2.2.2.2.1
theorem dL_law_189 : decode cL_law 189 = .ok (.iadd, 1) := dL_law_182_b.2.2.2.2.2.2.2.1
theorem dL_law_190 : decode cL_law 190 = .ok (.iaload, 1) := dL_law_182_b.2.2.2.2.2.2.2.2.1
theorem dL_law_191 : decode cL_law 191 = .ok (.aload_n 0, 1) := dL_law_182_b.2.2.2.2.2.2.2.2.2.1
theorem dL_law_192 : decode cL_law 192 = .ok (.iload_n 3, 1) := dL_law_182_b.2.2.2.2.2.2.2.2.2.2.1
theorem dL_law_193 : decode cL_law 193 = .ok (.iconst 3, 1) := dL_law_182_b.2.2.2.2.2.2.2.2.2.2.2
theorem dL_law_194_b : (decode cL_law 194 = .ok (.iadd, 1)) ∧ (decode cL_law 195 = .ok (.iaload, 1)) ∧ (decode cL_law 196 = .ok (.invokevirtual 13, 3)) ∧ (decode cL_law 199 = .ok (.pop, 1)) ∧ (decode cL_law 200 = .ok (.aload_n 2, 1)) ∧ (decode cL_law 201 = .ok (.aload_n 0, 1)) ∧ (decode cL_law 202 = .ok (.iload_n 3, 1)) ∧ (decode cL_law 203 = .ok (.iconst 1, 1)) ∧ (decode cL_law 204 = .ok (.iadd, 1)) ∧ (decode cL_law 205 = .ok (.iaload, 1)) ∧ (decode cL_law 206 = .ok (.aload_n 0, 1)) ∧ (decode cL_law 207 = .ok (.iload_n 3, 1)) := by decide +kernel
theorem dL_law_194 : decode cL_law 194 = .ok (.iadd, 1) := dL_law_194_b.1
theorem dL_law_195 : decode cL_law 195 = .ok (.iaload, 1) := dL_law_194_b.2.1
theorem dL_law_196 : decode cL_law 196 = .ok (.invokevirtual 13, 3) := dL_law_194_b.2.2.1
theorem dL_law_199 : decode cL_law 199 = .ok (.pop, 1) := dL_law_194_b.2.2.2.1
theorem dL_law_200 : decode cL_law 200 = .ok (.aload_n 2, 1) := dL_law_194_b.2.2.2.2.1
theorem dL_law_201 : decode cL_law 201 = .ok (.aload_n 0, 1) := dL_law_194_b.2.2.2.2.2.1
theorem dL_law_202 : decode cL_law 202 = .ok (.iload_n 3, 1) := dL_law_194_b.2.2.2.2.2.2.1
theorem dL_law_203 : decode cL_law 203 = .ok (.iconst 1, 1) := dL_law_194_b.2.2.2.2.2.2.2.1
theorem dL_law_204 : decode cL_law 204 = .ok (.iadd, 1) := dL_law_194_b.2.2.2.2.2.2.2.2.1
theorem dL_law_205 : decode cL_law 205 = .ok (.iaload, 1) := dL_law_194_b.2.2.2.2.2.2.2.2.2.1
theorem dL_law_206 : decode cL_law 206 = .ok (.aload_n 0, 1) := dL_law_194_b.2.2.2.2.2.2.2.2.2.2.1
theorem dL_law_207 : decode cL_law 207 = .ok (.iload_n 3, 1) := dL_law_194_b.2.2.2.2.2.2.2.2.2.2.2
theorem dL_law_208_b : (decode cL_law 208 = .ok (.iconst 2, 1)) ∧ (decode cL_law 209 = .ok (.iadd, 1)) ∧ (decode cL_law 210 = .ok (.iaload, 1)) ∧ (decode cL_law 211 = .ok (.aload_n 0, 1)) ∧ (decode cL_law 212 = .ok (.iload_n 3, 1)) ∧ (decode cL_law 213 = .ok (.iconst 3, 1)) ∧ (decode cL_law 214 = .ok (.iadd, 1)) ∧ (decode cL_law 215 = .ok (.iaload, 1)) ∧ (decode cL_law 216 = .ok (.invokevirtual 17, 3)) ∧ (decode cL_law 219 = .ok (.pop, 1)) ∧ (decode cL_law 220 = .ok (.goto 939, 3)) ∧ (decode cL_law 223 = .ok (.aload_n 1, 1)) := by decide +kernel
theorem dL_law_208 : decode cL_law 208 = .ok (.iconst 2, 1) := dL_law_208_b.1
theorem dL_law_209 : decode cL_law 209 = .ok (.iadd, 1) := dL_law_208_b.2.1
theorem dL_law_210 : decode cL_law 210 = .ok (.iaload, 1) := dL_law_208_b.2.2.1
theorem dL_law_211 : decode cL_law 211 = .ok (.aload_n 0, 1) := dL_law_208_b.2.2.2.1
theorem dL_law_212 : decode cL_law 212 = .ok (.iload_n 3, 1) := dL_law_208_b.2.2.2.2.1
theorem dL_law_213 : decode cL_law 213 = .ok (.iconst 3, 1) := dL_law_208_b.2.2.2.2.2.1
theorem dL_law_214 : decode cL_law 214 = .ok (.iadd, 1) := dL_law_208_b.2.2.2.2.2.2.1
theorem dL_law_215 : decode cL_law 215 = .ok (.iaload, 1) := dL_law_208_b.2.2.2.2.2.2.2.1
theorem dL_law_216 : decode cL_law 216 = .ok (.invokevirtual 17, 3) := dL_law_208_b.2.2.2.2.2.2.2.2.1
theorem dL_law_219 : decode cL_law 219 = .ok (.pop, 1) := dL_law_208_b.2.2.2.2.2.2.2.2.2.1
theorem dL_law_220 : decode cL_law 220 = .ok (.goto 939, 3) := dL_law_208_b.2.2.2.2.2.2.2.2.2.2.1
theorem dL_law_223 : decode cL_law 223 = .ok (.aload_n 1, 1) := dL_law_208_b.2.2.2.2.2.2.2.2.2.2.2
theorem dL_law_224_b : (decode cL_law 224 = .ok (.aload_n 0, 1)) ∧ (decode cL_law 225 = .ok (.iload_n 3, 1)) ∧ (decode cL_law 226 = .ok (.iconst 1, 1)) ∧ (decode cL_law 227 = .ok (.iadd, 1)) ∧ (decode cL_law 228 = .ok (.iaload, 1)) ∧ (decode cL_law 229 = .ok (.aload_n 0, 1)) ∧ (decode cL_law 230 = .ok (.iload_n 3, 1)) ∧ (decode cL_law 231 = .ok (.iconst 2, 1)) ∧ (decode cL_law 232 = .ok (.iadd, 1)) ∧ (decode cL_law 233 = .ok (.iaload, 1)) ∧ (decode cL_law 234 = .ok (.aload_n 0, 1)) ∧ (decode cL_law 235 = .ok (.iload_n 3, 1)) := by decide +kernel
theorem dL_law_224 : decode cL_law 224 = .ok (.aload_n 0, 1) := dL_law_224_b.1
theorem dL_law_225 : decode cL_law 225 = .ok (.iload_n 3, 1) := dL_law_224_b.2.1
theorem dL_law_226 : decode cL_law 226 = .ok (.iconst 1, 1) := dL_law_224_b.2.2.1
theorem dL_law_227 : decode cL_law 227 = .ok (.iadd, 1) := dL_law_224_b.2.2.2.1
theorem dL_law_228 : decode cL_law 228 = .ok (.iaload, 1) := dL_law_224_b.2.2.2.2.1
theorem dL_law_229 : decode cL_law 229 = .ok (.aload_n 0, 1) := dL_law_224_b.2.2.2.2.2.1
theorem dL_law_230 : decode cL_law 230 = .ok (.iload_n 3, 1) := dL_law_224_b.2.2.2.2.2.2.1
theorem dL_law_231 : decode cL_law 231 = .ok (.iconst 2, 1) := dL_law_224_b.2.2.2.2.2.2.2.1
theorem dL_law_232 : decode cL_law 232 = .ok (.iadd, 1) := dL_law_224_b.2.2.2.2.2.2.2.2.1
theorem dL_law_233 : decode cL_law 233 = .ok (.iaload, 1) := dL_law_224_b.2.2.2.2.2.2.2.2.2.1
theorem dL_law_234 : decode cL_law 234 = .ok (.aload_n 0, 1) := dL_law_224_b.2.2.2.2.2.2.2.2.2.2.1
theorem dL_law_235 : decode cL_law 235 = .ok (.iload_n 3, 1) := dL_law_224_b.2.2.2.2.2.2.2.2.2.2.2
theorem dL_law_236_b : (decode cL_law 236 = .ok (.iconst 3, 1)) ∧ (decode cL_law 237 = .ok (.iadd, 1)) ∧ (decode cL_law 238 = .ok (.iaload, 1)) ∧ (decode cL_law 239 = .ok (.invokevirtual 18, 3)) ∧ (decode cL_law 242 = .ok (.pop, 1)) ∧ (decode cL_law 243 = .ok (.aload_n 2, 1)) ∧ (decode cL_law 244 = .ok (.aload_n 0, 1)) ∧ (decode cL_law 245 = .ok (.iload_n 3, 1)) ∧ (decode cL_law 246 = .ok (.iconst 1, 1)) ∧ (decode cL_law 247 = .ok (.iadd, 1)) ∧ (decode cL_law 248 = .ok (.iaload, 1)) ∧ (decode cL_law 249 = .ok (.aload_n 0, 1)) := by decide +kernel
theorem dL_law_236 : decode cL_law 236 = .ok (.iconst 3, 1) := dL_law_236_b.1
theorem dL_law_237 : decode cL_law 237 = .ok (.iadd, 1) := dL_law_236_b.2.1
theorem dL_law_238 : decode cL_law 238 = .ok (.iaload, 1) := dL_law_236_b.2.2.1
theorem dL_law_239 : decode cL_law 239 = .ok (.invokevirtual 18, 3) := dL_law_236_b.2.2.2.1
theorem dL_law_242 : decode cL_law 242 = .ok (.pop, 1) := dL_law_236_b.2.2.2.2.1
theorem dL_law_243 : decode cL_law 243 = .ok (.aload_n 2, 1) := dL_law_236_b.2.2.2.2.2.1
theorem dL_law_244 : decode cL_law 244 = .ok (.aload_n 0, 1) := dL_law_236_b.2.2.2.2.2.2.1
theorem dL_law_245 : decode cL_law 245 = .ok (.iload_n 3, 1) := dL_law_236_b.2.2.2.2.2.2.2.1
theorem dL_law_246 : decode cL_law 246 = .ok (.iconst 1, 1) := dL_law_236_b.2.2.2.2.2.2.2.2.1
theorem dL_law_247 : decode cL_law 247 = .ok (.iadd, 1) := dL_law_236_b.2.2.2.2.2.2.2.2.2.1
theorem dL_law_248 : decode cL_law 248 = .ok (.iaload, 1) := dL_law_236_b.2.2.2.2.2.2.2.2.2.2.1
theorem dL_law_249 : decode cL_law 249 = .ok (.aload_n 0, 1) := dL_law_236_b.2.2.2.2.2.2.2.2.2.2.2
theorem dL_law_250_b : (decode cL_law 250 = .ok (.iload_n 3, 1)) ∧ (decode cL_law 251 = .ok (.iconst 2, 1)) ∧ (decode cL_law 252 = .ok (.iadd, 1)) ∧ (decode cL_law 253 = .ok (.iaload, 1)) ∧ (decode cL_law 254 = .ok (.aload_n 0, 1)) ∧ (decode cL_law 255 = .ok (.iload_n 3, 1)) ∧ (decode cL_law 256 = .ok (.iconst 3, 1)) ∧ (decode cL_law 257 = .ok (.iadd, 1)) ∧ (decode cL_law 258 = .ok (.iaload, 1)) ∧ (decode cL_law 259 = .ok (.invokevirtual 21, 3)) ∧ (decode cL_law 262 = .ok (.pop, 1)) ∧ (decode cL_law 263 = .ok (.goto 896, 3)) := by decide +kernel
theorem dL_law_250 : decode cL_law 250 = .ok (.iload_n 3, 1) := dL_law_250_b.1
theorem dL_law_251 : decode cL_law 251 = .ok (.iconst 2, 1) := dL_law_250_b.2.1
theorem dL_law_252 : decode cL_law 252 = .ok (.iadd, 1) := dL_law_250_b.2.2.1
theorem dL_law_253 : decode cL_law 253 = .ok (.iaload, 1) := dL_law_250_b.2.2.2.1
theorem dL_law_254 : decode cL_law 254 = .ok (.aload_n 0, 1) := dL_law_250_b.2.2.2.2.1
theorem dL_law_255 : decode cL_law 255 = .ok (.iload_n 3, 1) := dL_law_250_b.2.2.2.2.2.1
theorem dL_law_256 : decode cL_law 256 = .ok (.iconst 3, 1) := dL_law_250_b.2.2.2.2.2.2.1
theorem dL_law_257 : decode cL_law 257 = .ok (.iadd, 1) := dL_law_250_b.2.2.2.2.2.2.2.1
theorem dL_law_258 : decode cL_law 258 = .ok (.iaload, 1) := dL_law_250_b.2.2.2.2.2.2.2.2.1
theorem dL_law_259 : decode cL_law 259 = .ok (.invokevirtual 21, 3) := dL_law_250_b.2.2.2.2.2.2.2.2.2.1
theorem dL_law_262 : decode cL_law 262 = .ok (.pop, 1) := dL_law_250_b.2.2.2.2.2.2.2.2.2.2.1
theorem dL_law_263 : decode cL_law 263 = .ok (.goto 896, 3) := dL_law_250_b.2.2.2.2.2.2.2.2.2.2.2
theorem dL_law_266_b : (decode cL_law 266 = .ok (.aload_n 1, 1)) ∧ (decode cL_law 267 = .ok (.aload_n 0, 1)) ∧ (decode cL_law 268 = .ok (.iload_n 3, 1)) ∧ (decode cL_law 269 = .ok (.iconst 1, 1)) ∧ (decode cL_law 270 = .ok (.iadd, 1)) ∧ (decode cL_law 271 = .ok (.iaload, 1)) ∧ (decode cL_law 272 = .ok (.aload_n 0, 1)) ∧ (decode cL_law 273 = .ok (.iload_n 3, 1)) ∧ (decode cL_law 274 = .ok (.iconst 2, 1)) ∧ (decode cL_law 275 = .ok (.iadd, 1)) ∧ (decode cL_law 276 = .ok (.iaload, 1)) ∧ (decode cL_law 277 = .ok (.aload_n 0, 1)) := by decide +kernel
theorem dL_law_266 : decode cL_law 266 = .ok (.aload_n 1, 1) := dL_law_266_b.1
theorem dL_law_267 : decode cL_law 267 = .ok (.aload_n 0, 1) := dL_law_266_b.2.1
theorem dL_law_268 : decode cL_law 268 = .ok (.iload_n 3, 1) := dL_law_266_b.2.2.1
theorem dL_law_269 : decode cL_law 269 = .ok (.iconst 1, 1) := dL_law_266_b.2.2.2.1
theorem dL_law_270 : decode cL_law 270 = .ok (.iadd, 1) := dL_law_266_b.2.2.2.2.1
theorem dL_law_271 : decode cL_law 271 = .ok (.iaload, 1) := dL_law_266_b.2.2.2.2.2.1
theorem dL_law_272 : decode cL_law 272 = .ok (.aload_n 0, 1) := dL_law_266_b.2.2.2.2.2.2.1
theorem dL_law_273 : decode cL_law 273 = .ok (.iload_n 3, 1) := dL_law_266_b.2.2.2.2.2.2.2.1
theorem dL_law_274 : decode cL_law 274 = .ok (.iconst 2, 1) := dL_law_266_b.2.2.2.2.2.2.2.2.1
theorem dL_law_275 : decode cL_law 275 = .ok (.iadd, 1) := dL_law_266_b.2.2.2.2.2.2.2.2.2.1
theorem dL_law_276 : decode cL_law 276 = .ok (.iaload, 1) := dL_law_266_b.2.2.2.2.2.2.2.2.2.2.1
theorem dL_law_277 : decode cL_law 277 = .ok (.aload_n 0, 1) := dL_law_266_b.2.2.2.2.2.2.2.2.2.2.2
theorem dL_law_278_b : (decode cL_law 278 = .ok (.iload_n 3, 1)) ∧ (decode cL_law 279 = .ok (.iconst 3, 1)) ∧ (decode cL_law 280 = .ok (.iadd, 1)) ∧ (decode cL_law 281 = .ok (.iaload, 1)) ∧ (decode cL_law 282 = .ok (.aload_n 0, 1)) ∧ (decode cL_law 283 = .ok (.iload_n 3, 1)) ∧ (decode cL_law 284 = .ok (.iconst 4, 1)) ∧ (decode cL_law 285 = .ok (.iadd, 1)) ∧ (decode cL_law 286 = .ok (.iaload, 1)) ∧ (decode cL_law 287 = .ok (.aload_n 0, 1)) ∧ (decode cL_law 288 = .ok (.iload_n 3, 1)) ∧ (decode cL_law 289 = .ok (.iconst 5, 1)) := by decide +kernel
theorem dL_law_278 : decode cL_law 278 = .ok (.iload_n 3, 1) := dL_law_278_b.1
theorem dL_law_279 : decode cL_law 279 = .ok (.iconst 3, 1) := dL_law_278_b.2.1
theorem dL_law_280 : decode cL_law 280 = .ok (.iadd, 1) := dL_law_278_b.2.2.1
theorem dL_law_281 : decode cL_law 281 = .ok (.iaload, 1) := dL_law_278_b.2.2.2.1
theorem dL_law_282 : decode cL_law 282 = .ok (.aload_n 0, 1) := dL_law_278_b.2.2.2.2.1
theorem dL_law_283 : decode cL_law 283 = .ok (.iload_n 3, 1) := dL_law_278_b.2.2.2.2.2.1
theorem dL_law_284 : decode cL_law 284 = .ok (.iconst 4, 1) := dL_law_278_b.2.2.2.2.2.2.1
theorem dL_law_285 : decode cL_law 285 = .ok (.iadd, 1) := dL_law_278_b.2.2.2.2.2.2.2.1
theorem dL_law_286 : decode cL_law 286 = .ok (.iaload, 1) := dL_law_278_b.2.2.2.2.2.2.2.2.1
theorem dL_law_287 : decode cL_law 287 = .ok (.aload_n 0, 1) := dL_law_278_b.2.2.2.2.2.2.2.2.2.1
theorem dL_law_288 : decode cL_law 288 = .ok (.iload_n 3, 1) := dL_law_278_b.2.2.2.2.2.2.2.2.2.2.1
theorem dL_law_289 : decode cL_law 289 = .ok (.iconst 5, 1) := dL_law_278_b.2.2.2.2.2.2.2.2.2.2.2
theorem dL_law_290_b : (decode cL_law 290 = .ok (.iadd, 1)) ∧ (decode cL_law 291 = .ok (.iaload, 1)) ∧ (decode cL_law 292 = .ok (.invokevirtual 22, 3)) ∧ (decode cL_law 295 = .ok (.pop, 1)) ∧ (decode cL_law 296 = .ok (.aload_n 2, 1)) ∧ (decode cL_law 297 = .ok (.aload_n 0, 1)) ∧ (decode cL_law 298 = .ok (.iload_n 3, 1)) ∧ (decode cL_law 299 = .ok (.iconst 1, 1)) ∧ (decode cL_law 300 = .ok (.iadd, 1)) ∧ (decode cL_law 301 = .ok (.iaload, 1)) ∧ (decode cL_law 302 = .ok (.aload_n 0, 1)) ∧ (decode cL_law 303 = .ok (.iload_n 3, 1)) := by decide +kernel
theorem dL_law_290 : decode cL_law 290 = .ok (.iadd, 1) := dL_law_290_b.1
theorem dL_law_291 : decode cL_law 291 = .ok (.iaload, 1) := dL_law_290_b.2.1
theorem dL_law_292 : decode cL_law 292 = .ok (.invokevirtual 22, 3) := dL_law_290_b.2.2.1
theorem dL_law_295 : decode cL_law 295 = .ok (.pop, 1) := dL_law_290_b.2.2.2.1
theorem dL_law_296 : decode cL_law 296 = .ok (.aload_n 2, 1) := dL_law_290_b.2.2.2.2.1
theorem dL_law_297 : decode cL_law 297 = .ok (.aload_n 0, 1) := dL_law_290_b.2.2.2.2.2.1
theorem dL_law_298 : decode cL_law 298 = .ok (.iload_n 3, 1) := dL_law_290_b.2.2.2.2.2.2.1
theorem dL_law_299 : decode cL_law 299 = .ok (.iconst 1, 1) := dL_law_290_b.2.2.2.2.2.2.2.1
theorem dL_law_300 : decode cL_law 300 = .ok (.iadd, 1) := dL_law_290_b.2.2.2.2.2.2.2.2.1
theorem dL_law_301 : decode cL_law 301 = .ok (.iaload, 1) := dL_law_290_b.2.2.2.2.2.2.2.2.2.1
theorem dL_law_302 : decode cL_law 302 = .ok (.aload_n 0, 1) := dL_law_290_b.2.2.2.2.2.2.2.2.2.2.1
theorem dL_law_303 : decode cL_law 303 = .ok (.iload_n 3, 1) := dL_law_290_b.2.2.2.2.2.2.2.2.2.2.2
theorem dL_law_304_b : (decode cL_law 304 = .ok (.iconst 2, 1)) ∧ (decode cL_law 305 = .ok (.iadd, 1)) ∧ (decode cL_law 306 = .ok (.iaload, 1)) ∧ (decode cL_law 307 = .ok (.aload_n 0, 1)) ∧ (decode cL_law 308 = .ok (.iload_n 3, 1)) ∧ (decode cL_law 309 = .ok (.iconst 3, 1)) ∧ (decode cL_law 310 = .ok (.iadd, 1)) ∧ (decode cL_law 311 = .ok (.iaload, 1)) ∧ (decode cL_law 312 = .ok (.aload_n 0, 1)) ∧ (decode cL_law 313 = .ok (.iload_n 3, 1)) ∧ (decode cL_law 314 = .ok (.iconst 4, 1)) ∧ (decode cL_law 315 = .ok (.iadd, 1)) := by decide +kernel
theorem dL_law_304 : decode cL_law 304 = .ok (.iconst 2, 1) := dL_law_304_b.1
theorem dL_law_305 : decode cL_law 305 = .ok (.iadd, 1) := dL_law_304_b.2.1
theorem dL_law_306 : decode cL_law 306 = .ok (.iaload, 1) := dL_law_304_b.2.2.1
theorem dL_law_307 : decode cL_law 307 = .ok (.aload_n 0, 1) := dL_law_304_b.2.2.2.1
theorem dL_law_308 : decode cL_law 308 = .ok (.iload_n 3, 1) := dL_law_304_b.2.2.2.2.1
theorem dL_law_309 : decode cL_law 309 = .ok (.iconst 3, 1) := dL_law_304_b.2.2.2.2.2.1
theorem dL_law_310 : decode cL_law 310 = .ok (.iadd, 1) := dL_law_304_b.2.2.2.2.2.2.1
theorem dL_law_311 : decode cL_law 311 = .ok (.iaload, 1) := dL_law_304_b.2.2.2.2.2.2.2.1
theorem dL_law_312 : decode cL_law 312 = .ok (.aload_n 0, 1) := dL_law_304_b.2.2.2.2.2.2.2.2.1
theorem dL_law_313 : decode cL_law 313 = .ok (.iload_n 3, 1) := dL_law_304_b.2.2.2.2.2.2.2.2.2.1
theorem dL_law_314 : decode cL_law 314 = .ok (.iconst 4, 1) := dL_law_304_b.2.2.2.2.2.2.2.2.2.2.1
theorem dL_law_315 : decode cL_law 315 = .ok (.iadd, 1) := dL_law_304_b.2.2.2.2.2.2.2.2.2.2.2
theorem dL_law_316_b : (decode cL_law 316 = .ok (.iaload, 1)) ∧ (decode cL_law 317 = .ok (.aload_n 0, 1)) ∧ (decode cL_law 318 = .ok (.iload_n 3, 1)) ∧ (decode cL_law 319 = .ok (.iconst 5, 1)) ∧ (decode cL_law 320 = .ok (.iadd, 1)) ∧ (decode cL_law 321 = .ok (.iaload, 1)) ∧ (decode cL_law 322 = .ok (.invokevirtual 26, 3)) ∧ (decode cL_law 325 = .ok (.pop, 1)) ∧ (decode cL_law 326 = .ok (.goto 833, 3)) ∧ (decode cL_law 329 = .ok (.aload_n 1, 1)) ∧ (decode cL_law 330 = .ok (.aload_n 0, 1)) ∧ (decode cL_law 331 = .ok (.iload_n 3, 1)) := by decide +kernel
theorem dL_law_316 : decode cL_law 316 = .ok (.iaload, 1) := dL_law_316_b.1
theorem dL_law_317 : decode cL_law 317 = .ok (.aload_n 0, 1) := dL_law_316_b.2.1
theorem dL_law_318 : decode cL_law 318 = .ok (.iload_n 3, 1) := dL_law_316_b.2.2.1
theorem dL_law_319 : decode cL_law 319 = .ok (.iconst 5, 1) := dL_law_316_b.2.2.2.1
theorem dL_law_320 : decode cL_law 320 = .ok (.iadd, 1) := dL_law_316_b.2.2.2.2.1
theorem dL_law_321 : decode cL_law 321 = .ok (.iaload, 1) := dL_law_316_b.2.2.2.2.2.1
theorem dL_law_322 : decode cL_law 322 = .ok (.invokevirtual 26, 3) := dL_law_316_b.2.2.2.2.2.2.1
theorem dL_law_325 : decode cL_law 325 = .ok (.pop, 1) := dL_law_316_b.2.2.2.2.2.2.2.1
theorem dL_law_326 : decode cL_law 326 = .ok (.goto 833, 3) := dL_law_316_b.2.2.2.2.2.2.2.2.1
theorem dL_law_329 : decode cL_law 329 = .ok (.aload_n 1, 1) := dL_law_316_b.2.2.2.2.2.2.2.2.2.1
theorem dL_law_330 : decode cL_law 330 = .ok (.aload_n 0, 1) := dL_law_316_b.2.2.2.2.2.2.2.2.2.2.1
theorem dL_law_331 : decode cL_law 331 = .ok (.iload_n 3, 1) := dL_law_316_b.2.2.2.2.2.2.2.2.2.2.2
theorem dL_law_332_b : (decode cL_law 332 = .ok (.iconst 1, 1)) ∧ (decode cL_law 333 = .ok (.iadd, 1)) ∧ (decode cL_law 334 = .ok (.iaload, 1)) ∧ (decode cL_law 335 = .ok (.invokevirtual 27, 3)) ∧ (decode cL_law 338 = .ok (.pop, 1)) ∧ (decode cL_law 339 = .ok (.aload_n 2, 1)) ∧ (decode cL_law 340 = .ok (.aload_n 0, 1)) ∧ (decode cL_law 341 = .ok (.iload_n 3, 1)) ∧ (decode cL_law 342 = .ok (.iconst 1, 1)) ∧ (decode cL_law 343 = .ok (.iadd, 1)) ∧ (decode cL_law 344 = .ok (.iaload, 1)) ∧ (decode cL_law 345 = .ok (.invokevirtual 31, 3)) := by decide +kernel
theorem dL_law_332 : decode cL_law 332 = .ok (.iconst 1, 1) := dL_law_332_b.1
theorem dL_law_333 : decode cL_law 333 = .ok (.iadd, 1) := dL_law_332_b.2.1
theorem dL_law_334 : decode cL_law 334 = .ok (.iaload, 1) := dL_law_332_b.2.2.1
theorem dL_law_335 : decode cL_law 335 = .ok (.invokevirtual 27, 3) := dL_law_332_b.2.2.2.1
theorem dL_law_338 : decode cL_law 338 = .ok (.pop, 1) := dL_law_332_b.2.2.2.2.1
theorem dL_law_339 : decode cL_law 339 = .ok (.aload_n 2, 1) := dL_law_332_b.2.2.2.2.2.1
theorem dL_law_340 : decode cL_law 340 = .ok (.aload_n 0, 1) := dL_law_332_b.2.2.2.2.2.2.1
theorem dL_law_341 : decode cL_law 341 = .ok (.iload_n 3, 1) := dL_law_332_b.2.2.2.2.2.2.2.1
theorem dL_law_342 : decode cL_law 342 = .ok (.iconst 1, 1) := dL_law_332_b.2.2.2.2.2.2.2.2.1
theorem dL_law_343 : decode cL_law 343 = .ok (.iadd, 1) := dL_law_332_b.2.2.2.2.2.2.2.2.2.1
theorem dL_law_344 : decode cL_law 344 = .ok (.iaload, 1) := dL_law_332_b.2.2.2.2.2.2.2.2.2.2.1
theorem dL_law_345 : decode cL_law 345 = .ok (.invokevirtual 31, 3) := dL_law_332_b.2.2.2.2.2.2.2.2.2.2.2
theorem dL_law_348_b : (decode cL_law 348 = .ok (.pop, 1)) ∧ (decode cL_law 349 = .ok (.goto 810, 3)) ∧ (decode cL_law 352 = .ok (.aload_n 1, 1)) ∧ (decode cL_law 353 = .ok (.aload_n 0, 1)) ∧ (decode cL_law 354 = .ok (.iload_n 3, 1)) ∧ (decode cL_law 355 = .ok (.iconst 1, 1)) ∧ (decode cL_law 356 = .ok (.iadd, 1)) ∧ (decode cL_law 357 = .ok (.iaload, 1)) ∧ (decode cL_law 358 = .ok (.invokevirtual 32, 3)) ∧ (decode cL_law 361 = .ok (.pop, 1)) ∧ (decode cL_law 362 = .ok (.aload_n 2, 1)) ∧ (decode cL_law 363 = .ok (.aload_n 0, 1)) := by decide +kernel
theorem dL_law_348 : decode cL_law 348 = .ok (.pop, 1) := dL_law_348_b.1
theorem dL_law_349 : decode cL_law 349 = .ok (.goto 810, 3) := dL_law_348_b.2.1
theorem dL_law_352 : decode cL_law 352 = .ok (.aload_n 1, 1) := dL_law_348_b.2.2.1
theorem dL_law_353 : decode cL_law 353 = .ok (.aload_n 0, 1) := dL_law_348_b.2.2.2.1
theorem dL_law_354 : decode cL_law 354 = .ok (.iload_n 3, 1) := dL_law_348_b.2.2.2.2.1
theorem dL_law_355 : decode cL_law 355 = .ok (.iconst 1, 1) := dL_law_348_b.2.2.2.2.2.1
theorem dL_law_356 : decode cL_law 356 = .ok (.iadd, 1) := dL_law_348_b.2.2.2.2.2.2.1
theorem dL_law_357 : decode cL_law 357 = .ok (.iaload, 1) := dL_law_348_b.2.2.2.2.2.2.2.1
theorem dL_law_358 : decode cL_law 358 = .ok (.invokevirtual 32, 3) := dL_law_348_b.2.2.2.2.2.2.2.2.1
theorem dL_law_361 : decode cL_law 361 = .ok (.pop, 1) := dL_law_348_b.2.2.2.2.2.2.2.2.2.1
theorem dL_law_362 : decode cL_law 362 = .ok (.aload_n 2, 1) := dL_law_348_b.2.2.2.2.2.2.2.2.2.2.1
theorem dL_law_363 : decode cL_law 363 = .ok (.aload_n 0, 1) := dL_law_348_b.2.2.2.2.2.2.2.2.2.2.2
theorem dL_law_364_b : (decode cL_law 364 = .ok (.iload_n 3, 1)) ∧ (decode cL_law 365 = .ok (.iconst 1, 1)) ∧ (decode cL_law 366 = .ok (.iadd, 1)) ∧ (decode cL_law 367 = .ok (.iaload, 1)) ∧ (decode cL_law 368 = .ok (.invokevirtual 35, 3)) ∧ (decode cL_law 371 = .ok (.pop, 1)) ∧ (decode cL_law 372 = .ok (.goto 787, 3)) ∧ (decode cL_law 375 = .ok (.aload_n 1, 1)) ∧ (decode cL_law 376 = .ok (.invokevirtual 36, 3)) ∧ (decode cL_law 379 = .ok (.pop, 1)) ∧ (decode cL_law 380 = .ok (.aload_n 2, 1)) ∧ (decode cL_law 381 = .ok (.invokevirtual 40, 3)) := by decide +kernel
theorem dL_law_364 : decode cL_law 364 = .ok (.iload_n 3, 1) := dL_law_364_b.1
theorem dL_law_365 : decode cL_law 365 = .ok (.iconst 1, 1) := dL_law_364_b.2.1
theorem dL_law_366 : decode cL_law 366 = .ok (.iadd, 1) := dL_law_364_b.2.2.1
theorem dL_law_367 : decode cL_law 367 = .ok (.iaload, 1) := dL_law_364_b.2.2.2.1
theorem dL_law_368 : decode cL_law 368 = .ok (.invokevirtual 35, 3) := dL_law_364_b.2.2.2.2.1
theorem dL_law_371 : decode cL_law 371 = .ok (.pop, 1) := dL_law_364_b.2.2.2.2.2.1
theorem dL_law_372 : decode cL_law 372 = .ok (.goto 787, 3) := dL_law_364_b.2.2.2.2.2.2.1
theorem dL_law_375 : decode cL_law 375 = .ok (.aload_n 1, 1) := dL_law_364_b.2.2.2.2.2.2.2.1
theorem dL_law_376 : decode cL_law 376 = .ok (.invokevirtual 36, 3) := dL_law_364_b.2.2.2.2.2.2.2.2.1
theorem dL_law_379 : decode cL_law 379 = .ok (.pop, 1) := dL_law_364_b.2.2.2.2.2.2.2.2.2.1
theorem dL_law_380 : decode cL_law 380 = .ok (.aload_n 2, 1) := dL_law_364_b.2.2.2.2.2.2.2.2.2.2.1
theorem dL_law_381 : decode cL_law 381 = .ok (.invokevirtual 40, 3) := dL_law_364_b.2.2.2.2.2.2.2.2.2.2.2
theorem dL_law_384_b : (decode cL_law 384 = .ok (.pop, 1)) ∧ (decode cL_law 385 = .ok (.goto 774, 3)) ∧ (decode cL_law 388 = .ok (.aload_n 1, 1)) ∧ (decode cL_law 389 = .ok (.invokevirtual 41, 3)) ∧ (decode cL_law 392 = .ok (.pop, 1)) ∧ (decode cL_law 393 = .ok (.aload_n 2, 1)) ∧ (decode cL_law 394 = .ok (.invokevirtual 44, 3)) ∧ (decode cL_law 397 = .ok (.pop, 1)) ∧ (decode cL_law 398 = .ok (.goto 761, 3)) ∧ (decode cL_law 401 = .ok (.aload_n 1, 1)) ∧ (decode cL_law 402 = .ok (.aload_n 0, 1)) ∧ (decode cL_law 403 = .ok (.iload_n 3, 1)) := by decide +kernel
theorem dL_law_384 : decode cL_law 384 = .ok (.pop, 1) := dL_law_384_b.1
theorem dL_law_385 : decode cL_law 385 = .ok (.goto 774, 3) := dL_law_384_b.2.1
theorem dL_law_388 : decode cL_law 388 = .ok (.aload_n 1, 1) := dL_law_384_b.2.2.1
theorem dL_law_389 : decode cL_law 389 = .ok (.invokevirtual 41, 3) := dL_law_384_b.2.2.2.1
theorem dL_law_392 : decode cL_law 392 = .ok (.pop, 1) := dL_law_384_b.2.2.2.2.1
theorem dL_law_393 : decode cL_law 393 = .ok (.aload_n 2, 1) := dL_law_384_b.2.2.2.2.2.1
theorem dL_law_394 : decode cL_law 394 = .ok (.invokevirtual 44, 3) := dL_law_384_b.2.2.2.2.2.2.1
theorem dL_law_397 : decode cL_law 397 = .ok (.pop, 1) := dL_law_384_b.2.2.2.2.2.2.2.1
theorem dL_law_398 : decode cL_law 398 = .ok (.goto 761, 3) := dL_law_384_b.2.2.2.2.2.2.2.2.1
theorem dL_law_401 : decode cL_law 401 = .ok (.aload_n 1, 1) := dL_law_384_b.2.2.2.2.2.2.2.2.2.1
theorem dL_law_402 : decode cL_law 402 = .ok (.aload_n 0, 1) := dL_law_384_b.2.2.2.2.2.2.2.2.2.2.1
theorem dL_law_403 : decode cL_law 403 = .ok (.iload_n 3, 1) := dL_law_384_b.2.2.2.2.2.2.2.2.2.2.2
theorem dL_law_404_b : (decode cL_law 404 = .ok (.iconst 1, 1)) ∧ (decode cL_law 405 = .ok (.iadd, 1)) ∧ (decode cL_law 406 = .ok (.iaload, 1)) ∧ (decode cL_law 407 = .ok (.invokevirtual 45, 3)) ∧ (decode cL_law 410 = .ok (.pop, 1)) ∧ (decode cL_law 411 = .ok (.aload_n 2, 1)) ∧ (decode cL_law 412 = .ok (.aload_n 0, 1)) ∧ (decode cL_law 413 = .ok (.iload_n 3, 1)) ∧ (decode cL_law 414 = .ok (.iconst 1, 1)) ∧ (decode cL_law 415 = .ok (.iadd, 1)) ∧ (decode cL_law 416 = .ok (.iaload, 1)) ∧ (decode cL_law 417 = .ok (.invokevirtual 48, 3)) := by decide +kernel
theorem dL_law_404 : decode cL_law 404 = .ok (.iconst 1, 1) := dL_law_404_b.1
theorem dL_law_405 : decode cL_law 405 = .ok (.iadd, 1) := dL_law_404_b.2.1
theorem dL_law_406 : decode cL_law 406 = .ok (.iaload, 1) := dL_law_404_b.2.2.1
theorem dL_law_407 : decode cL_law 407 = .ok (.invokevirtual 45, 3) := dL_law_404_b.2.2.2.1
theorem dL_law_410 : decode cL_law 410 = .ok (.pop, 1) := dL_law_404_b.2.2.2.2.1
theorem dL_law_411 : decode cL_law 411 = .ok (.aload_n 2, 1) := dL_law_404_b.2.2.2.2.2.1
theorem dL_law_412 : decode cL_law 412 = .ok (.aload_n 0, 1) := dL_law_404_b.2.2.2.2.2.2.1
theorem dL_law_413 : decode cL_law 413 = .ok (.iload_n 3, 1) := dL_law_404_b.2.2.2.2.2.2.2.1
theorem dL_law_414 : decode cL_law 414 = .ok (.iconst 1, 1) := dL_law_404_b.2.2.2.2.2.2.2.2.1
theorem dL_law_415 : decode cL_law 415 = .ok (.iadd, 1) := dL_law_404_b.2.2.2.2.2.2.2.2.2.1
theorem dL_law_416 : decode cL_law 416 = .ok (.iaload, 1) := dL_law_404_b.2.2.2.2.2.2.2.2.2.2.1
theorem dL_law_417 : decode cL_law 417 = .ok (.invokevirtual 48, 3) := dL_law_404_b.2.2.2.2.2.2.2.2.2.2.2
theorem dL_law_420_b : (decode cL_law 420 = .ok (.pop, 1)) ∧ (decode cL_law 421 = .ok (.goto 738, 3)) ∧ (decode cL_law 424 = .ok (.aload_n 1, 1)) ∧ (decode cL_law 425 = .ok (.aload_n 0, 1)) ∧ (decode cL_law 426 = .ok (.iload_n 3, 1)) ∧ (decode cL_law 427 = .ok (.iconst 1, 1)) ∧ (decode cL_law 428 = .ok (.iadd, 1)) ∧ (decode cL_law 429 = .ok (.iaload, 1)) ∧ (decode cL_law 430 = .ok (.aload_n 0, 1)) ∧ (decode cL_law 431 = .ok (.iload_n 3, 1)) ∧ (decode cL_law 432 = .ok (.iconst 2, 1)) ∧ (decode cL_law 433 = .ok (.iadd, 1)) := by decide +kernel
theorem dL_law_420 : decode cL_law 420 = .ok (.pop, 1) := dL_law_420_b.1
theorem dL_law_421 : decode cL_law 421 = .ok (.goto 738, 3) := dL_law_420_b.2.1
theorem dL_law_424 : decode cL_law 424 = .ok (.aload_n 1, 1) := dL_law_420_b.2.2.1
theorem dL_law_425 : decode cL_law 425 = .ok (.aload_n 0, 1) := dL_law_420_b.2.2.2.1
theorem dL_law_426 : decode cL_law 426 = .ok (.iload_n 3, 1) := dL_law_420_b.2.2.2.2.1
theorem dL_law_427 : decode cL_law 427 = .ok (.iconst 1, 1) := dL_law_420_b.2.2.2.2.2.1
theorem dL_law_428 : decode cL_law 428 = .ok (.iadd, 1) := dL_law_420_b.2.2.2.2.2.2.1
theorem dL_law_429 : decode cL_law 429 = .ok (.iaload, 1) := dL_law_420_b.2.2.2.2.2.2.2.1
theorem dL_law_430 : decode cL_law 430 = .ok (.aload_n 0, 1) := dL_law_420_b.2.2.2.2.2.2.2.2.1
theorem dL_law_431 : decode cL_law 431 = .ok (.iload_n 3, 1) := dL_law_420_b.2.2.2.2.2.2.2.2.2.1
theorem dL_law_432 : decode cL_law 432 = .ok (.iconst 2, 1) := dL_law_420_b.2.2.2.2.2.2.2.2.2.2.1
theorem dL_law_433 : decode cL_law 433 = .ok (.iadd, 1) := dL_law_420_b.2.2.2.2.2.2.2.2.2.2.2
theorem dL_law_434_b : (decode cL_law 434 = .ok (.iaload, 1)) ∧ (decode cL_law 435 = .ok (.invokevirtual 49, 3)) ∧ (decode cL_law 438 = .ok (.pop, 1)) ∧ (decode cL_law 439 = .ok (.aload_n 2, 1)) ∧ (decode cL_law 440 = .ok (.aload_n 0, 1)) ∧ (decode cL_law 441 = .ok (.iload_n 3, 1)) ∧ (decode cL_law 442 = .ok (.iconst 1, 1)) ∧ (decode cL_law 443 = .ok (.iadd, 1)) ∧ (decode cL_law 444 = .ok (.iaload, 1)) ∧ (decode cL_law 445 = .ok (.aload_n 0, 1)) ∧ (decode cL_law 446 = .ok (.iload_n 3, 1)) ∧ (decode cL_law 447 = .ok (.iconst 2, 1)) := by decide +kernel
theorem dL_law_434 : decode cL_law 434 = .ok (.iaload, 1) := dL_law_434_b.1
theorem dL_law_435 : decode cL_law 435 = .ok (.invokevirtual 49, 3) := dL_law_434_b.2.1
theorem dL_law_438 : decode cL_law 438 = .ok (.pop, 1) := dL_law_434_b.2.2.1
theorem dL_law_439 : decode cL_law 439 = .ok (.aload_n 2, 1) := dL_law_434_b.2.2.2.1
theorem dL_law_440 : decode cL_law 440 = .ok (.aload_n 0, 1) := dL_law_434_b.2.2.2.2.1
theorem dL_law_441 : decode cL_law 441 = .ok (.iload_n 3, 1) := dL_law_434_b.2.2.2.2.2.1
theorem dL_law_442 : decode cL_law 442 = .ok (.iconst 1, 1) := dL_law_434_b.2.2.2.2.2.2.1
theorem dL_law_443 : decode cL_law 443 = .ok (.iadd, 1) := dL_law_434_b.2.2.2.2.2.2.2.1
theorem dL_law_444 : decode cL_law 444 = .ok (.iaload, 1) := dL_law_434_b.2.2.2.2.2.2.2.2.1
theorem dL_law_445 : decode cL_law 445 = .ok (.aload_n 0, 1) := dL_law_434_b.2.2.2.2.2.2.2.2.2.1
theorem dL_law_446 : decode cL_law 446 = .ok (.iload_n 3, 1) := dL_law_434_b.2.2.2.2.2.2.2.2.2.2.1
theorem dL_law_447 : decode cL_law 447 = .ok (.iconst 2, 1) := dL_law_434_b.2.2.2.2.2.2.2.2.2.2.2
theorem dL_law_448_b : (decode cL_law 448 = .ok (.iadd, 1)) ∧ (decode cL_law 449 = .ok (.iaload, 1)) ∧ (decode cL_law 450 = .ok (.invokevirtual 53, 3)) ∧ (decode cL_law 453 = .ok (.pop, 1)) ∧ (decode cL_law 454 = .ok (.goto 705, 3)) ∧ (decode cL_law 457 = .ok (.aload_n 1, 1)) ∧ (decode cL_law 458 = .ok (.aload_n 0, 1)) ∧ (decode cL_law 459 = .ok (.iload_n 3, 1)) ∧ (decode cL_law 460 = .ok (.iconst 1, 1)) ∧ (decode cL_law 461 = .ok (.iadd, 1)) ∧ (decode cL_law 462 = .ok (.iaload, 1)) ∧ (decode cL_law 463 = .ok (.aload_n 0, 1)) := by decide +kernel
theorem dL_law_448 : decode cL_law 448 = .ok (.iadd, 1) := dL_law_448_b.1
theorem dL_law_449 : decode cL_law 449 = .ok (.iaload, 1) := dL_law_448_b.2.1
theorem dL_law_450 : decode cL_law 450 = .ok (.invokevirtual 53, 3) := dL_law_448_b.2.2.1
theorem dL_law_453 : decode cL_law 453 = .ok (.pop, 1) := dL_law_448_b.2.2.2.1
theorem dL_law_454 : decode cL_law 454 = .ok (.goto 705, 3) := dL_law_448_b.2.2.2.2.1
theorem dL_law_457 : decode cL_law 457 = .ok (.aload_n 1, 1) := dL_law_448_b.2.2.2.2.2.1
theorem dL_law_458 : decode cL_law 458 = .ok (.aload_n 0, 1) := dL_law_448_b.2.2.2.2.2.2.1
theorem dL_law_459 : decode cL_law 459 = .ok (.iload_n 3, 1) := dL_law_448_b.2.2.2.2.2.2.2.1
theorem dL_law_460 : decode cL_law 460 = .ok (.iconst 1, 1) := dL_law_448_b.2.2.2.2.2.2.2.2.1
theorem dL_law_461 : decode cL_law 461 = .ok (.iadd, 1) := dL_law_448_b.2.2.2.2.2.2.2.2.2.1
theorem dL_law_462 : decode cL_law 462 = .ok (.iaload, 1) := dL_law_448_b.2.2.2.2.2.2.2.2.2.2.1
theorem dL_law_463 : decode cL_law 463 = .ok (.aload_n 0, 1) := dL_law_448_b.2.2.2.2.2.2.2.2.2.2.2
theorem dL_law_464_b : (decode cL_law 464 = .ok (.iload_n 3, 1)) ∧ (decode cL_law 465 = .ok (.iconst 2, 1)) ∧ (decode cL_law 466 = .ok (.iadd, 1)) ∧ (decode cL_law 467 = .ok (.iaload, 1)) ∧ (decode cL_law 468 = .ok (.invokevirtual 54, 3)) ∧ (decode cL_law 471 = .ok (.pop, 1)) ∧ (decode cL_law 472 = .ok (.aload_n 2, 1)) ∧ (decode cL_law 473 = .ok (.aload_n 0, 1)) ∧ (decode cL_law 474 = .ok (.iload_n 3, 1)) ∧ (decode cL_law 475 = .ok (.iconst 1, 1)) ∧ (decode cL_law 476 = .ok (.iadd, 1)) ∧ (decode cL_law 477 = .ok (.iaload, 1)) := by decide +kernel
theorem dL_law_464 : decode cL_law 464 = .ok (.iload_n 3, 1) := dL_law_464_b.1
theorem dL_law_465 : decode cL_law 465 = .ok (.iconst 2, 1) := dL_law_464_b.2.1
theorem dL_law_466 : decode cL_law 466 = .ok (.iadd, 1) := dL_law_464_b.2.2.1
theorem dL_law_467 : decode cL_law 467 = .ok (.iaload, 1) := dL_law_464_b.2.2.2.1
theorem dL_law_468 : decode cL_law 468 = .ok (.invokevirtual 54, 3) := dL_law_464_b.2.2.2.2.1
theorem dL_law_471 : decode cL_law 471 = .ok (.pop, 1) := dL_law_464_b.2.2.2.2.2.1
theorem dL_law_472 : decode cL_law 472 = .ok (.aload_n 2, 1) := dL_law_464_b.2.2.2.2.2.2.1
theorem dL_law_473 : decode cL_law 473 = .ok (.aload_n 0, 1) := dL_law_464_b.2.2.2.2.2.2.2.1
theorem dL_law_474 : decode cL_law 474 = .ok (.iload_n 3, 1) := dL_law_464_b.2.2.2.2.2.2.2.2.1
theorem dL_law_475 : decode cL_law 475 = .ok (.iconst 1, 1) := dL_law_464_b.2.2.2.2.2.2.2.2.2.1
theorem dL_law_476 : decode cL_law 476 = .ok (.iadd, 1) := dL_law_464_b.2.2.2.2.2.2.2.2.2.2.1
theorem dL_law_477 : decode cL_law 477 = .ok (.iaload, 1) := dL_law_464_b.2.2.2.2.2.2.2.2.2.2.2
theorem dL_law_478_b : (decode cL_law 478 = .ok (.aload_n 0, 1)) ∧ (decode cL_law 479 = .ok (.iload_n 3, 1)) ∧ (decode cL_law 480 = .ok (.iconst 2, 1)) ∧ (decode cL_law 481 = .ok (.iadd, 1)) ∧ (decode cL_law 482 = .ok (.iaload, 1)) ∧ (decode cL_law 483 = .ok (.invokevirtual 57, 3)) ∧ (decode cL_law 486 = .ok (.pop, 1)) ∧ (decode cL_law 487 = .ok (.goto 672, 3)) ∧ (decode cL_law 490 = .ok (.aload_n 1, 1)) ∧ (decode cL_law 491 = .ok (.aload_n 0, 1)) ∧ (decode cL_law 492 = .ok (.iload_n 3, 1)) ∧ (decode cL_law 493 = .ok (.iconst 1, 1)) := by decide +kernel
theorem dL_law_478 : decode cL_law 478 = .ok (.aload_n 0, 1) := dL_law_478_b.1
theorem dL_law_479 : decode cL_law 479 = .ok (.iload_n 3, 1) := dL_law_478_b.2.1
theorem dL_law_480 : decode cL_law 480 = .ok (.iconst 2, 1) := dL_law_478_b.2.2.1
theorem dL_law_481 : decode cL_law 481 = .ok (.iadd, 1) := dL_law_478_b.2.2.2.1
theorem dL_law_482 : decode cL_law 482 = .ok (.iaload, 1) := dL_law_478_b.2.2.2.2.1
theorem dL_law_483 : decode cL_law 483 = .ok (.invokevirtual 57, 3) := dL_law_478_b.2.2.2.2.2.1
theorem dL_law_486 : decode cL_law 486 = .ok (.pop, 1) := dL_law_478_b.2.2.2.2.2.2.1
theorem dL_law_487 : decode cL_law 487 = .ok (.goto 672, 3) := dL_law_478_b.2.2.2.2.2.2.2.1
theorem dL_law_490 : decode cL_law 490 = .ok (.aload_n 1, 1) := dL_law_478_b.2.2.2.2.2.2.2.2.1
theorem dL_law_491 : decode cL_law 491 = .ok (.aload_n 0, 1) := dL_law_478_b.2.2.2.2.2.2.2.2.2.1
theorem dL_law_492 : decode cL_law 492 = .ok (.iload_n 3, 1) := dL_law_478_b.2.2.2.2.2.2.2.2.2.2.1
theorem dL_law_493 : decode cL_law 493 = .ok (.iconst 1, 1) := dL_law_478_b.2.2.2.2.2.2.2.2.2.2.2
theorem dL_law_494_b : (decode cL_law 494 = .ok (.iadd, 1)) ∧ (decode cL_law 495 = .ok (.iaload, 1)) ∧ (decode cL_law 496 = .ok (.invokevirtual 58, 3)) ∧ (decode cL_law 499 = .ok (.pop, 1)) ∧ (decode cL_law 500 = .ok (.aload_n 2, 1)) ∧ (decode cL_law 501 = .ok (.aload_n 0, 1)) ∧ (decode cL_law 502 = .ok (.iload_n 3, 1)) ∧ (decode cL_law 503 = .ok (.iconst 1, 1)) ∧ (decode cL_law 504 = .ok (.iadd, 1)) ∧ (decode cL_law 505 = .ok (.iaload, 1)) ∧ (decode cL_law 506 = .ok (.invokevirtual 61, 3)) ∧ (decode cL_law 509 = .ok (.pop, 1)) := by decide +kernel
theorem dL_law_494 : decode cL_law 494 = .ok (.iadd, 1) := dL_law_494_b.1
theorem dL_law_495 : decode cL_law 495 = .ok (.iaload, 1) := dL_law_494_b.2.1
theorem dL_law_496 : decode cL_law 496 = .ok (.invokevirtual 58, 3) := dL_law_494_b.2.2.1
theorem dL_law_499 : decode cL_law 499 = .ok (.pop, 1) := dL_law_494_b.2.2.2.1
theorem dL_law_500 : decode cL_law 500 = .ok (.aload_n 2, 1) := dL_law_494_b.2.2.2.2.1
theorem dL_law_501 : decode cL_law 501 = .ok (.aload_n 0, 1) := dL_law_494_b.2.2.2.2.2.1
theorem dL_law_502 : decode cL_law 502 = .ok (.iload_n 3, 1) := dL_law_494_b.2.2.2.2.2.2.1
theorem dL_law_503 : decode cL_law 503 = .ok (.iconst 1, 1) := dL_law_494_b.2.2.2.2.2.2.2.1
theorem dL_law_504 : decode cL_law 504 = .ok (.iadd, 1) := dL_law_494_b.2.2.2.2.2.2.2.2.1
theorem dL_law_505 : decode cL_law 505 = .ok (.iaload, 1) := dL_law_494_b.2.2.2.2.2.2.2.2.2.1
theorem dL_law_506 : decode cL_law 506 = .ok (.invokevirtual 61, 3) := dL_law_494_b.2.2.2.2.2.2.2.2.2.2.1
theorem dL_law_509 : decode cL_law 509 = .ok (.pop, 1) := dL_law_494_b.2.2.2.2.2.2.2.2.2.2.2
theorem dL_law_510_b : (decode cL_law 510 = .ok (.goto 649, 3)) ∧ (decode cL_law 513 = .ok (.aload_n 1, 1)) ∧ (decode cL_law 514 = .ok (.invokevirtual 62, 3)) ∧ (decode cL_law 517 = .ok (.pop, 1)) ∧ (decode cL_law 518 = .ok (.aload_n 2, 1)) ∧ (decode cL_law 519 = .ok (.invokevirtual 65, 3)) ∧ (decode cL_law 522 = .ok (.pop, 1)) ∧ (decode cL_law 523 = .ok (.goto 636, 3)) ∧ (decode cL_law 526 = .ok (.aload_n 1, 1)) ∧ (decode cL_law 527 = .ok (.aload_n 0, 1)) ∧ (decode cL_law 528 = .ok (.iload_n 3, 1)) ∧ (decode cL_law 529 = .ok (.iconst 1, 1)) := by decide +kernel
theorem dL_law_510 : decode cL_law 510 = .ok (.goto 649, 3) := dL_law_510_b.1
theorem dL_law_513 : decode cL_law 513 = .ok (.aload_n 1, 1) := dL_law_510_b.2.1
theorem dL_law_514 : decode cL_law 514 = .ok (.invokevirtual 62, 3) := dL_law_510_b.2.2.1
theorem dL_law_517 : decode cL_law 517 = .ok (.pop, 1) := dL_law_510_b.2.2.2.1
theorem dL_law_518 : decode cL_law 518 = .ok (.aload_n 2, 1) := dL_law_510_b.2.2.2.2.1
theorem dL_law_519 : decode cL_law 519 = .ok (.invokevirtual 65, 3) := dL_law_510_b.2.2.2.2.2.1
theorem dL_law_522 : decode cL_law 522 = .ok (.pop, 1) := dL_law_510_b.2.2.2.2.2.2.1
theorem dL_law_523 : decode cL_law 523 = .ok (.goto 636, 3) := dL_law_510_b.2.2.2.2.2.2.2.1
theorem dL_law_526 : decode cL_law 526 = .ok (.aload_n 1, 1) := dL_law_510_b.2.2.2.2.2.2.2.2.1
theorem dL_law_527 : decode cL_law 527 = .ok (.aload_n 0, 1) := dL_law_510_b.2.2.2.2.2.2.2.2.2.1
theorem dL_law_528 : decode cL_law 528 = .ok (.iload_n 3, 1) := dL_law_510_b.2.2.2.2.2.2.2.2.2.2.1
theorem dL_law_529 : decode cL_law 529 = .ok (.iconst 1, 1) := dL_law_510_b.2.2.2.2.2.2.2.2.2.2.2
theorem dL_law_530_b : (decode cL_law 530 = .ok (.iadd, 1)) ∧ (decode cL_law 531 = .ok (.iaload, 1)) ∧ (decode cL_law 532 = .ok (.aload_n 0, 1)) ∧ (decode cL_law 533 = .ok (.iload_n 3, 1)) ∧ (decode cL_law 534 = .ok (.iconst 2, 1)) ∧ (decode cL_law 535 = .ok (.iadd, 1)) ∧ (decode cL_law 536 = .ok (.iaload, 1)) ∧ (decode cL_law 537 = .ok (.invokevirtual 66, 3)) ∧ (decode cL_law 540 = .ok (.pop, 1)) ∧ (decode cL_law 541 = .ok (.aload_n 2, 1)) ∧ (decode cL_law 542 = .ok (.aload_n 0, 1)) ∧ (decode cL_law 543 = .ok (.iload_n 3, 1)) := by decide +kernel
theorem dL_law_530 : decode cL_law 530 = .ok (.iadd, 1) := dL_law_530_b.1
theorem dL_law_531 : decode cL_law 531 = .ok (.iaload, 1) := dL_law_530_b.2.1
theorem dL_law_532 : decode cL_law 532 = .ok (.aload_n 0, 1) := dL_law_530_b.2.2.1
theorem dL_law_533 : decode cL_law 533 = .ok (.iload_n 3, 1) := dL_law_530_b.2.2.2.1
theorem dL_law_534 : decode cL_law 534 = .ok (.iconst 2, 1) := dL_law_530_b.2.2.2.2.1
theorem dL_law_535 : decode cL_law 535 = .ok (.iadd, 1) := dL_law_530_b.2.2.2.2.2.1
theorem dL_law_536 : decode cL_law 536 = .ok (.iaload, 1) := dL_law_530_b.2.2.2.2.2.2.1
theorem dL_law_537 : decode cL_law 537 = .ok (.invokevirtual 66, 3) := dL_law_530_b.2.2.2.2.2.2.2.1
theorem dL_law_540 : decode cL_law 540 = .ok (.pop, 1) := dL_law_530_b.2.2.2.2.2.2.2.2.1
theorem dL_law_541 : decode cL_law 541 = .ok (.aload_n 2, 1) := dL_law_530_b.2.2.2.2.2.2.2.2.2.1
theorem dL_law_542 : decode cL_law 542 = .ok (.aload_n 0, 1) := dL_law_530_b.2.2.2.2.2.2.2.2.2.2.1
theorem dL_law_543 : decode cL_law 543 = .ok (.iload_n 3, 1) := dL_law_530_b.2.2.2.2.2.2.2.2.2.2.2
theorem dL_law_544_b : (decode cL_law 544 = .ok (.iconst 1, 1)) ∧ (decode cL_law 545 = .ok (.iadd, 1)) ∧ (decode cL_law 546 = .ok (.iaload, 1)) ∧ (decode cL_law 547 = .ok (.aload_n 0, 1)) ∧ (decode cL_law 548 = .ok (.iload_n 3, 1)) ∧ (decode cL_law 549 = .ok (.iconst 2, 1)) ∧ (decode cL_law 550 = .ok (.iadd, 1)) ∧ (decode cL_law 551 = .ok (.iaload, 1)) ∧ (decode cL_law 552 = .ok (.invokevirtual 69, 3)) ∧ (decode cL_law 555 = .ok (.pop, 1)) ∧ (decode cL_law 556 = .ok (.goto 603, 3)) ∧ (decode cL_law 559 = .ok (.aload_n 1, 1)) := by decide +kernel
theorem dL_law_544 : decode cL_law 544 = .ok (.iconst 1, 1) := dL_law_544_b.1
theorem dL_law_545 : decode cL_law 545 = .ok (.iadd, 1) := dL_law_544_b.2.1
theorem dL_law_546 : decode cL_law 546 = .ok (.iaload, 1) := dL_law_544_b.2.2.1
theorem dL_law_547 : decode cL_law 547 = .ok (.aload_n 0, 1) := dL_law_544_b.2.2.2.1
theorem dL_law_548 : decode cL_law 548 = .ok (.iload_n 3, 1) := dL_law_544_b.2.2.2.2.1
theorem dL_law_549 : decode cL_law 549 = .ok (.iconst 2, 1) := dL_law_544_b.2.2.2.2.2.1
theorem dL_law_550 : decode cL_law 550 = .ok (.iadd, 1) := dL_law_544_b.2.2.2.2.2.2.1
theorem dL_law_551 : decode cL_law 551 = .ok (.iaload, 1) := dL_law_544_b.2.2.2.2.2.2.2.1
theorem dL_law_552 : decode cL_law 552 = .ok (.invokevirtual 69, 3) := dL_law_544_b.2.2.2.2.2.2.2.2.1
theorem dL_law_555 : decode cL_law 555 = .ok (.pop, 1) := dL_law_544_b.2.2.2.2.2.2.2.2.2.1
theorem dL_law_556 : decode cL_law 556 = .ok (.goto 603, 3) := dL_law_544_b.2.2.2.2.2.2.2.2.2.2.1
theorem dL_law_559 : decode cL_law 559 = .ok (.aload_n 1, 1) := dL_law_544_b.2.2.2.2.2.2.2.2.2.2.2
theorem dL_law_560_b : (decode cL_law 560 = .ok (.aload_n 0, 1)) ∧ (decode cL_law 561 = .ok (.iload_n 3, 1)) ∧ (decode cL_law 562 = .ok (.iconst 1, 1)) ∧ (decode cL_law 563 = .ok (.iadd, 1)) ∧ (decode cL_law 564 = .ok (.iaload, 1)) ∧ (decode cL_law 565 = .ok (.invokevirtual 70, 3)) ∧ (decode cL_law 568 = .ok (.pop, 1)) ∧ (decode cL_law 569 = .ok (.aload_n 2, 1)) ∧ (decode cL_law 570 = .ok (.aload_n 0, 1)) ∧ (decode cL_law 571 = .ok (.iload_n 3, 1)) ∧ (decode cL_law 572 = .ok (.iconst 1, 1)) ∧ (decode cL_law 573 = .ok (.iadd, 1)) := by decide +kernel
theorem dL_law_560 : decode cL_law 560 = .ok (.aload_n 0, 1) := dL_law_560_b.1
theorem dL_law_561 : decode cL_law 561 = .ok (.iload_n 3, 1) := dL_law_560_b.2.1
theorem dL_law_562 : decode cL_law 562 = .ok (.iconst 1, 1) := dL_law_560_b.2.2.1
theorem dL_law_563 : decode cL_law 563 = .ok (.iadd, 1) := dL_law_560_b.2.2.2.1
theorem dL_law_564 : decode cL_law 564 = .ok (.iaload, 1) := dL_law_560_b.2.2.2.2.1
theorem dL_law_565 : decode cL_law 565 = .ok (.invokevirtual 70, 3) := dL_law_560_b.2.2.2.2.2.1
theorem dL_law_568 : decode cL_law 568 = .ok (.pop, 1) := dL_law_560_b.2.2.2.2.2.2.1
theorem dL_law_569 : decode cL_law 569 = .ok (.aload_n 2, 1) := dL_law_560_b.2.2.2.2.2.2.2.1
theorem dL_law_570 : decode cL_law 570 = .ok (.aload_n 0, 1) := dL_law_560_b.2.2.2.2.2.2.2.2.1
theorem dL_law_571 : decode cL_law 571 = .ok (.iload_n 3, 1) := dL_law_560_b.2.2.2.2.2.2.2.2.2.1
theorem dL_law_572 : decode cL_law 572 = .ok (.iconst 1, 1) := dL_law_560_b.2.2.2.2.2.2.2.2.2.2.1
theorem dL_law_573 : decode cL_law 573 = .ok (.iadd, 1) := dL_law_560_b.2.2.2.2.2.2.2.2.2.2.2
theorem dL_law_574_b : (decode cL_law 574 = .ok (.iaload, 1)) ∧ (decode cL_law 575 = .ok (.invokevirtual 73, 3)) ∧ (decode cL_law 578 = .ok (.pop, 1)) ∧ (decode cL_law 579 = .ok (.goto 580, 3)) ∧ (decode cL_law 582 = .ok (.aload_n 1, 1)) ∧ (decode cL_law 583 = .ok (.aload_n 0, 1)) ∧ (decode cL_law 584 = .ok (.iload_n 3, 1)) ∧ (decode cL_law 585 = .ok (.iconst 1, 1)) ∧ (decode cL_law 586 = .ok (.iadd, 1)) ∧ (decode cL_law 587 = .ok (.iaload, 1)) ∧ (decode cL_law 588 = .ok (.invokevirtual 74, 3)) ∧ (decode cL_law 591 = .ok (.pop, 1)) := by decide +kernel
theorem dL_law_574 : decode cL_law 574 = .ok (.iaload, 1) := dL_law_574_b.1
theorem dL_law_575 : decode cL_law 575 = .ok (.invokevirtual 73, 3) := dL_law_574_b.2.1
theorem dL_law_578 : decode cL_law 578 = .ok (.pop, 1) := dL_law_574_b.2.2.1
theorem dL_law_579 : decode cL_law 579 = .ok (.goto 580, 3) := dL_law_574_b.2.2.2.1
theorem dL_law_582 : decode cL_law 582 = .ok (.aload_n 1, 1) := dL_law_574_b.2.2.2.2.1
theorem dL_law_583 : decode cL_law 583 = .ok (.aload_n 0, 1) := dL_law_574_b.2.2.2.2.2.1
theorem dL_law_584 : decode cL_law 584 = .ok (.iload_n 3, 1) := dL_law_574_b.2.2.2.2.2.2.1
theorem dL_law_585 : decode cL_law 585 = .ok (.iconst 1, 1) := dL_law_574_b.2.2.2.2.2.2.2.1
theorem dL_law_586 : decode cL_law 586 = .ok (.iadd, 1) := dL_law_574_b.2.2.2.2.2.2.2.2.1
theorem dL_law_587 : decode cL_law 587 = .ok (.iaload, 1) := dL_law_574_b.2.2.2.2.2.2.2.2.2.1
theorem dL_law_588 : decode cL_law 588 = .ok (.invokevirtual 74, 3) := dL_law_574_b.2.2.2.2.2.2.2.2.2.2.1
theorem dL_law_591 : decode cL_law 591 = .ok (.pop, 1) := dL_law_574_b.2.2.2.2.2.2.2.2.2.2.2
theorem dL_law_592_b : (decode cL_law 592 = .ok (.aload_n 2, 1)) ∧ (decode cL_law 593 = .ok (.aload_n 0, 1)) ∧ (decode cL_law 594 = .ok (.iload_n 3, 1)) ∧ (decode cL_law 595 = .ok (.iconst 1, 1)) ∧ (decode cL_law 596 = .ok (.iadd, 1)) ∧ (decode cL_law 597 = .ok (.iaload, 1)) ∧ (decode cL_law 598 = .ok (.invokevirtual 77, 3)) ∧ (decode cL_law 601 = .ok (.pop, 1)) ∧ (decode cL_law 602 = .ok (.goto 557, 3)) ∧ (decode cL_law 605 = .ok (.aload_n 1, 1)) ∧ (decode cL_law 606 = .ok (.aload_n 0, 1)) ∧ (decode cL_law 607 = .ok (.iload_n 3, 1)) := by decide +kernel
theorem dL_law_592 : decode cL_law 592 = .ok (.aload_n 2, 1) := dL_law_592_b.1
theorem dL_law_593 : decode cL_law 593 = .ok (.aload_n 0, 1) := dL_law_592_b.2.1
theorem dL_law_594 : decode cL_law 594 = .ok (.iload_n 3, 1) := dL_law_592_b.2.2.1
theorem dL_law_595 : decode cL_law 595 = .ok (.iconst 1, 1) := dL_law_592_b.2.2.2.1
theorem dL_law_596 : decode cL_law 596 = .ok (.iadd, 1) := dL_law_592_b.2.2.2.2.1
theorem dL_law_597 : decode cL_law 597 = .ok (.iaload, 1) := dL_law_592_b.2.2.2.2.2.1
theorem dL_law_598 : decode cL_law 598 = .ok (.invokevirtual 77, 3) := dL_law_592_b.2.2.2.2.2.2.1
theorem dL_law_601 : decode cL_law 601 = .ok (.pop, 1) := dL_law_592_b.2.2.2.2.2.2.2.1
theorem dL_law_602 : decode cL_law 602 = .ok (.goto 557, 3) := dL_law_592_b.2.2.2.2.2.2.2.2.1
theorem dL_law_605 : decode cL_law 605 = .ok (.aload_n 1, 1) := dL_law_592_b.2.2.2.2.2.2.2.2.2.1
theorem dL_law_606 : decode cL_law 606 = .ok (.aload_n 0, 1) := dL_law_592_b.2.2.2.2.2.2.2.2.2.2.1
theorem dL_law_607 : decode cL_law 607 = .ok (.iload_n 3, 1) := dL_law_592_b.2.2.2.2.2.2.2.2.2.2.2
theorem dL_law_608_b : (decode cL_law 608 = .ok (.iconst 1, 1)) ∧ (decode cL_law 609 = .ok (.iadd, 1)) ∧ (decode cL_law 610 = .ok (.iaload, 1)) ∧ (decode cL_law 611 = .ok (.invokevirtual 78, 3)) ∧ (decode cL_law 614 = .ok (.pop, 1)) ∧ (decode cL_law 615 = .ok (.aload_n 2, 1)) ∧ (decode cL_law 616 = .ok (.aload_n 0, 1)) ∧ (decode cL_law 617 = .ok (.iload_n 3, 1)) ∧ (decode cL_law 618 = .ok (.iconst 1, 1)) ∧ (decode cL_law 619 = .ok (.iadd, 1)) ∧ (decode cL_law 620 = .ok (.iaload, 1)) ∧ (decode cL_law 621 = .ok (.invokevirtual 81, 3)) := by decide +kernel
theorem dL_law_608 : decode cL_law 608 = .ok (.iconst 1, 1) := dL_law_608_b.1
theorem dL_law_609 : decode cL_law 609 = .ok (.iadd, 1) := dL_law_608_b.2.1
theorem dL_law_610 : decode cL_law 610 = .ok (.iaload, 1) := dL_law_608_b.2.2.1
theorem dL_law_611 : decode cL_law 611 = .ok (.invokevirtual 78, 3) := dL_law_608_b.2.2.2.1
theorem dL_law_614 : decode cL_law 614 = .ok (.pop, 1) := dL_law_608_b.2.2.2.2.1
theorem dL_law_615 : decode cL_law 615 = .ok (.aload_n 2, 1) := dL_law_608_b.2.2.2.2.2.1
theorem dL_law_616 : decode cL_law 616 = .ok (.aload_n 0, 1) := dL_law_608_b.2.2.2.2.2.2.1
theorem dL_law_617 : decode cL_law 617 = .ok (.iload_n 3, 1) := dL_law_608_b.2.2.2.2.2.2.2.1
theorem dL_law_618 : decode cL_law 618 = .ok (.iconst 1, 1) := dL_law_608_b.2.2.2.2.2.2.2.2.1
theorem dL_law_619 : decode cL_law 619 = .ok (.iadd, 1) := dL_law_608_b.2.2.2.2.2.2.2.2.2.1
theorem dL_law_620 : decode cL_law 620 = .ok (.iaload, 1) := dL_law_608_b.2.2.2.2.2.2.2.2.2.2.1
theorem dL_law_621 : decode cL_law 621 = .ok (.invokevirtual 81, 3) := dL_law_608_b.2.2.2.2.2.2.2.2.2.2.2
theorem dL_law_624_b : (decode cL_law 624 = .ok (.pop, 1)) ∧ (decode cL_law 625 = .ok (.goto 534, 3)) ∧ (decode cL_law 628 = .ok (.aload_n 1, 1)) ∧ (decode cL_law 629 = .ok (.aload_n 0, 1)) ∧ (decode cL_law 630 = .ok (.iload_n 3, 1)) ∧ (decode cL_law 631 = .ok (.iconst 1, 1)) ∧ (decode cL_law 632 = .ok (.iadd, 1)) ∧ (decode cL_law 633 = .ok (.iaload, 1)) ∧ (decode cL_law 634 = .ok (.invokevirtual 82, 3)) ∧ (decode cL_law 637 = .ok (.pop, 1)) ∧ (decode cL_law 638 = .ok (.aload_n 2, 1)) ∧ (decode cL_law 639 = .ok (.aload_n 0, 1)) := by decide +kernel
theorem dL_law_624 : decode cL_law 624 = .ok (.pop, 1) := dL_law_624_b.1
theorem dL_law_625 : decode cL_law 625 = .ok (.goto 534, 3) := dL_law_624_b.2.1
theorem dL_law_628 : decode cL_law 628 = .ok (.aload_n 1, 1) := dL_law_624_b.2.2.1
theorem dL_law_629 : decode cL_law 629 = .ok (.aload_n 0, 1) := dL_law_624_b.2.2.2.1
theorem dL_law_630 : decode cL_law 630 = .ok (.iload_n 3, 1) := dL_law_624_b.2.2.2.2.1
theorem dL_law_631 : decode cL_law 631 = .ok (.iconst 1, 1) := dL_law_624_b.2.2.2.2.2.1
theorem dL_law_632 : decode cL_law 632 = .ok (.iadd, 1) := dL_law_624_b.2.2.2.2.2.2.1
theorem dL_law_633 : decode cL_law 633 = .ok (.iaload, 1) := dL_law_624_b.2.2.2.2.2.2.2.1
theorem dL_law_634 : decode cL_law 634 = .ok (.invokevirtual 82, 3) := dL_law_624_b.2.2.2.2.2.2.2.2.1
theorem dL_law_637 : decode cL_law 637 = .ok (.pop, 1) := dL_law_624_b.2.2.2.2.2.2.2.2.2.1
theorem dL_law_638 : decode cL_law 638 = .ok (.aload_n 2, 1) := dL_law_624_b.2.2.2.2.2.2.2.2.2.2.1
theorem dL_law_639 : decode cL_law 639 = .ok (.aload_n 0, 1) := dL_law_624_b.2.2.2.2.2.2.2.2.2.2.2
theorem dL_law_640_b : (decode cL_law 640 = .ok (.iload_n 3, 1)) ∧ (decode cL_law 641 = .ok (.iconst 1, 1)) ∧ (decode cL_law 642 = .ok (.iadd, 1)) ∧ (decode cL_law 643 = .ok (.iaload, 1)) ∧ (decode cL_law 644 = .ok (.invokevirtual 85, 3)) ∧ (decode cL_law 647 = .ok (.pop, 1)) ∧ (decode cL_law 648 = .ok (.goto 511, 3)) ∧ (decode cL_law 651 = .ok (.aload_n 1, 1)) ∧ (decode cL_law 652 = .ok (.invokevirtual 86, 3)) ∧ (decode cL_law 655 = .ok (.pop, 1)) ∧ (decode cL_law 656 = .ok (.aload_n 2, 1)) ∧ (decode cL_law 657 = .ok (.invokevirtual 89, 3)) := by decide +kernel
theorem dL_law_640 : decode cL_law 640 = .ok (.iload_n 3, 1) := dL_law_640_b.1
theorem dL_law_641 : decode cL_law 641 = .ok (.iconst 1, 1) := dL_law_640_b.2.1
theorem dL_law_642 : decode cL_law 642 = .ok (.iadd, 1) := dL_law_640_b.2.2.1
theorem dL_law_643 : decode cL_law 643 = .ok (.iaload, 1) := dL_law_640_b.2.2.2.1
theorem dL_law_644 : decode cL_law 644 = .ok (.invokevirtual 85, 3) := dL_law_640_b.2.2.2.2.1
theorem dL_law_647 : decode cL_law 647 = .ok (.pop, 1) := dL_law_640_b.2.2.2.2.2.1
theorem dL_law_648 : decode cL_law 648 = .ok (.goto 511, 3) := dL_law_640_b.2.2.2.2.2.2.1
theorem dL_law_651 : decode cL_law 651 = .ok (.aload_n 1, 1) := dL_law_640_b.2.2.2.2.2.2.2.1
theorem dL_law_652 : decode cL_law 652 = .ok (.invokevirtual 86, 3) := dL_law_640_b.2.2.2.2.2.2.2.2.1
theorem dL_law_655 : decode cL_law 655 = .ok (.pop, 1) := dL_law_640_b.2.2.2.2.2.2.2.2.2.1
theorem dL_law_656 : decode cL_law 656 = .ok (.aload_n 2, 1) := dL_law_640_b.2.2.2.2.2.2.2.2.2.2.1
theorem dL_law_657 : decode cL_law 657 = .ok (.invokevirtual 89, 3) := dL_law_640_b.2.2.2.2.2.2.2.2.2.2.2
theorem dL_law_660_b : (decode cL_law 660 = .ok (.pop, 1)) ∧ (decode cL_law 661 = .ok (.goto 498, 3)) ∧ (decode cL_law 664 = .ok (.aload_n 1, 1)) ∧ (decode cL_law 665 = .ok (.aload_n 0, 1)) ∧ (decode cL_law 666 = .ok (.iload_n 3, 1)) ∧ (decode cL_law 667 = .ok (.iconst 1, 1)) ∧ (decode cL_law 668 = .ok (.iadd, 1)) ∧ (decode cL_law 669 = .ok (.iaload, 1)) ∧ (decode cL_law 670 = .ok (.invokevirtual 90, 3)) ∧ (decode cL_law 673 = .ok (.pop, 1)) ∧ (decode cL_law 674 = .ok (.aload_n 2, 1)) ∧ (decode cL_law 675 = .ok (.aload_n 0, 1)) := by decide +kernel
theorem dL_law_660 : decode cL_law 660 = .ok (.pop, 1) := dL_law_660_b.1
theorem dL_law_661 : decode cL_law 661 = .ok (.goto 498, 3) := dL_law_660_b.2.1
theorem dL_law_664 : decode cL_law 664 = .ok (.aload_n 1, 1) := dL_law_660_b.2.2.1
theorem dL_law_665 : decode cL_law 665 = .ok (.aload_n 0, 1) := dL_law_660_b.2.2.2.1
theorem dL_law_666 : decode cL_law 666 = .ok (.iload_n 3, 1) := dL_law_660_b.2.2.2.2.1
theorem dL_law_667 : decode cL_law 667 = .ok (.iconst 1, 1) := dL_law_660_b.2.2.2.2.2.1
theorem dL_law_668 : decode cL_law 668 = .ok (.iadd, 1) := dL_law_660_b.2.2.2.2.2.2.1
theorem dL_law_669 : decode cL_law 669 = .ok (.iaload, 1) := dL_law_660_b.2.2.2.2.2.2.2.1
theorem dL_law_670 : decode cL_law 670 = .ok (.invokevirtual 90, 3) := dL_law_660_b.2.2.2.2.2.2.2.2.1
theorem dL_law_673 : decode cL_law 673 = .ok (.pop, 1) := dL_law_660_b.2.2.2.2.2.2.2.2.2.1
theorem dL_law_674 : decode cL_law 674 = .ok (.aload_n 2, 1) := dL_law_660_b.2.2.2.2.2.2.2.2.2.2.1
theorem dL_law_675 : decode cL_law 675 = .ok (.aload_n 0, 1) := dL_law_660_b.2.2.2.2.2.2.2.2.2.2.2
theorem dL_law_676_b : (decode cL_law 676 = .ok (.iload_n 3, 1)) ∧ (decode cL_law 677 = .ok (.iconst 1, 1)) ∧ (decode cL_law 678 = .ok (.iadd, 1)) ∧ (decode cL_law 679 = .ok (.iaload, 1)) ∧ (decode cL_law 680 = .ok (.invokevirtual 93, 3)) ∧ (decode cL_law 683 = .ok (.pop, 1)) ∧ (decode cL_law 684 = .ok (.goto 475, 3)) ∧ (decode cL_law 687 = .ok (.aload_n 1, 1)) ∧ (decode cL_law 688 = .ok (.aload_n 0, 1)) ∧ (decode cL_law 689 = .ok (.iload_n 3, 1)) ∧ (decode cL_law 690 = .ok (.iconst 1, 1)) ∧ (decode cL_law 691 = .ok (.iadd, 1)) := by decide +kernel
theorem dL_law_676 : decode cL_law 676 = .ok (.iload_n 3, 1) := dL_law_676_b.1
theorem dL_law_677 : decode cL_law 677 = .ok (.iconst 1, 1) := dL_law_676_b.2.1
theorem dL_law_678 : decode cL_law 678 = .ok (.iadd, 1) := dL_law_676_b.2.2.1
theorem dL_law_679 : decode cL_law 679 = .ok (.iaload, 1) := dL_law_676_b.2.2.2.1
theorem dL_law_680 : decode cL_law 680 = .ok (.invokevirtual 93, 3) := dL_law_676_b.2.2.2.2.1
theorem dL_law_683 : decode cL_law 683 = .ok (.pop, 1) := dL_law_676_b.2.2.2.2.2.1
theorem dL_law_684 : decode cL_law 684 = .ok (.goto 475, 3) := dL_law_676_b.2.2.2.2.2.2.1
theorem dL_law_687 : decode cL_law 687 = .ok (.aload_n 1, 1) := dL_law_676_b.2.2.2.2.2.2.2.1
theorem dL_law_688 : decode cL_law 688 = .ok (.aload_n 0, 1) := dL_law_676_b.2.2.2.2.2.2.2.2.1
theorem dL_law_689 : decode cL_law 689 = .ok (.iload_n 3, 1) := dL_law_676_b.2.2.2.2.2.2.2.2.2.1
theorem dL_law_690 : decode cL_law 690 = .ok (.iconst 1, 1) := dL_law_676_b.2.2.2.2.2.2.2.2.2.2.1
theorem dL_law_691 : decode cL_law 691 = .ok (.iadd, 1) := dL_law_676_b.2.2.2.2.2.2.2.2.2.2.2
theorem dL_law_692_b : (decode cL_law 692 = .ok (.iaload, 1)) ∧ (decode cL_law 693 = .ok (.aload_n 0, 1)) ∧ (decode cL_law 694 = .ok (.iload_n 3, 1)) ∧ (decode cL_law 695 = .ok (.iconst 2, 1)) ∧ (decode cL_law 696 = .ok (.iadd, 1)) ∧ (decode cL_law 697 = .ok (.iaload, 1)) ∧ (decode cL_law 698 = .ok (.aload_n 0, 1)) ∧ (decode cL_law 699 = .ok (.iload_n 3, 1)) ∧ (decode cL_law 700 = .ok (.iconst 3, 1)) ∧ (decode cL_law 701 = .ok (.iadd, 1)) ∧ (decode cL_law 702 = .ok (.iaload, 1)) ∧ (decode cL_law 703 = .ok (.invokevirtual 94, 3)) := by decide +kernel
theorem dL_law_692 : decode cL_law 692 = .ok (.iaload, 1) := dL_law_692_b.1
theorem dL_law_693 : decode cL_law 693 = .ok (.aload_n 0, 1) := dL_law_692_b.2.1
theorem dL_law_694 : decode cL_law 694 = .ok (.iload_n 3, 1) := dL_law_692_b.2.2.1
theorem dL_law_695 : decode cL_law 695 = .ok (.iconst 2, 1) := dL_law_692_b.2.2.2.1
theorem dL_law_696 : decode cL_law 696 = .ok (.iadd, 1) := dL_law_692_b.2.2.2.2.1
theorem dL_law_697 : decode cL_law 697 = .ok (.iaload, 1) := dL_law_692_b.2.2.2.2.2.1
theorem dL_law_698 : decode cL_law 698 = .ok (.aload_n 0, 1) := dL_law_692_b.2.2.2.2.2.2.1
theorem dL_law_699 : decode cL_law 699 = .ok (.iload_n 3, 1) := dL_law_692_b.2.2.2.2.2.2.2.1
theorem dL_law_700 : decode cL_law 700 = .ok (.iconst 3, 1) := dL_law_692_b.2.2.2.2.2.2.2.2.1
theorem dL_law_701 : decode cL_law 701 = .ok (.iadd, 1) := dL_law_692_b.2.2.2.2.2.2.2.2.2.1
theorem dL_law_702 : decode cL_law 702 = .ok (.iaload, 1) := dL_law_692_b.2.2.2.2.2.2.2.2.2.2.1
theorem dL_law_703 : decode cL_law 703 = .ok (.invokevirtual 94, 3) := dL_law_692_b.2.2.2.2.2.2.2.2.2.2.2
theorem dL_law_706_b : (decode cL_law 706 = .ok (.pop, 1)) ∧ (decode cL_law 707 = .ok (.aload_n 2, 1)) ∧ (decode cL_law 708 = .ok (.aload_n 0, 1)) ∧ (decode cL_law 709 = .ok (.iload_n 3, 1)) ∧ (decode cL_law 710 = .ok (.iconst 1, 1)) ∧ (decode cL_law 711 = .ok (.iadd, 1)) ∧ (decode cL_law 712 = .ok (.iaload, 1)) ∧ (decode cL_law 713 = .ok (.aload_n 0, 1)) ∧ (decode cL_law 714 = .ok (.iload_n 3, 1)) ∧ (decode cL_law 715 = .ok (.iconst 2, 1)) ∧ (decode cL_law 716 = .ok (.iadd, 1)) ∧ (decode cL_law 717 = .ok (.iaload, 1)) := by decide +kernel
theorem dL_law_706 : decode cL_law 706 = .ok (.pop, 1) := dL_law_706_b.1
theorem dL_law_707 : decode cL_law 707 = .ok (.aload_n 2, 1) := dL_law_706_b.2.1
theorem dL_law_708 : decode cL_law 708 = .ok (.aload_n 0, 1) := dL_law_706_b.2.2.1
theorem dL_law_709 : decode cL_law 709 = .ok (.iload_n 3, 1) := dL_law_706_b.2.2.2.1
theorem dL_law_710 : decode cL_law 710 = .ok (.iconst 1, 1) := dL_law_706_b.2.2.2.2.1
theorem dL_law_711 : decode cL_law 711 = .ok (.iadd, 1) := dL_law_706_b.2.2.2.2.2.1
theorem dL_law_712 : decode cL_law 712 = .ok (.iaload, 1) := dL_law_706_b.2.2.2.2.2.2.1
theorem dL_law_713 : decode cL_law 713 = .ok (.aload_n 0, 1) := dL_law_706_b.2.2.2.2.2.2.2.1
theorem dL_law_714 : decode cL_law 714 = .ok (.iload_n 3, 1) := dL_law_706_b.2.2.2.2.2.2.2.2.1
theorem dL_law_715 : decode cL_law 715 = .ok (.iconst 2, 1) := dL_law_706_b.2.2.2.2.2.2.2.2.2.1
theorem dL_law_716 : decode cL_law 716 = .ok (.iadd, 1) := dL_law_706_b.2.2.2.2.2.2.2.2.2.2.1
theorem dL_law_717 : decode cL_law 717 = .ok (.iaload, 1) := dL_law_706_b.2.2.2.2.2.2.2.2.2.2.2
theorem dL_law_718_b : (decode cL_law 718 = .ok (.aload_n 0, 1)) ∧ (decode cL_law 719 = .ok (.iload_n 3, 1)) ∧ (decode cL_law 720 = .ok (.iconst 3, 1)) ∧ (decode cL_law 721 = .ok (.iadd, 1)) ∧ (decode cL_law 722 = .ok (.iaload, 1)) ∧ (decode cL_law 723 = .ok (.invokevirtual 97, 3)) ∧ (decode cL_law 726 = .ok (.pop, 1)) ∧ (decode cL_law 727 = .ok (.goto 432, 3)) ∧ (decode cL_law 730 = .ok (.aload_n 1, 1)) ∧ (decode cL_law 731 = .ok (.aload_n 0, 1)) ∧ (decode cL_law 732 = .ok (.iload_n 3, 1)) ∧ (decode cL_law 733 = .ok (.iconst 1, 1)) := by decide +kernel
theorem dL_law_718 : decode cL_law 718 = .ok (.aload_n 0, 1) := dL_law_718_b.1
theorem dL_law_719 : decode cL_law 719 = .ok (.iload_n 3, 1) := dL_law_718_b.2.1
theorem dL_law_720 : decode cL_law 720 = .ok (.iconst 3, 1) := dL_law_718_b.2.2.1
theorem dL_law_721 : decode cL_law 721 = .ok (.iadd, 1) := dL_law_718_b.2.2.2.1
theorem dL_law_722 : decode cL_law 722 = .ok (.iaload, 1) := dL_law_718_b.2.2.2.2.1
theorem dL_law_723 : decode cL_law 723 = .ok (.invokevirtual 97, 3) := dL_law_718_b.2.2.2.2.2.1
theorem dL_law_726 : decode cL_law 726 = .ok (.pop, 1) := dL_law_718_b.2.2.2.2.2.2.1
theorem dL_law_727 : decode cL_law 727 = .ok (.goto 432, 3) := dL_law_718_b.2.2.2.2.2.2.2.1
theorem dL_law_730 : decode cL_law 730 = .ok (.aload_n 1, 1) := dL_law_718_b.2.2.2.2.2.2.2.2.1
theorem dL_law_731 : decode cL_law 731 = .ok (.aload_n 0, 1) := dL_law_718_b.2.2.2.2.2.2.2.2.2.1
theorem dL_law_732 : decode cL_law 732 = .ok (.iload_n 3, 1) := dL_law_718_b.2.2.2.2.2.2.2.2.2.2.1
theorem dL_law_733 : decode cL_law 733 = .ok (.iconst 1, 1) := dL_law_718_b.2.2.2.2.2.2.2.2.2.2.2
theorem dL_law_734_b : (decode cL_law 734 = .ok (.iadd, 1)) ∧ (decode cL_law 735 = .ok (.iaload, 1)) ∧ (decode cL_law 736 = .ok (.aload_n 0, 1)) ∧ (decode cL_law 737 = .ok (.iload_n 3, 1)) ∧ (decode cL_law 738 = .ok (.iconst 2, 1)) ∧ (decode cL_law 739 = .ok (.iadd, 1)) ∧ (decode cL_law 740 = .ok (.iaload, 1)) ∧ (decode cL_law 741 = .ok (.aload_n 0, 1)) ∧ (decode cL_law 742 = .ok (.iload_n 3, 1)) ∧ (decode cL_law 743 = .ok (.iconst 3, 1)) ∧ (decode cL_law 744 = .ok (.iadd, 1)) ∧ (decode cL_law 745 = .ok (.iaload, 1)) := by decide +kernel
theorem dL_law_734 : decode cL_law 734 = .ok (.iadd, 1) := dL_law_734_b.1
theorem dL_law_735 : decode cL_law 735 = .ok (.iaload, 1) := dL_law_734_b.2.1
theorem dL_law_736 : decode cL_law 736 = .ok (.aload_n 0, 1) := dL_law_734_b.2.2.1
theorem dL_law_737 : decode cL_law 737 = .ok (.iload_n 3, 1) := dL_law_734_b.2.2.2.1
theorem dL_law_738 : decode cL_law 738 = .ok (.iconst 2, 1) := dL_law_734_b.2.2.2.2.1
theorem dL_law_739 : decode cL_law 739 = .ok (.iadd, 1) := dL_law_734_b.2.2.2.2.2.1
theorem dL_law_740 : decode cL_law 740 = .ok (.iaload, 1) := dL_law_734_b.2.2.2.2.2.2.1
theorem dL_law_741 : decode cL_law 741 = .ok (.aload_n 0, 1) := dL_law_734_b.2.2.2.2.2.2.2.1
theorem dL_law_742 : decode cL_law 742 = .ok (.iload_n 3, 1) := dL_law_734_b.2.2.2.2.2.2.2.2.1
theorem dL_law_743 : decode cL_law 743 = .ok (.iconst 3, 1) := dL_law_734_b.2.2.2.2.2.2.2.2.2.1
theorem dL_law_744 : decode cL_law 744 = .ok (.iadd, 1) := dL_law_734_b.2.2.2.2.2.2.2.2.2.2.1
theorem dL_law_745 : decode cL_law 745 = .ok (.iaload, 1) := dL_law_734_b.2.2.2.2.2.2.2.2.2.2.2
theorem dL_law_746_b : (decode cL_law 746 = .ok (.invokevirtual 98, 3)) ∧ (decode cL_law 749 = .ok (.pop, 1)) ∧ (decode cL_law 750 = .ok (.aload_n 2, 1)) ∧ (decode cL_law 751 = .ok (.aload_n 0, 1)) ∧ (decode cL_law 752 = .ok (.iload_n 3, 1)) ∧ (decode cL_law 753 = .ok (.iconst 1, 1)) ∧ (decode cL_law 754 = .ok (.iadd, 1)) ∧ (decode cL_law 755 = .ok (.iaload, 1)) ∧ (decode cL_law 756 = .ok (.aload_n 0, 1)) ∧ (decode cL_law 757 = .ok (.iload_n 3, 1)) ∧ (decode cL_law 758 = .ok (.iconst 2, 1)) ∧ (decode cL_law 759 = .ok (.iadd, 1)) := by decide +kernel
theorem dL_law_746 : decode cL_law 746 = .ok (.invokevirtual 98, 3) := dL_law_746_b.1
theorem dL_law_749 : decode cL_law 749 = .ok (.pop, 1) := dL_law_746_b.2.1
theorem dL_law_750 : decode cL_law 750 = .ok (.aload_n 2, 1) := dL_law_746_b.2.2.1
theorem dL_law_751 : decode cL_law 751 = .ok (.aload_n 0, 1) := dL_law_746_b.2.2.2.1
theorem dL_law_752 : decode cL_law 752 = .ok (.iload_n 3, 1) := dL_law_746_b.2.2.2.2.1
theorem dL_law_753 : decode cL_law 753 = .ok (.iconst 1, 1) := dL_law_746_b.2.2.2.2.2.1
theorem dL_law_754 : decode cL_law 754 = .ok (.iadd, 1) := dL_law_746_b.2.2.2.2.2.2.1
theorem dL_law_755 : decode cL_law 755 = .ok (.iaload, 1) := dL_law_746_b.2.2.2.2.2.2.2.1
theorem dL_law_756 : decode cL_law 756 = .ok (.aload_n 0, 1) := dL_law_746_b.2.2.2.2.2.2.2.2.1
theorem dL_law_757 : decode cL_law 757 = .ok (.iload_n 3, 1) := dL_law_746_b.2.2.2.2.2.2.2.2.2.1
theorem dL_law_758 : decode cL_law 758 = .ok (.iconst 2, 1) := dL_law_746_b.2.2.2.2.2.2.2.2.2.2.1
theorem dL_law_759 : decode cL_law 759 = .ok (.iadd, 1) := dL_law_746_b.2.2.2.2.2.2.2.2.2.2.2
theorem dL_law_760_b : (decode cL_law 760 = .ok (.iaload, 1)) ∧ (decode cL_law 761 = .ok (.aload_n 0, 1)) ∧ (decode cL_law 762 = .ok (.iload_n 3, 1)) ∧ (decode cL_law 763 = .ok (.iconst 3, 1)) ∧ (decode cL_law 764 = .ok (.iadd, 1)) ∧ (decode cL_law 765 = .ok (.iaload, 1)) ∧ (decode cL_law 766 = .ok (.invokevirtual 101, 3)) ∧ (decode cL_law 769 = .ok (.pop, 1)) ∧ (decode cL_law 770 = .ok (.goto 389, 3)) ∧ (decode cL_law 773 = .ok (.aload_n 1, 1)) ∧ (decode cL_law 774 = .ok (.aload_n 0, 1)) ∧ (decode cL_law 775 = .ok (.iload_n 3, 1)) := by decide +kernel
theorem dL_law_760 : decode cL_law 760 = .ok (.iaload, 1) := dL_law_760_b.1
theorem dL_law_761 : decode cL_law 761 = .ok (.aload_n 0, 1) := dL_law_760_b.2.1
theorem dL_law_762 : decode cL_law 762 = .ok (.iload_n 3, 1) := dL_law_760_b.2.2.1
theorem dL_law_763 : decode cL_law 763 = .ok (.iconst 3, 1) := dL_law_760_b.2.2.2.1
theorem dL_law_764 : decode cL_law 764 = .ok (.iadd, 1) := dL_law_760_b.2.2.2.2.1
theorem dL_law_765 : decode cL_law 765 = .ok (.iaload, 1) := dL_law_760_b.2.2.2.2.2.1
theorem dL_law_766 : decode cL_law 766 = .ok (.invokevirtual 101, 3) := dL_law_760_b.2.2.2.2.2.2.1
theorem dL_law_769 : decode cL_law 769 = .ok (.pop, 1) := dL_law_760_b.2.2.2.2.2.2.2.1
theorem dL_law_770 : decode cL_law 770 = .ok (.goto 389, 3) := dL_law_760_b.2.2.2.2.2.2.2.2.1
theorem dL_law_773 : decode cL_law 773 = .ok (.aload_n 1, 1) := dL_law_760_b.2.2.2.2.2.2.2.2.2.1
theorem dL_law_774 : decode cL_law 774 = .ok (.aload_n 0, 1) := dL_law_760_b.2.2.2.2.2.2.2.2.2.2.1
theorem dL_law_775 : decode cL_law 775 = .ok (.iload_n 3, 1) := dL_law_760_b.2.2.2.2.2.2.2.2.2.2.2
theorem dL_law_776_b : (decode cL_law 776 = .ok (.iconst 1, 1)) ∧ (decode cL_law 777 = .ok (.iadd, 1)) ∧ (decode cL_law 778 = .ok (.iaload, 1)) ∧ (decode cL_law 779 = .ok (.aload_n 0, 1)) ∧ (decode cL_law 780 = .ok (.iload_n 3, 1)) ∧ (decode cL_law 781 = .ok (.iconst 2, 1)) ∧ (decode cL_law 782 = .ok (.iadd, 1)) ∧ (decode cL_law 783 = .ok (.iaload, 1)) ∧ (decode cL_law 784 = .ok (.aload_n 0, 1)) ∧ (decode cL_law 785 = .ok (.iload_n 3, 1)) ∧ (decode cL_law 786 = .ok (.iconst 3, 1)) ∧ (decode cL_law 787 = .ok (.iadd, 1)) := by decide +kernel
theorem dL_law_776 : decode cL_law 776 = .ok (.iconst 1, 1) := dL_law_776_b.1
theorem dL_law_777 : decode cL_law 777 = .ok (.iadd, 1) := dL_law_776_b.2.1
theorem dL_law_778 : decode cL_law 778 = .ok (.iaload, 1) := dL_law_776_b.2.2.1
theorem dL_law_779 : decode cL_law 779 = .ok (.aload_n 0, 1) := dL_law_776_b.2.2.2.1
theorem dL_law_780 : decode cL_law 780 = .ok (.iload_n 3, 1) := dL_law_776_b.2.2.2.2.1
theorem dL_law_781 : decode cL_law 781 = .ok (.iconst 2, 1) := dL_law_776_b.2.2.2.2.2.1
theorem dL_law_782 : decode cL_law 782 = .ok (.iadd, 1) := dL_law_776_b.2.2.2.2.2.2.1
theorem dL_law_783 : decode cL_law 783 = .ok (.iaload, 1) := dL_law_776_b.2.2.2.2.2.2.2.1
theorem dL_law_784 : decode cL_law 784 = .ok (.aload_n 0, 1) := dL_law_776_b.2.2.2.2.2.2.2.2.1
theorem dL_law_785 : decode cL_law 785 = .ok (.iload_n 3, 1) := dL_law_776_b.2.2.2.2.2.2.2.2.2.1
theorem dL_law_786 : decode cL_law 786 = .ok (.iconst 3, 1) := dL_law_776_b.2.2.2.2.2.2.2.2.2.2.1
theorem dL_law_787 : decode cL_law 787 = .ok (.iadd, 1) := dL_law_776_b.2.2.2.2.2.2.2.2.2.2.2
theorem dL_law_788_b : (decode cL_law 788 = .ok (.iaload, 1)) ∧ (decode cL_law 789 = .ok (.aload_n 0, 1)) ∧ (decode cL_law 790 = .ok (.iload_n 3, 1)) ∧ (decode cL_law 791 = .ok (.iconst 4, 1)) ∧ (decode cL_law 792 = .ok (.iadd, 1)) ∧ (decode cL_law 793 = .ok (.iaload, 1)) ∧ (decode cL_law 794 = .ok (.invokevirtual 102, 3)) ∧ (decode cL_law 797 = .ok (.pop, 1)) ∧ (decode cL_law 798 = .ok (.aload_n 2, 1)) ∧ (decode cL_law 799 = .ok (.aload_n 0, 1)) ∧ (decode cL_law 800 = .ok (.iload_n 3, 1)) ∧ (decode cL_law 801 = .ok (.iconst 1, 1)) := by decide +kernel
theorem dL_law_788 : decode cL_law 788 = .ok (.iaload, 1) := dL_law_788_b.1
theorem dL_law_789 : decode cL_law 789 = .ok (.aload_n 0, 1) := dL_law_788_b.2.1
theorem dL_law_790 : decode cL_law 790 = .ok (.iload_n 3, 1) := dL_law_788_b.2.2.1
theorem dL_law_791 : decode cL_law 791 = .ok (.iconst 4, 1) := dL_law_788_b.2.2.2.1
theorem dL_law_792 : decode cL_law 792 = .ok (.iadd, 1) := dL_law_788_b.2.2.2.2.1
theorem dL_law_793 : decode cL_law 793 = .ok (.iaload, 1) := dL_law_788_b.2.2.2.2.2.1
theorem dL_law_794 : decode cL_law 794 = .ok (.invokevirtual 102, 3) := dL_law_788_b.2.2.2.2.2.2.1
theorem dL_law_797 : decode cL_law 797 = .ok (.pop, 1) := dL_law_788_b.2.2.2.2.2.2.2.1
theorem dL_law_798 : decode cL_law 798 = .ok (.aload_n 2, 1) := dL_law_788_b.2.2.2.2.2.2.2.2.1
theorem dL_law_799 : decode cL_law 799 = .ok (.aload_n 0, 1) := dL_law_788_b.2.2.2.2.2.2.2.2.2.1
theorem dL_law_800 : decode cL_law 800 = .ok (.iload_n 3, 1) := dL_law_788_b.2.2.2.2.2.2.2.2.2.2.1
theorem dL_law_801 : decode cL_law 801 = .ok (.iconst 1, 1) := dL_law_788_b.2.2.2.2.2.2.2.2.2.2.2
theorem dL_law_802_b : (decode cL_law 802 = .ok (.iadd, 1)) ∧ (decode cL_law 803 = .ok (.iaload, 1)) ∧ (decode cL_law 804 = .ok (.aload_n 0, 1)) ∧ (decode cL_law 805 = .ok (.iload_n 3, 1)) ∧ (decode cL_law 806 = .ok (.iconst 2, 1)) ∧ (decode cL_law 807 = .ok (.iadd, 1)) ∧ (decode cL_law 808 = .ok (.iaload, 1)) ∧ (decode cL_law 809 = .ok (.aload_n 0, 1)) ∧ (decode cL_law 810 = .ok (.iload_n 3, 1)) ∧ (decode cL_law 811 = .ok (.iconst 3, 1)) ∧ (decode cL_law 812 = .ok (.iadd, 1)) ∧ (decode cL_law 813 = .ok (.iaload, 1)) := by decide +kernel
theorem dL_law_802 : decode cL_law 802 = .ok (.iadd, 1) := dL_law_802_b.1
theorem dL_law_803 : decode cL_law 803 = .ok (.iaload, 1) := dL_law_802_b.2.1
theorem dL_law_804 : decode cL_law 804 = .ok (.aload_n 0, 1) := dL_law_802_b.2.2.1
theorem dL_law_805 : decode cL_law 805 = .ok (.iload_n 3, 1) := dL_law_802_b.2.2.2.1
theorem dL_law_806 : decode cL_law 806 = .ok (.iconst 2, 1) := dL_law_802_b.2.2.2.2.1
theorem dL_law_807 : decode cL_law 807 = .ok (.iadd, 1) := dL_law_802_b.2.2.2.2.2.1
theorem dL_law_808 : decode cL_law 808 = .ok (.iaload, 1) := dL_law_802_b.2.2.2.2.2.2.1
theorem dL_law_809 : decode cL_law 809 = .ok (.aload_n 0, 1) := dL_law_802_b.2.2.2.2.2.2.2.1
theorem dL_law_810 : decode cL_law 810 = .ok (.iload_n 3, 1) := dL_law_802_b.2.2.2.2.2.2.2.2.1
theorem dL_law_811 : decode cL_law 811 = .ok (.iconst 3, 1) := dL_law_802_b.2.2.2.2.2.2.2.2.2.1
theorem dL_law_812 : decode cL_law 812 = .ok (.iadd, 1) := dL_law_802_b.2.2.2.2.2.2.2.2.2.2.1
theorem dL_law_813 : decode cL_law 813 = .ok (.iaload, 1) := dL_law_802_b.2.2.2.2.2.2.2.2.2.2.2
theorem dL_law_814_b : (decode cL_law 814 = .ok (.aload_n 0, 1)) ∧ (decode cL_law 815 = .ok (.iload_n 3, 1)) ∧ (decode cL_law 816 = .ok (.iconst 4, 1)) ∧ (decode cL_law 817 = .ok (.iadd, 1)) ∧ (decode cL_law 818 = .ok (.iaload, 1)) ∧ (decode cL_law 819 = .ok (.invokevirtual 106, 3)) ∧ (decode cL_law 822 = .ok (.pop, 1)) ∧ (decode cL_law 823 = .ok (.goto 336, 3)) ∧ (decode cL_law 826 = .ok (.aload_n 1, 1)) ∧ (decode cL_law 827 = .ok (.aload_n 0, 1)) ∧ (decode cL_law 828 = .ok (.iload_n 3, 1)) ∧ (decode cL_law 829 = .ok (.iconst 1, 1)) := by decide +kernel
theorem dL_law_814 : decode cL_law 814 = .ok (.aload_n 0, 1) := dL_law_814_b.1
theorem dL_law_815 : decode cL_law 815 = .ok (.iload_n 3, 1) := dL_law_814_b.2.1
theorem dL_law_816 : decode cL_law 816 = .ok (.iconst 4, 1) := dL_law_814_b.2.2.1
theorem dL_law_817 : decode cL_law 817 = .ok (.iadd, 1) := dL_law_814_b.2.2.2.1
theorem dL_law_818 : decode cL_law 818 = .ok (.iaload, 1) := dL_law_814_b.2.2.2.2.1
theorem dL_law_819 : decode cL_law 819 = .ok (.invokevirtual 106, 3) := dL_law_814_b.2.2.2.2.2.1
theorem dL_law_822 : decode cL_law 822 = .ok (.pop, 1) := dL_law_814_b.2.2.2.2.2.2.1
theorem dL_law_823 : decode cL_law 823 = .ok (.goto 336, 3) := dL_law_814_b.2.2.2.2.2.2.2.1
theorem dL_law_826 : decode cL_law 826 = .ok (.aload_n 1, 1) := dL_law_814_b.2.2.2.2.2.2.2.2.1
theorem dL_law_827 : decode cL_law 827 = .ok (.aload_n 0, 1) := dL_law_814_b.2.2.2.2.2.2.2.2.2.1
theorem dL_law_828 : decode cL_law 828 = .ok (.iload_n 3, 1) := dL_law_814_b.2.2.2.2.2.2.2.2.2.2.1
theorem dL_law_829 : decode cL_law 829 = .ok (.iconst 1, 1) := dL_law_814_b.2.2.2.2.2.2.2.2.2.2.2
theorem dL_law_830_b : (decode cL_law 830 = .ok (.iadd, 1)) ∧ (decode cL_law 831 = .ok (.iaload, 1)) ∧ (decode cL_law 832 = .ok (.aload_n 0, 1)) ∧ (decode cL_law 833 = .ok (.iload_n 3, 1)) ∧ (decode cL_law 834 = .ok (.iconst 2, 1)) ∧ (decode cL_law 835 = .ok (.iadd, 1)) ∧ (decode cL_law 836 = .ok (.iaload, 1)) ∧ (decode cL_law 837 = .ok (.aload_n 0, 1)) ∧ (decode cL_law 838 = .ok (.iload_n 3, 1)) ∧ (decode cL_law 839 = .ok (.iconst 3, 1)) ∧ (decode cL_law 840 = .ok (.iadd, 1)) ∧ (decode cL_law 841 = .ok (.iaload, 1)) := by decide +kernel
theorem dL_law_830 : decode cL_law 830 = .ok (.iadd, 1) := dL_law_830_b.1
theorem dL_law_831 : decode cL_law 831 = .ok (.iaload, 1) := dL_law_830_b.2.1
theorem dL_law_832 : decode cL_law 832 = .ok (.aload_n 0, 1) := dL_law_830_b.2.2.1
theorem dL_law_833 : decode cL_law 833 = .ok (.iload_n 3, 1) := dL_law_830_b.2.2.2.1
theorem dL_law_834 : decode cL_law 834 = .ok (.iconst 2, 1) := dL_law_830_b.2.2.2.2.1
theorem dL_law_835 : decode cL_law 835 = .ok (.iadd, 1) := dL_law_830_b.2.2.2.2.2.1
theorem dL_law_836 : decode cL_law 836 = .ok (.iaload, 1) := dL_law_830_b.2.2.2.2.2.2.1
theorem dL_law_837 : decode cL_law 837 = .ok (.aload_n 0, 1) := dL_law_830_b.2.2.2.2.2.2.2.1
theorem dL_law_838 : decode cL_law 838 = .ok (.iload_n 3, 1) := dL_law_830_b.2.2.2.2.2.2.2.2.1
theorem dL_law_839 : decode cL_law 839 = .ok (.iconst 3, 1) := dL_law_830_b.2.2.2.2.2.2.2.2.2.1
theorem dL_law_840 : decode cL_law 840 = .ok (.iadd, 1) := dL_law_830_b.2.2.2.2.2.2.2.2.2.2.1
theorem dL_law_841 : decode cL_law 841 = .ok (.iaload, 1) := dL_law_830_b.2.2.2.2.2.2.2.2.2.2.2
theorem dL_law_842_b : (decode cL_law 842 = .ok (.aload_n 0, 1)) ∧ (decode cL_law 843 = .ok (.iload_n 3, 1)) ∧ (decode cL_law 844 = .ok (.iconst 4, 1)) ∧ (decode cL_law 845 = .ok (.iadd, 1)) ∧ (decode cL_law 846 = .ok (.iaload, 1)) ∧ (decode cL_law 847 = .ok (.invokevirtual 107, 3)) ∧ (decode cL_law 850 = .ok (.pop, 1)) ∧ (decode cL_law 851 = .ok (.aload_n 2, 1)) ∧ (decode cL_law 852 = .ok (.aload_n 0, 1)) ∧ (decode cL_law 853 = .ok (.iload_n 3, 1)) ∧ (decode cL_law 854 = .ok (.iconst 1, 1)) ∧ (decode cL_law 855 = .ok (.iadd, 1)) := by decide +kernel
theorem dL_law_842 : decode cL_law 842 = .ok (.aload_n 0, 1) := dL_law_842_b.1
theorem dL_law_843 : decode cL_law 843 = .ok (.iload_n 3, 1) := dL_law_842_b.2.1
theorem dL_law_844 : decode cL_law 844 = .ok (.iconst 4, 1) := dL_law_842_b.2.2.1
theorem dL_law_845 : decode cL_law 845 = .ok (.iadd, 1) := dL_law_842_b.2.2.2.1
theorem dL_law_846 : decode cL_law 846 = .ok (.iaload, 1) := dL_law_842_b.2.2.2.2.1
theorem dL_law_847 : decode cL_law 847 = .ok (.invokevirtual 107, 3) := dL_law_842_b.2.2.2.2.2.1
theorem dL_law_850 : decode cL_law 850 = .ok (.pop, 1) := dL_law_842_b.2.2.2.2.2.2.1
theorem dL_law_851 : decode cL_law 851 = .ok (.aload_n 2, 1) := dL_law_842_b.2.2.2.2.2.2.2.1
theorem dL_law_852 : decode cL_law 852 = .ok (.aload_n 0, 1) := dL_law_842_b.2.2.2.2.2.2.2.2.1
theorem dL_law_853 : decode cL_law 853 = .ok (.iload_n 3, 1) := dL_law_842_b.2.2.2.2.2.2.2.2.2.1
theorem dL_law_854 : decode cL_law 854 = .ok (.iconst 1, 1) := dL_law_842_b.2.2.2.2.2.2.2.2.2.2.1
theorem dL_law_855 : decode cL_law 855 = .ok (.iadd, 1) := dL_law_842_b.2.2.2.2.2.2.2.2.2.2.2
theorem dL_law_856_b : (decode cL_law 856 = .ok (.iaload, 1)) ∧ (decode cL_law 857 = .ok (.aload_n 0, 1)) ∧ (decode cL_law 858 = .ok (.iload_n 3, 1)) ∧ (decode cL_law 859 = .ok (.iconst 2, 1)) ∧ (decode cL_law 860 = .ok (.iadd, 1)) ∧ (decode cL_law 861 = .ok (.iaload, 1)) ∧ (decode cL_law 862 = .ok (.aload_n 0, 1)) ∧ (decode cL_law 863 = .ok (.iload_n 3, 1)) ∧ (decode cL_law 864 = .ok (.iconst 3, 1)) ∧ (decode cL_law 865 = .ok (.iadd, 1)) ∧ (decode cL_law 866 = .ok (.iaload, 1)) ∧ (decode cL_law 867 = .ok (.aload_n 0, 1)) := by decide +kernel
theorem dL_law_856 : decode cL_law 856 = .ok (.iaload, 1) := dL_law_856_b.1
theorem dL_law_857 : decode cL_law 857 = .ok (.aload_n 0, 1) := dL_law_856_b.2.1
theorem dL_law_858 : decode cL_law 858 = .ok (.iload_n 3, 1) := dL_law_856_b.2.2.1
theorem dL_law_859 : decode cL_law 859 = .ok (.iconst 2, 1) := dL_law_856_b.2.2.2.1
theorem dL_law_860 : decode cL_law 860 = .ok (.iadd, 1) := dL_law_856_b.2.2.2.2.1
theorem dL_law_861 : decode cL_law 861 = .ok (.iaload, 1) := dL_law_856_b.2.2.2.2.2.1
theorem dL_law_862 : decode cL_law 862 = .ok (.aload_n 0, 1) := dL_law_856_b.2.2.2.2.2.2.1
theorem dL_law_863 : decode cL_law 863 = .ok (.iload_n 3, 1) := dL_law_856_b.2.2.2.2.2.2.2.1
theorem dL_law_864 : decode cL_law 864 = .ok (.iconst 3, 1) := dL_law_856_b.2.2.2.2.2.2.2.2.1
theorem dL_law_865 : decode cL_law 865 = .ok (.iadd, 1) := dL_law_856_b.2.2.2.2.2.2.2.2.2.1
theorem dL_law_866 : decode cL_law 866 = .ok (.iaload, 1) := dL_law_856_b.2.2.2.2.2.2.2.2.2.2.1
theorem dL_law_867 : decode cL_law 867 = .ok (.aload_n 0, 1) := dL_law_856_b.2.2.2.2.2.2.2.2.2.2.2
theorem dL_law_868_b : (decode cL_law 868 = .ok (.iload_n 3, 1)) ∧ (decode cL_law 869 = .ok (.iconst 4, 1)) ∧ (decode cL_law 870 = .ok (.iadd, 1)) ∧ (decode cL_law 871 = .ok (.iaload, 1)) ∧ (decode cL_law 872 = .ok (.invokevirtual 110, 3)) ∧ (decode cL_law 875 = .ok (.pop, 1)) ∧ (decode cL_law 876 = .ok (.goto 283, 3)) ∧ (decode cL_law 879 = .ok (.aload_n 1, 1)) ∧ (decode cL_law 880 = .ok (.aload_n 0, 1)) ∧ (decode cL_law 881 = .ok (.iload_n 3, 1)) ∧ (decode cL_law 882 = .ok (.iconst 1, 1)) ∧ (decode cL_law 883 = .ok (.iadd, 1)) := by decide +kernel
theorem dL_law_868 : decode cL_law 868 = .ok (.iload_n 3, 1) := dL_law_868_b.1
theorem dL_law_869 : decode cL_law 869 = .ok (.iconst 4, 1) := dL_law_868_b.2.1
theorem dL_law_870 : decode cL_law 870 = .ok (.iadd, 1) := dL_law_868_b.2.2.1
theorem dL_law_871 : decode cL_law 871 = .ok (.iaload, 1) := dL_law_868_b.2.2.2.1
theorem dL_law_872 : decode cL_law 872 = .ok (.invokevirtual 110, 3) := dL_law_868_b.2.2.2.2.1
theorem dL_law_875 : decode cL_law 875 = .ok (.pop, 1) := dL_law_868_b.2.2.2.2.2.1
theorem dL_law_876 : decode cL_law 876 = .ok (.goto 283, 3) := dL_law_868_b.2.2.2.2.2.2.1
theorem dL_law_879 : decode cL_law 879 = .ok (.aload_n 1, 1) := dL_law_868_b.2.2.2.2.2.2.2.1
theorem dL_law_880 : decode cL_law 880 = .ok (.aload_n 0, 1) := dL_law_868_b.2.2.2.2.2.2.2.2.1
theorem dL_law_881 : decode cL_law 881 = .ok (.iload_n 3, 1) := dL_law_868_b.2.2.2.2.2.2.2.2.2.1
theorem dL_law_882 : decode cL_law 882 = .ok (.iconst 1, 1) := dL_law_868_b.2.2.2.2.2.2.2.2.2.2.1
theorem dL_law_883 : decode cL_law 883 = .ok (.iadd, 1) := dL_law_868_b.2.2.2.2.2.2.2.2.2.2.2
theorem dL_law_884_b : (decode cL_law 884 = .ok (.iaload, 1)) ∧ (decode cL_law 885 = .ok (.aload_n 0, 1)) ∧ (decode cL_law 886 = .ok (.iload_n 3, 1)) ∧ (decode cL_law 887 = .ok (.iconst 2, 1)) ∧ (decode cL_law 888 = .ok (.iadd, 1)) ∧ (decode cL_law 889 = .ok (.iaload, 1)) ∧ (decode cL_law 890 = .ok (.aload_n 0, 1)) ∧ (decode cL_law 891 = .ok (.iload_n 3, 1)) ∧ (decode cL_law 892 = .ok (.iconst 3, 1)) ∧ (decode cL_law 893 = .ok (.iadd, 1)) ∧ (decode cL_law 894 = .ok (.iaload, 1)) ∧ (decode cL_law 895 = .ok (.invokevirtual 111, 3)) := by decide +kernel
theorem dL_law_884 : decode cL_law 884 = .ok (.iaload, 1) := dL_law_884_b.1
theorem dL_law_885 : decode cL_law 885 = .ok (.aload_n 0, 1) := dL_law_884_b.2.1
theorem dL_law_886 : decode cL_law 886 = .ok (.iload_n 3, 1) := dL_law_884_b.2.2.1
theorem dL_law_887 : decode cL_law 887 = .ok (.iconst 2, 1) := dL_law_884_b.2.2.2.1
theorem dL_law_888 : decode cL_law 888 = .ok (.iadd, 1) := dL_law_884_b.2.2.2.2.1
theorem dL_law_889 : decode cL_law 889 = .ok (.iaload, 1) := dL_law_884_b.2.2.2.2.2.1
theorem dL_law_890 : decode cL_law 890 = .ok (.aload_n 0, 1) := dL_law_884_b.2.2.2.2.2.2.1
theorem dL_law_891 : decode cL_law 891 = .ok (.iload_n 3, 1) := dL_law_884_b.2.2.2.2.2.2.2.1
theorem dL_law_892 : decode cL_law 892 = .ok (.iconst 3, 1) := dL_law_884_b.2.2.2.2.2.2.2.2.1
theorem dL_law_893 : decode cL_law 893 = .ok (.iadd, 1) := dL_law_884_b.2.2.2.2.2.2.2.2.2.1
theorem dL_law_894 : decode cL_law 894 = .ok (.iaload, 1) := dL_law_884_b.2.2.2.2.2.2.2.2.2.2.1
theorem dL_law_895 : decode cL_law 895 = .ok (.invokevirtual 111, 3) := dL_law_884_b.2.2.2.2.2.2.2.2.2.2.2
theorem dL_law_898_b : (decode cL_law 898 = .ok (.pop, 1)) ∧ (decode cL_law 899 = .ok (.aload_n 2, 1)) ∧ (decode cL_law 900 = .ok (.aload_n 0, 1)) ∧ (decode cL_law 901 = .ok (.iload_n 3, 1)) ∧ (decode cL_law 902 = .ok (.iconst 1, 1)) ∧ (decode cL_law 903 = .ok (.iadd, 1)) ∧ (decode cL_law 904 = .ok (.iaload, 1)) ∧ (decode cL_law 905 = .ok (.aload_n 0, 1)) ∧ (decode cL_law 906 = .ok (.iload_n 3, 1)) ∧ (decode cL_law 907 = .ok (.iconst 2, 1)) ∧ (decode cL_law 908 = .ok (.iadd, 1)) ∧ (decode cL_law 909 = .ok (.iaload, 1)) := by decide +kernel
theorem dL_law_898 : decode cL_law 898 = .ok (.pop, 1) := dL_law_898_b.1
theorem dL_law_899 : decode cL_law 899 = .ok (.aload_n 2, 1) := dL_law_898_b.2.1
theorem dL_law_900 : decode cL_law 900 = .ok (.aload_n 0, 1) := dL_law_898_b.2.2.1
theorem dL_law_901 : decode cL_law 901 = .ok (.iload_n 3, 1) := dL_law_898_b.2.2.2.1
theorem dL_law_902 : decode cL_law 902 = .ok (.iconst 1, 1) := dL_law_898_b.2.2.2.2.1
theorem dL_law_903 : decode cL_law 903 = .ok (.iadd, 1) := dL_law_898_b.2.2.2.2.2.1
theorem dL_law_904 : decode cL_law 904 = .ok (.iaload, 1) := dL_law_898_b.2.2.2.2.2.2.1
theorem dL_law_905 : decode cL_law 905 = .ok (.aload_n 0, 1) := dL_law_898_b.2.2.2.2.2.2.2.1
theorem dL_law_906 : decode cL_law 906 = .ok (.iload_n 3, 1) := dL_law_898_b.2.2.2.2.2.2.2.2.1
theorem dL_law_907 : decode cL_law 907 = .ok (.iconst 2, 1) := dL_law_898_b.2.2.2.2.2.2.2.2.2.1
theorem dL_law_908 : decode cL_law 908 = .ok (.iadd, 1) := dL_law_898_b.2.2.2.2.2.2.2.2.2.2.1
theorem dL_law_909 : decode cL_law 909 = .ok (.iaload, 1) := dL_law_898_b.2.2.2.2.2.2.2.2.2.2.2
theorem dL_law_910_b : (decode cL_law 910 = .ok (.aload_n 0, 1)) ∧ (decode cL_law 911 = .ok (.iload_n 3, 1)) ∧ (decode cL_law 912 = .ok (.iconst 3, 1)) ∧ (decode cL_law 913 = .ok (.iadd, 1)) ∧ (decode cL_law 914 = .ok (.iaload, 1)) ∧ (decode cL_law 915 = .ok (.invokevirtual 114, 3)) ∧ (decode cL_law 918 = .ok (.pop, 1)) ∧ (decode cL_law 919 = .ok (.goto 240, 3)) ∧ (decode cL_law 922 = .ok (.aload_n 1, 1)) ∧ (decode cL_law 923 = .ok (.aload_n 0, 1)) ∧ (decode cL_law 924 = .ok (.iload_n 3, 1)) ∧ (decode cL_law 925 = .ok (.iconst 1, 1)) := by decide +kernel
theorem dL_law_910 : decode cL_law 910 = .ok (.aload_n 0, 1) := dL_law_910_b.1
theorem dL_law_911 : decode cL_law 911 = .ok (.iload_n 3, 1) := dL_law_910_b.2.1
theorem dL_law_912 : decode cL_law 912 = .ok (.iconst 3, 1) := dL_law_910_b.2.2.1
theorem dL_law_913 : decode cL_law 913 = .ok (.iadd, 1) := dL_law_910_b.2.2.2.1
theorem dL_law_914 : decode cL_law 914 = .ok (.iaload, 1) := dL_law_910_b.2.2.2.2.1
theorem dL_law_915 : decode cL_law 915 = .ok (.invokevirtual 114, 3) := dL_law_910_b.2.2.2.2.2.1
theorem dL_law_918 : decode cL_law 918 = .ok (.pop, 1) := dL_law_910_b.2.2.2.2.2.2.1
theorem dL_law_919 : decode cL_law 919 = .ok (.goto 240, 3) := dL_law_910_b.2.2.2.2.2.2.2.1
theorem dL_law_922 : decode cL_law 922 = .ok (.aload_n 1, 1) := dL_law_910_b.2.2.2.2.2.2.2.2.1
theorem dL_law_923 : decode cL_law 923 = .ok (.aload_n 0, 1) := dL_law_910_b.2.2.2.2.2.2.2.2.2.1
theorem dL_law_924 : decode cL_law 924 = .ok (.iload_n 3, 1) := dL_law_910_b.2.2.2.2.2.2.2.2.2.2.1
theorem dL_law_925 : decode cL_law 925 = .ok (.iconst 1, 1) := dL_law_910_b.2.2.2.2.2.2.2.2.2.2.2
theorem dL_law_926_b : (decode cL_law 926 = .ok (.iadd, 1)) ∧ (decode cL_law 927 = .ok (.iaload, 1)) ∧ (decode cL_law 928 = .ok (.aload_n 0, 1)) ∧ (decode cL_law 929 = .ok (.iload_n 3, 1)) ∧ (decode cL_law 930 = .ok (.iconst 2, 1)) ∧ (decode cL_law 931 = .ok (.iadd, 1)) ∧ (decode cL_law 932 = .ok (.iaload, 1)) ∧ (decode cL_law 933 = .ok (.aload_n 0, 1)) ∧ (decode cL_law 934 = .ok (.iload_n 3, 1)) ∧ (decode cL_law 935 = .ok (.iconst 3, 1)) ∧ (decode cL_law 936 = .ok (.iadd, 1)) ∧ (decode cL_law 937 = .ok (.iaload, 1)) := by decide +kernel
theorem dL_law_926 : decode cL_law 926 = .ok (.iadd, 1) := dL_law_926_b.1
theorem dL_law_927 : decode cL_law 927 = .ok (.iaload, 1) := dL_law_926_b.2.1
theorem dL_law_928 : decode cL_law 928 = .ok (.aload_n 0, 1) := dL_law_926_b.2.2.1
theorem dL_law_929 : decode cL_law 929 = .ok (.iload_n 3, 1) := dL_law_926_b.2.2.2.1
theorem dL_law_930 : decode cL_law 930 = .ok (.iconst 2, 1) := dL_law_926_b.2.2.2.2.1
theorem dL_law_931 : decode cL_law 931 = .ok (.iadd, 1) := dL_law_926_b.2.2.2.2.2.1
theorem dL_law_932 : decode cL_law 932 = .ok (.iaload, 1) := dL_law_926_b.2.2.2.2.2.2.1
theorem dL_law_933 : decode cL_law 933 = .ok (.aload_n 0, 1) := dL_law_926_b.2.2.2.2.2.2.2.1
theorem dL_law_934 : decode cL_law 934 = .ok (.iload_n 3, 1) := dL_law_926_b.2.2.2.2.2.2.2.2.1
theorem dL_law_935 : decode cL_law 935 = .ok (.iconst 3, 1) := dL_law_926_b.2.2.2.2.2.2.2.2.2.1
theorem dL_law_936 : decode cL_law 936 = .ok (.iadd, 1) := dL_law_926_b.2.2.2.2.2.2.2.2.2.2.1
theorem dL_law_937 : decode cL_law 937 = .ok (.iaload, 1) := dL_law_926_b.2.2.2.2.2.2.2.2.2.2.2
theorem dL_law_938_b : (decode cL_law 938 = .ok (.invokevirtual 115, 3)) ∧ (decode cL_law 941 = .ok (.pop, 1)) ∧ (decode cL_law 942 = .ok (.aload_n 2, 1)) ∧ (decode cL_law 943 = .ok (.aload_n 0, 1)) ∧ (decode cL_law 944 = .ok (.iload_n 3, 1)) ∧ (decode cL_law 945 = .ok (.iconst 1, 1)) ∧ (decode cL_law 946 = .ok (.iadd, 1)) ∧ (decode cL_law 947 = .ok (.iaload, 1)) ∧ (decode cL_law 948 = .ok (.aload_n 0, 1)) ∧ (decode cL_law 949 = .ok (.iload_n 3, 1)) ∧ (decode cL_law 950 = .ok (.iconst 2, 1)) ∧ (decode cL_law 951 = .ok (.iadd, 1)) := by decide +kernel
theorem dL_law_938 : decode cL_law 938 = .ok (.invokevirtual 115, 3) := dL_law_938_b.1
theorem dL_law_941 : decode cL_law 941 = .ok (.pop, 1) := dL_law_938_b.2.1
theorem dL_law_942 : decode cL_law 942 = .ok (.aload_n 2, 1) := dL_law_938_b.2.2.1
theorem dL_law_943 : decode cL_law 943 = .ok (.aload_n 0, 1) := dL_law_938_b.2.2.2.1
theorem dL_law_944 : decode cL_law 944 = .ok (.iload_n 3, 1) := dL_law_938_b.2.2.2.2.1
theorem dL_law_945 : decode cL_law 945 = .ok (.iconst 1, 1) := dL_law_938_b.2.2.2.2.2.1
theorem dL_law_946 : decode cL_law 946 = .ok (.iadd, 1) := dL_law_938_b.2.2.2.2.2.2.1
theorem dL_law_947 : decode cL_law 947 = .ok (.iaload, 1) := dL_law_938_b.2.2.2.2.2.2.2.1
theorem dL_law_948 : decode cL_law 948 = .ok (.aload_n 0, 1) := dL_law_938_b.2.2.2.2.2.2.2.2.1
theorem dL_law_949 : decode cL_law 949 = .ok (.iload_n 3, 1) := dL_law_938_b.2.2.2.2.2.2.2.2.2.1
theorem dL_law_950 : decode cL_law 950 = .ok (.iconst 2, 1) := dL_law_938_b.2.2.2.2.2.2.2.2.2.2.1
theorem dL_law_951 : decode cL_law 951 = .ok (.iadd, 1) := dL_law_938_b.2.2.2.2.2.2.2.2.2.2.2
theorem dL_law_952_b : (decode cL_law 952 = .ok (.iaload, 1)) ∧ (decode cL_law 953 = .ok (.aload_n 0, 1)) ∧ (decode cL_law 954 = .ok (.iload_n 3, 1)) ∧ (decode cL_law 955 = .ok (.iconst 3, 1)) ∧ (decode cL_law 956 = .ok (.iadd, 1)) ∧ (decode cL_law 957 = .ok (.iaload, 1)) ∧ (decode cL_law 958 = .ok (.invokevirtual 118, 3)) ∧ (decode cL_law 961 = .ok (.pop, 1)) ∧ (decode cL_law 962 = .ok (.goto 197, 3)) ∧ (decode cL_law 965 = .ok (.aload_n 1, 1)) ∧ (decode cL_law 966 = .ok (.aload_n 0, 1)) ∧ (decode cL_law 967 = .ok (.iload_n 3, 1)) := by decide +kernel
theorem dL_law_952 : decode cL_law 952 = .ok (.iaload, 1) := dL_law_952_b.1
theorem dL_law_953 : decode cL_law 953 = .ok (.aload_n 0, 1) := dL_law_952_b.2.1
theorem dL_law_954 : decode cL_law 954 = .ok (.iload_n 3, 1) := dL_law_952_b.2.2.1
theorem dL_law_955 : decode cL_law 955 = .ok (.iconst 3, 1) := dL_law_952_b.2.2.2.1
theorem dL_law_956 : decode cL_law 956 = .ok (.iadd, 1) := dL_law_952_b.2.2.2.2.1
theorem dL_law_957 : decode cL_law 957 = .ok (.iaload, 1) := dL_law_952_b.2.2.2.2.2.1
theorem dL_law_958 : decode cL_law 958 = .ok (.invokevirtual 118, 3) := dL_law_952_b.2.2.2.2.2.2.1
theorem dL_law_961 : decode cL_law 961 = .ok (.pop, 1) := dL_law_952_b.2.2.2.2.2.2.2.1
theorem dL_law_962 : decode cL_law 962 = .ok (.goto 197, 3) := dL_law_952_b.2.2.2.2.2.2.2.2.1
theorem dL_law_965 : decode cL_law 965 = .ok (.aload_n 1, 1) := dL_law_952_b.2.2.2.2.2.2.2.2.2.1
theorem dL_law_966 : decode cL_law 966 = .ok (.aload_n 0, 1) := dL_law_952_b.2.2.2.2.2.2.2.2.2.2.1
theorem dL_law_967 : decode cL_law 967 = .ok (.iload_n 3, 1) := dL_law_952_b.2.2.2.2.2.2.2.2.2.2.2
theorem dL_law_968_b : (decode cL_law 968 = .ok (.iconst 1, 1)) ∧ (decode cL_law 969 = .ok (.iadd, 1)) ∧ (decode cL_law 970 = .ok (.iaload, 1)) ∧ (decode cL_law 971 = .ok (.invokevirtual 119, 3)) ∧ (decode cL_law 974 = .ok (.pop, 1)) ∧ (decode cL_law 975 = .ok (.aload_n 2, 1)) ∧ (decode cL_law 976 = .ok (.aload_n 0, 1)) ∧ (decode cL_law 977 = .ok (.iload_n 3, 1)) ∧ (decode cL_law 978 = .ok (.iconst 1, 1)) ∧ (decode cL_law 979 = .ok (.iadd, 1)) ∧ (decode cL_law 980 = .ok (.iaload, 1)) ∧ (decode cL_law 981 = .ok (.invokevirtual 122, 3)) := by decide +kernel
theorem dL_law_968 : decode cL_law 968 = .ok (.iconst 1, 1) := dL_law_968_b.1
theorem dL_law_969 : decode cL_law 969 = .ok (.iadd, 1) := dL_law_968_b.2.1
theorem dL_law_970 : decode cL_law 970 = .ok (.iaload, 1) := dL_law_968_b.2.2.1
theorem dL_law_971 : decode cL_law 971 = .ok (.invokevirtual 119, 3) := dL_law_968_b.2.2.2.1
theorem dL_law_974 : decode cL_law 974 = .ok (.pop, 1) := dL_law_968_b.2.2.2.2.1
theorem dL_law_975 : decode cL_law 975 = .ok (.aload_n 2, 1) := dL_law_968_b.2.2.2.2.2.1
theorem dL_law_976 : decode cL_law 976 = .ok (.aload_n 0, 1) := dL_law_968_b.2.2.2.2.2.2.1
theorem dL_law_977 : decode cL_law 977 = .ok (.iload_n 3, 1) := dL_law_968_b.2.2.2.2.2.2.2.1
theorem dL_law_978 : decode cL_law 978 = .ok (.iconst 1, 1) := dL_law_968_b.2.2.2.2.2.2.2.2.1
theorem dL_law_979 : decode cL_law 979 = .ok (.iadd, 1) := dL_law_968_b.2.2.2.2.2.2.2.2.2.1
theorem dL_law_980 : decode cL_law 980 = .ok (.iaload, 1) := dL_law_968_b.2.2.2.2.2.2.2.2.2.2.1
theorem dL_law_981 : decode cL_law 981 = .ok (.invokevirtual 122, 3) := dL_law_968_b.2.2.2.2.2.2.2.2.2.2.2
theorem dL_law_984_b : (decode cL_law 984 = .ok (.pop, 1)) ∧ (decode cL_law 985 = .ok (.goto 174, 3)) ∧ (decode cL_law 988 = .ok (.aload_n 1, 1)) ∧ (decode cL_law 989 = .ok (.aload_n 0, 1)) ∧ (decode cL_law 990 = .ok (.iload_n 3, 1)) ∧ (decode cL_law 991 = .ok (.iconst 1, 1)) ∧ (decode cL_law 992 = .ok (.iadd, 1)) ∧ (decode cL_law 993 = .ok (.iaload, 1)) ∧ (decode cL_law 994 = .ok (.invokevirtual 123, 3)) ∧ (decode cL_law 997 = .ok (.pop, 1)) ∧ (decode cL_law 998 = .ok (.aload_n 2, 1)) ∧ (decode cL_law 999 = .ok (.aload_n 0, 1)) := by decide +kernel
theorem dL_law_984 : decode cL_law 984 = .ok (.pop, 1) := dL_law_984_b.1
theorem dL_law_985 : decode cL_law 985 = .ok (.goto 174, 3) := dL_law_984_b.2.1
theorem dL_law_988 : decode cL_law 988 = .ok (.aload_n 1, 1) := dL_law_984_b.2.2.1
theorem dL_law_989 : decode cL_law 989 = .ok (.aload_n 0, 1) := dL_law_984_b.2.2.2.1
theorem dL_law_990 : decode cL_law 990 = .ok (.iload_n 3, 1) := dL_law_984_b.2.2.2.2.1
theorem dL_law_991 : decode cL_law 991 = .ok (.iconst 1, 1) := dL_law_984_b.2.2.2.2.2.1
theorem dL_law_992 : decode cL_law 992 = .ok (.iadd, 1) := dL_law_984_b.2.2.2.2.2.2.1
theorem dL_law_993 : decode cL_law 993 = .ok (.iaload, 1) := dL_law_984_b.2.2.2.2.2.2.2.1
theorem dL_law_994 : decode cL_law 994 = .ok (.invokevirtual 123, 3) := dL_law_984_b.2.2.2.2.2.2.2.2.1
theorem dL_law_997 : decode cL_law 997 = .ok (.pop, 1) := dL_law_984_b.2.2.2.2.2.2.2.2.2.1
theorem dL_law_998 : decode cL_law 998 = .ok (.aload_n 2, 1) := dL_law_984_b.2.2.2.2.2.2.2.2.2.2.1
theorem dL_law_999 : decode cL_law 999 = .ok (.aload_n 0, 1) := dL_law_984_b.2.2.2.2.2.2.2.2.2.2.2
theorem dL_law_1000_b : (decode cL_law 1000 = .ok (.iload_n 3, 1)) ∧ (decode cL_law 1001 = .ok (.iconst 1, 1)) ∧ (decode cL_law 1002 = .ok (.iadd, 1)) ∧ (decode cL_law 1003 = .ok (.iaload, 1)) ∧ (decode cL_law 1004 = .ok (.invokevirtual 126, 3)) ∧ (decode cL_law 1007 = .ok (.pop, 1)) ∧ (decode cL_law 1008 = .ok (.goto 151, 3)) ∧ (decode cL_law 1011 = .ok (.aload_n 1, 1)) ∧ (decode cL_law 1012 = .ok (.aload_n 0, 1)) ∧ (decode cL_law 1013 = .ok (.iload_n 3, 1)) ∧ (decode cL_law 1014 = .ok (.iconst 1, 1)) ∧ (decode cL_law 1015 = .ok (.iadd, 1)) := by decide +kernel
theorem dL_law_1000 : decode cL_law 1000 = .ok (.iload_n 3, 1) := dL_law_1000_b.1
theorem dL_law_1001 : decode cL_law 1001 = .ok (.iconst 1, 1) := dL_law_1000_b.2.1
theorem dL_law_1002 : decode cL_law 1002 = .ok (.iadd, 1) := dL_law_1000_b.2.2.1
theorem dL_law_1003 : decode cL_law 1003 = .ok (.iaload, 1) := dL_law_1000_b.2.2.2.1
theorem dL_law_1004 : decode cL_law 1004 = .ok (.invokevirtual 126, 3) := dL_law_1000_b.2.2.2.2.1
theorem dL_law_1007 : decode cL_law 1007 = .ok (.pop, 1) := dL_law_1000_b.2.2.2.2.2.1
theorem dL_law_1008 : decode cL_law 1008 = .ok (.goto 151, 3) := dL_law_1000_b.2.2.2.2.2.2.1
theorem dL_law_1011 : decode cL_law 1011 = .ok (.aload_n 1, 1) := dL_law_1000_b.2.2.2.2.2.2.2.1
theorem dL_law_1012 : decode cL_law 1012 = .ok (.aload_n 0, 1) := dL_law_1000_b.2.2.2.2.2.2.2.2.1
theorem dL_law_1013 : decode cL_law 1013 = .ok (.iload_n 3, 1) := dL_law_1000_b.2.2.2.2.2.2.2.2.2.1
theorem dL_law_1014 : decode cL_law 1014 = .ok (.iconst 1, 1) := dL_law_1000_b.2.2.2.2.2.2.2.2.2.2.1
theorem dL_law_1015 : decode cL_law 1015 = .ok (.iadd, 1) := dL_law_1000_b.2.2.2.2.2.2.2.2.2.2.2
theorem dL_law_1016_b : (decode cL_law 1016 = .ok (.iaload, 1)) ∧ (decode cL_law 1017 = .ok (.invokevirtual 127, 3)) ∧ (decode cL_law 1020 = .ok (.pop, 1)) ∧ (decode cL_law 1021 = .ok (.aload_n 2, 1)) ∧ (decode cL_law 1022 = .ok (.aload_n 0, 1)) ∧ (decode cL_law 1023 = .ok (.iload_n 3, 1)) ∧ (decode cL_law 1024 = .ok (.iconst 1, 1)) ∧ (decode cL_law 1025 = .ok (.iadd, 1)) ∧ (decode cL_law 1026 = .ok (.iaload, 1)) ∧ (decode cL_law 1027 = .ok (.invokevirtual 130, 3)) ∧ (decode cL_law 1030 = .ok (.pop, 1)) ∧ (decode cL_law 1031 = .ok (.goto 128, 3)) := by decide +kernel
theorem dL_law_1016 : decode cL_law 1016 = .ok (.iaload, 1) := dL_law_1016_b.1
theorem dL_law_1017 : decode cL_law 1017 = .ok (.invokevirtual 127, 3) := dL_law_1016_b.2.1
theorem dL_law_1020 : decode cL_law 1020 = .ok (.pop, 1) := dL_law_1016_b.2.2.1
theorem dL_law_1021 : decode cL_law 1021 = .ok (.aload_n 2, 1) := dL_law_1016_b.2.2.2.1
theorem dL_law_1022 : decode cL_law 1022 = .ok (.aload_n 0, 1) := dL_law_1016_b.2.2.2.2.1
theorem dL_law_1023 : decode cL_law 1023 = .ok (.iload_n 3, 1) := dL_law_1016_b.2.2.2.2.2.1
theorem dL_law_1024 : decode cL_law 1024 = .ok (.iconst 1, 1) := dL_law_1016_b.2.2.2.2.2.2.1
theorem dL_law_1025 : decode cL_law 1025 = .ok (.iadd, 1) := dL_law_1016_b.2.2.2.2.2.2.2.1
theorem dL_law_1026 : decode cL_law 1026 = .ok (.iaload, 1) := dL_law_1016_b.2.2.2.2.2.2.2.2.1
theorem dL_law_1027 : decode cL_law 1027 = .ok (.invokevirtual 130, 3) := dL_law_1016_b.2.2.2.2.2.2.2.2.2.1
theorem dL_law_1030 : decode cL_law 1030 = .ok (.pop, 1) := dL_law_1016_b.2.2.2.2.2.2.2.2.2.2.1
theorem dL_law_1031 : decode cL_law 1031 = .ok (.goto 128, 3) := dL_law_1016_b.2.2.2.2.2.2.2.2.2.2.2
theorem dL_law_1034_b : (decode cL_law 1034 = .ok (.aload_n 1, 1)) ∧ (decode cL_law 1035 = .ok (.aload_n 0, 1)) ∧ (decode cL_law 1036 = .ok (.iload_n 3, 1)) ∧ (decode cL_law 1037 = .ok (.iconst 1, 1)) ∧ (decode cL_law 1038 = .ok (.iadd, 1)) ∧ (decode cL_law 1039 = .ok (.iaload, 1)) ∧ (decode cL_law 1040 = .ok (.aload_n 0, 1)) ∧ (decode cL_law 1041 = .ok (.iload_n 3, 1)) ∧ (decode cL_law 1042 = .ok (.iconst 2, 1)) ∧ (decode cL_law 1043 = .ok (.iadd, 1)) ∧ (decode cL_law 1044 = .ok (.iaload, 1)) ∧ (decode cL_law 1045 = .ok (.invokevirtual 131, 3)) := by decide +kernel
theorem dL_law_1034 : decode cL_law 1034 = .ok (.aload_n 1, 1) := dL_law_1034_b.1
theorem dL_law_1035 : decode cL_law 1035 = .ok (.aload_n 0, 1) := dL_law_1034_b.2.1
theorem dL_law_1036 : decode cL_law 1036 = .ok (.iload_n 3, 1) := dL_law_1034_b.2.2.1
theorem dL_law_1037 : decode cL_law 1037 = .ok (.iconst 1, 1) := dL_law_1034_b.2.2.2.1
theorem dL_law_1038 : decode cL_law 1038 = .ok (.iadd, 1) := dL_law_1034_b.2.2.2.2.1
theorem dL_law_1039 : decode cL_law 1039 = .ok (.iaload, 1) := dL_law_1034_b.2.2.2.2.2.1
theorem dL_law_1040 : decode cL_law 1040 = .ok (.aload_n 0, 1) := dL_law_1034_b.2.2.2.2.2.2.1
theorem dL_law_1041 : decode cL_law 1041 = .ok (.iload_n 3, 1) := dL_law_1034_b.2.2.2.2.2.2.2.1
theorem dL_law_1042 : decode cL_law 1042 = .ok (.iconst 2, 1) := dL_law_1034_b.2.2.2.2.2.2.2.2.1
theorem dL_law_1043 : decode cL_law 1043 = .ok (.iadd, 1) := dL_law_1034_b.2.2.2.2.2.2.2.2.2.1
theorem dL_law_1044 : decode cL_law 1044 = .ok (.iaload, 1) := dL_law_1034_b.2.2.2.2.2.2.2.2.2.2.1
theorem dL_law_1045 : decode cL_law 1045 = .ok (.invokevirtual 131, 3) := dL_law_1034_b.2.2.2.2.2.2.2.2.2.2.2
theorem dL_law_1048_b : (decode cL_law 1048 = .ok (.pop, 1)) ∧ (decode cL_law 1049 = .ok (.aload_n 2, 1)) ∧ (decode cL_law 1050 = .ok (.aload_n 0, 1)) ∧ (decode cL_law 1051 = .ok (.iload_n 3, 1)) ∧ (decode cL_law 1052 = .ok (.iconst 1, 1)) ∧ (decode cL_law 1053 = .ok (.iadd, 1)) ∧ (decode cL_law 1054 = .ok (.iaload, 1)) ∧ (decode cL_law 1055 = .ok (.aload_n 0, 1)) ∧ (decode cL_law 1056 = .ok (.iload_n 3, 1)) ∧ (decode cL_law 1057 = .ok (.iconst 2, 1)) ∧ (decode cL_law 1058 = .ok (.iadd, 1)) ∧ (decode cL_law 1059 = .ok (.iaload, 1)) := by decide +kernel
theorem dL_law_1048 : decode cL_law 1048 = .ok (.pop, 1) := dL_law_1048_b.1
theorem dL_law_1049 : decode cL_law 1049 = .ok (.aload_n 2, 1) := dL_law_1048_b.2.1
theorem dL_law_1050 : decode cL_law 1050 = .ok (.aload_n 0, 1) := dL_law_1048_b.2.2.1
theorem dL_law_1051 : decode cL_law 1051 = .ok (.iload_n 3, 1) := dL_law_1048_b.2.2.2.1
theorem dL_law_1052 : decode cL_law 1052 = .ok (.iconst 1, 1) := dL_law_1048_b.2.2.2.2.1
theorem dL_law_1053 : decode cL_law 1053 = .ok (.iadd, 1) := dL_law_1048_b.2.2.2.2.2.1
theorem dL_law_1054 : decode cL_law 1054 = .ok (.iaload, 1) := dL_law_1048_b.2.2.2.2.2.2.1
theorem dL_law_1055 : decode cL_law 1055 = .ok (.aload_n 0, 1) := dL_law_1048_b.2.2.2.2.2.2.2.1
theorem dL_law_1056 : decode cL_law 1056 = .ok (.iload_n 3, 1) := dL_law_1048_b.2.2.2.2.2.2.2.2.1
theorem dL_law_1057 : decode cL_law 1057 = .ok (.iconst 2, 1) := dL_law_1048_b.2.2.2.2.2.2.2.2.2.1
theorem dL_law_1058 : decode cL_law 1058 = .ok (.iadd, 1) := dL_law_1048_b.2.2.2.2.2.2.2.2.2.2.1
theorem dL_law_1059 : decode cL_law 1059 = .ok (.iaload, 1) := dL_law_1048_b.2.2.2.2.2.2.2.2.2.2.2
theorem dL_law_1060_b : (decode cL_law 1060 = .ok (.invokevirtual 134, 3)) ∧ (decode cL_law 1063 = .ok (.pop, 1)) ∧ (decode cL_law 1064 = .ok (.goto 95, 3)) ∧ (decode cL_law 1067 = .ok (.aload_n 1, 1)) ∧ (decode cL_law 1068 = .ok (.aload_n 0, 1)) ∧ (decode cL_law 1069 = .ok (.iload_n 3, 1)) ∧ (decode cL_law 1070 = .ok (.iconst 1, 1)) ∧ (decode cL_law 1071 = .ok (.iadd, 1)) ∧ (decode cL_law 1072 = .ok (.iaload, 1)) ∧ (decode cL_law 1073 = .ok (.aload_n 0, 1)) ∧ (decode cL_law 1074 = .ok (.iload_n 3, 1)) ∧ (decode cL_law 1075 = .ok (.iconst 2, 1)) := by decide +kernel
theorem dL_law_1060 : decode cL_law 1060 = .ok (.invokevirtual 134, 3) := dL_law_1060_b.1
theorem dL_law_1063 : decode cL_law 1063 = .ok (.pop, 1) := dL_law_1060_b.2.1
theorem dL_law_1064 : decode cL_law 1064 = .ok (.goto 95, 3) := dL_law_1060_b.2.2.1
theorem dL_law_1067 : decode cL_law 1067 = .ok (.aload_n 1, 1) := dL_law_1060_b.2.2.2.1
theorem dL_law_1068 : decode cL_law 1068 = .ok (.aload_n 0, 1) := dL_law_1060_b.2.2.2.2.1
theorem dL_law_1069 : decode cL_law 1069 = .ok (.iload_n 3, 1) := dL_law_1060_b.2.2.2.2.2.1
theorem dL_law_1070 : decode cL_law 1070 = .ok (.iconst 1, 1) := dL_law_1060_b.2.2.2.2.2.2.1
theorem dL_law_1071 : decode cL_law 1071 = .ok (.iadd, 1) := dL_law_1060_b.2.2.2.2.2.2.2.1
theorem dL_law_1072 : decode cL_law 1072 = .ok (.iaload, 1) := dL_law_1060_b.2.2.2.2.2.2.2.2.1
theorem dL_law_1073 : decode cL_law 1073 = .ok (.aload_n 0, 1) := dL_law_1060_b.2.2.2.2.2.2.2.2.2.1
theorem dL_law_1074 : decode cL_law 1074 = .ok (.iload_n 3, 1) := dL_law_1060_b.2.2.2.2.2.2.2.2.2.2.1
theorem dL_law_1075 : decode cL_law 1075 = .ok (.iconst 2, 1) := dL_law_1060_b.2.2.2.2.2.2.2.2.2.2.2
theorem dL_law_1076_b : (decode cL_law 1076 = .ok (.iadd, 1)) ∧ (decode cL_law 1077 = .ok (.iaload, 1)) ∧ (decode cL_law 1078 = .ok (.invokevirtual 135, 3)) ∧ (decode cL_law 1081 = .ok (.pop, 1)) ∧ (decode cL_law 1082 = .ok (.aload_n 2, 1)) ∧ (decode cL_law 1083 = .ok (.aload_n 0, 1)) ∧ (decode cL_law 1084 = .ok (.iload_n 3, 1)) ∧ (decode cL_law 1085 = .ok (.iconst 1, 1)) ∧ (decode cL_law 1086 = .ok (.iadd, 1)) ∧ (decode cL_law 1087 = .ok (.iaload, 1)) ∧ (decode cL_law 1088 = .ok (.aload_n 0, 1)) ∧ (decode cL_law 1089 = .ok (.iload_n 3, 1)) := by decide +kernel
theorem dL_law_1076 : decode cL_law 1076 = .ok (.iadd, 1) := dL_law_1076_b.1
theorem dL_law_1077 : decode cL_law 1077 = .ok (.iaload, 1) := dL_law_1076_b.2.1
theorem dL_law_1078 : decode cL_law 1078 = .ok (.invokevirtual 135, 3) := dL_law_1076_b.2.2.1
theorem dL_law_1081 : decode cL_law 1081 = .ok (.pop, 1) := dL_law_1076_b.2.2.2.1
theorem dL_law_1082 : decode cL_law 1082 = .ok (.aload_n 2, 1) := dL_law_1076_b.2.2.2.2.1
theorem dL_law_1083 : decode cL_law 1083 = .ok (.aload_n 0, 1) := dL_law_1076_b.2.2.2.2.2.1
theorem dL_law_1084 : decode cL_law 1084 = .ok (.iload_n 3, 1) := dL_law_1076_b.2.2.2.2.2.2.1
theorem dL_law_1085 : decode cL_law 1085 = .ok (.iconst 1, 1) := dL_law_1076_b.2.2.2.2.2.2.2.1
theorem dL_law_1086 : decode cL_law 1086 = .ok (.iadd, 1) := dL_law_1076_b.2.2.2.2.2.2.2.2.1
theorem dL_law_1087 : decode cL_law 1087 = .ok (.iaload, 1) := dL_law_1076_b.2.2.2.2.2.2.2.2.2.1
theorem dL_law_1088 : decode cL_law 1088 = .ok (.aload_n 0, 1) := dL_law_1076_b.2.2.2.2.2.2.2.2.2.2.1
theorem dL_law_1089 : decode cL_law 1089 = .ok (.iload_n 3, 1) := dL_law_1076_b.2.2.2.2.2.2.2.2.2.2.2
theorem dL_law_1090_b : (decode cL_law 1090 = .ok (.iconst 2, 1)) ∧ (decode cL_law 1091 = .ok (.iadd, 1)) ∧ (decode cL_law 1092 = .ok (.iaload, 1)) ∧ (decode cL_law 1093 = .ok (.invokevirtual 138, 3)) ∧ (decode cL_law 1096 = .ok (.pop, 1)) ∧ (decode cL_law 1097 = .ok (.goto 62, 3)) ∧ (decode cL_law 1100 = .ok (.aload_n 1, 1)) ∧ (decode cL_law 1101 = .ok (.aload_n 0, 1)) ∧ (decode cL_law 1102 = .ok (.iload_n 3, 1)) ∧ (decode cL_law 1103 = .ok (.iconst 1, 1)) ∧ (decode cL_law 1104 = .ok (.iadd, 1)) ∧ (decode cL_law 1105 = .ok (.iaload, 1)) := by decide +kernel
theorem dL_law_1090 : decode cL_law 1090 = .ok (.iconst 2, 1) := dL_law_1090_b.1
theorem dL_law_1091 : decode cL_law 1091 = .ok (.iadd, 1) := dL_law_1090_b.2.1
theorem dL_law_1092 : decode cL_law 1092 = .ok (.iaload, 1) := dL_law_1090_b.2.2.1
theorem dL_law_1093 : decode cL_law 1093 = .ok (.invokevirtual 138, 3) := dL_law_1090_b.2.2.2.1
theorem dL_law_1096 : decode cL_law 1096 = .ok (.pop, 1) := dL_law_1090_b.2.2.2.2.1
theorem dL_law_1097 : decode cL_law 1097 = .ok (.goto 62, 3) := dL_law_1090_b.2.2.2.2.2.1
theorem dL_law_1100 : decode cL_law 1100 = .ok (.aload_n 1, 1) := dL_law_1090_b.2.2.2.2.2.2.1
theorem dL_law_1101 : decode cL_law 1101 = .ok (.aload_n 0, 1) := dL_law_1090_b.2.2.2.2.2.2.2.1
theorem dL_law_1102 : decode cL_law 1102 = .ok (.iload_n 3, 1) := dL_law_1090_b.2.2.2.2.2.2.2.2.1
theorem dL_law_1103 : decode cL_law 1103 = .ok (.iconst 1, 1) := dL_law_1090_b.2.2.2.2.2.2.2.2.2.1
theorem dL_law_1104 : decode cL_law 1104 = .ok (.iadd, 1) := dL_law_1090_b.2.2.2.2.2.2.2.2.2.2.1
theorem dL_law_1105 : decode cL_law 1105 = .ok (.iaload, 1) := dL_law_1090_b.2.2.2.2.2.2.2.2.2.2.2
theorem dL_law_1106_b : (decode cL_law 1106 = .ok (.invokevirtual 139, 3)) ∧ (decode cL_law 1109 = .ok (.pop, 1)) ∧ (decode cL_law 1110 = .ok (.aload_n 2, 1)) ∧ (decode cL_law 1111 = .ok (.aload_n 0, 1)) ∧ (decode cL_law 1112 = .ok (.iload_n 3, 1)) ∧ (decode cL_law 1113 = .ok (.iconst 1, 1)) ∧ (decode cL_law 1114 = .ok (.iadd, 1)) ∧ (decode cL_law 1115 = .ok (.iaload, 1)) ∧ (decode cL_law 1116 = .ok (.invokevirtual 142, 3)) ∧ (decode cL_law 1119 = .ok (.pop, 1)) ∧ (decode cL_law 1120 = .ok (.goto 39, 3)) ∧ (decode cL_law 1123 = .ok (.aload_n 1, 1)) := by decide +kernel
theorem dL_law_1106 : decode cL_law 1106 = .ok (.invokevirtual 139, 3) := dL_law_1106_b.1
theorem dL_law_1109 : decode cL_law 1109 = .ok (.pop, 1) := dL_law_1106_b.2.1
theorem dL_law_1110 : decode cL_law 1110 = .ok (.aload_n 2, 1) := dL_law_1106_b.2.2.1
theorem dL_law_1111 : decode cL_law 1111 = .ok (.aload_n 0, 1) := dL_law_1106_b.2.2.2.1
theorem dL_law_1112 : decode cL_law 1112 = .ok (.iload_n 3, 1) := dL_law_1106_b.2.2.2.2.1
theorem dL_law_1113 : decode cL_law 1113 = .ok (.iconst 1, 1) := dL_law_1106_b.2.2.2.2.2.1
theorem dL_law_1114 : decode cL_law 1114 = .ok (.iadd, 1) := dL_law_1106_b.2.2.2.2.2.2.1
theorem dL_law_1115 : decode cL_law 1115 = .ok (.iaload, 1) := dL_law_1106_b.2.2.2.2.2.2.2.1
theorem dL_law_1116 : decode cL_law 1116 = .ok (.invokevirtual 142, 3) := dL_law_1106_b.2.2.2.2.2.2.2.2.1
theorem dL_law_1119 : decode cL_law 1119 = .ok (.pop, 1) := dL_law_1106_b.2.2.2.2.2.2.2.2.2.1
theorem dL_law_1120 : decode cL_law 1120 = .ok (.goto 39, 3) := dL_law_1106_b.2.2.2.2.2.2.2.2.2.2.1
theorem dL_law_1123 : decode cL_law 1123 = .ok (.aload_n 1, 1) := dL_law_1106_b.2.2.2.2.2.2.2.2.2.2.2
theorem dL_law_1124_b : (decode cL_law 1124 = .ok (.aload_n 0, 1)) ∧ (decode cL_law 1125 = .ok (.iload_n 3, 1)) ∧ (decode cL_law 1126 = .ok (.iconst 1, 1)) ∧ (decode cL_law 1127 = .ok (.iadd, 1)) ∧ (decode cL_law 1128 = .ok (.iaload, 1)) ∧ (decode cL_law 1129 = .ok (.invokevirtual 143, 3)) ∧ (decode cL_law 1132 = .ok (.pop, 1)) ∧ (decode cL_law 1133 = .ok (.aload_n 2, 1)) ∧ (decode cL_law 1134 = .ok (.aload_n 0, 1)) ∧ (decode cL_law 1135 = .ok (.iload_n 3, 1)) ∧ (decode cL_law 1136 = .ok (.iconst 1, 1)) ∧ (decode cL_law 1137 = .ok (.iadd, 1)) := by decide +kernel
theorem dL_law_1124 : decode cL_law 1124 = .ok (.aload_n 0, 1) := dL_law_1124_b.1
theorem dL_law_1125 : decode cL_law 1125 = .ok (.iload_n 3, 1) := dL_law_1124_b.2.1
theorem dL_law_1126 : decode cL_law 1126 = .ok (.iconst 1, 1) := dL_law_1124_b.2.2.1
theorem dL_law_1127 : decode cL_law 1127 = .ok (.iadd, 1) := dL_law_1124_b.2.2.2.1
theorem dL_law_1128 : decode cL_law 1128 = .ok (.iaload, 1) := dL_law_1124_b.2.2.2.2.1
theorem dL_law_1129 : decode cL_law 1129 = .ok (.invokevirtual 143, 3) := dL_law_1124_b.2.2.2.2.2.1
theorem dL_law_1132 : decode cL_law 1132 = .ok (.pop, 1) := dL_law_1124_b.2.2.2.2.2.2.1
theorem dL_law_1133 : decode cL_law 1133 = .ok (.aload_n 2, 1) := dL_law_1124_b.2.2.2.2.2.2.2.1
theorem dL_law_1134 : decode cL_law 1134 = .ok (.aload_n 0, 1) := dL_law_1124_b.2.2.2.2.2.2.2.2.1
theorem dL_law_1135 : decode cL_law 1135 = .ok (.iload_n 3, 1) := dL_law_1124_b.2.2.2.2.2.2.2.2.2.1
theorem dL_law_1136 : decode cL_law 1136 = .ok (.iconst 1, 1) := dL_law_1124_b.2.2.2.2.2.2.2.2.2.2.1
theorem dL_law_1137 : decode cL_law 1137 = .ok (.iadd, 1) := dL_law_1124_b.2.2.2.2.2.2.2.2.2.2.2
theorem dL_law_1138_b : (decode cL_law 1138 = .ok (.iaload, 1)) ∧ (decode cL_law 1139 = .ok (.invokevirtual 146, 3)) ∧ (decode cL_law 1142 = .ok (.pop, 1)) ∧ (decode cL_law 1143 = .ok (.goto 16, 3)) ∧ (decode cL_law 1146 = .ok (.aload_n 1, 1)) ∧ (decode cL_law 1147 = .ok (.invokevirtual 147, 3)) ∧ (decode cL_law 1150 = .ok (.aload_n 2, 1)) ∧ (decode cL_law 1151 = .ok (.invokevirtual 150, 3)) ∧ (decode cL_law 1154 = .ok (.if_icmp .eq 5, 3)) ∧ (decode cL_law 1157 = .ok (.iconst 0, 1)) ∧ (decode cL_law 1158 = .ok (.ireturn, 1)) ∧ (decode cL_law 1159 = .ok (.iinc 3 6, 3)) := by decide +kernel
theorem dL_law_1138 : decode cL_law 1138 = .ok (.iaload, 1) := dL_law_1138_b.1
theorem dL_law_1139 : decode cL_law 1139 = .ok (.invokevirtual 146, 3) := dL_law_1138_b.2.1
theorem dL_law_1142 : decode cL_law 1142 = .ok (.pop, 1) := dL_law_1138_b.2.2.1
theorem dL_law_1143 : decode cL_law 1143 = .ok (.goto 16, 3) := dL_law_1138_b.2.2.2.1
theorem dL_law_1146 : decode cL_law 1146 = .ok (.aload_n 1, 1) := dL_law_1138_b.2.2.2.2.1
theorem dL_law_1147 : decode cL_law 1147 = .ok (.invokevirtual 147, 3) := dL_law_1138_b.2.2.2.2.2.1
theorem dL_law_1150 : decode cL_law 1150 = .ok (.aload_n 2, 1) := dL_law_1138_b.2.2.2.2.2.2.1
theorem dL_law_1151 : decode cL_law 1151 = .ok (.invokevirtual 150, 3) := dL_law_1138_b.2.2.2.2.2.2.2.1
theorem dL_law_1154 : decode cL_law 1154 = .ok (.if_icmp .eq 5, 3) := dL_law_1138_b.2.2.2.2.2.2.2.2.1
theorem dL_law_1157 : decode cL_law 1157 = .ok (.iconst 0, 1) := dL_law_1138_b.2.2.2.2.2.2.2.2.2.1
theorem dL_law_1158 : decode cL_law 1158 = .ok (.ireturn, 1) := dL_law_1138_b.2.2.2.2.2.2.2.2.2.2.1
theorem dL_law_1159 : decode cL_law 1159 = .ok (.iinc 3 6, 3) := dL_law_1138_b.2.2.2.2.2.2.2.2.2.2.2
theorem dL_law_1162_b : (decode cL_law 1162 = .ok (.goto (-1144), 3)) ∧ (decode cL_law 1165 = .ok (.iconst 1, 1)) ∧ (decode cL_law 1166 = .ok (.ireturn, 1)) := by decide +kernel
theorem dL_law_1162 : decode cL_law 1162 = .ok (.goto (-1144), 3) := dL_law_1162_b.1
theorem dL_law_1165 : decode cL_law 1165 = .ok (.iconst 1, 1) := dL_law_1162_b.2.1
theorem dL_law_1166 : decode cL_law 1166 = .ok (.ireturn, 1) := dL_law_1162_b.2.2
