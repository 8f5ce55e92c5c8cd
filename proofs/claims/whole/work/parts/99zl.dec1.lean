theorem dW_0 : decode code 0 = .ok (.new 7, 3) := by decide +kernel
theorem dW_3 : decode code 3 = .ok (.dup, 1) := by decide +kernel
theorem dW_4 : decode code 4 = .ok (.invokespecial 9, 3) := by decide +kernel
theorem dW_7 : decode code 7 = .ok (.astore_n 1, 1) := by decide +kernel
theorem dW_8 : decode code 8 = .ok (.new 10, 3) := by decide +kernel
theorem dW_11 : decode code 11 = .ok (.dup, 1) := by decide +kernel
theorem dW_12 : decode code 12 = .ok (.invokespecial 12, 3) := by decide +kernel
theorem dW_15 : decode code 15 = .ok (.astore_n 2, 1) := by decide +kernel
theorem dW_16 : decode code 16 = .ok (.iconst 0, 1) := by decide +kernel
theorem dW_17 : decode code 17 = .ok (.istore_n 3, 1) := by decide +kernel
theorem dW_18 : decode code 18 = .ok (.iload_n 3, 1) := by decide +kernel
theorem dW_19 : decode code 19 = .ok (.aload_n 0, 1) := by decide +kernel
theorem dW_20 : decode code 20 = .ok (.arraylength, 1) := by decide +kernel
theorem dW_21 : decode code 21 = .ok (.bipush 9, 2) := by decide +kernel
theorem dW_23 : decode code 23 = .ok (.isub, 1) := by decide +kernel
theorem dW_24 : decode code 24 = .ok (.if_icmp .gt 1229, 3) := by decide +kernel
theorem dW_27 : decode code 27 = .ok (.aload_n 0, 1) := by decide +kernel
theorem dW_28 : decode code 28 = .ok (.iload_n 3, 1) := by decide +kernel
theorem dW_29 : decode code 29 = .ok (.iaload, 1) := by decide +kernel
theorem dW_30 : decode code 30 = .ok (.bipush 31, 2) := by decide +kernel
theorem dW_32 : decode code 32 = .ok (.iand, 1) := by decide +kernel
theorem dW_33 : decode code 33 = .ok (.tableswitch 1214 0 29 #[135, 198, 267, 370, 433, 496, 529, 542, 555, 578, 601, 614, 637, 670, 683, 707, 730, 753, 777, 801, 824, 847, 881, 914, 947, 1086, 1110, 1144, 1177, 1200], 135) := by decide +kernel
theorem dW_168 : decode code 168 = .ok (.aload_n 1, 1) := by decide +kernel
theorem dW_169 : decode code 169 = .ok (.aload_n 0, 1) := by decide +kernel
theorem dW_170 : decode code 170 = .ok (.iload_n 3, 1) := by decide +kernel
theorem dW_171 : decode code 171 = .ok (.iconst 1, 1) := by decide +kernel
theorem dW_172 : decode code 172 = .ok (.iadd, 1) := by decide +kernel
theorem dW_173 : decode code 173 = .ok (.iaload, 1) := by decide +kernel
theorem dW_174 : decode code 174 = .ok (.aload_n 0, 1) := by decide +kernel
theorem dW_175 : decode code 175 = .ok (.iload_n 3, 1) := by decide +kernel
theorem dW_176 : decode code 176 = .ok (.iconst 2, 1) := by decide +kernel
theorem dW_177 : decode code 177 = .ok (.iadd, 1) := by decide +kernel
theorem dW_178 : decode code 178 = .ok (.iaload, 1) := by decide +kernel
theorem dW_179 : decode code 179 = .ok (.i2l, 1) := by decide +kernel
theorem dW_180 : decode code 180 = .ok (.bipush 32, 2) := by decide +kernel
theorem dW_182 : decode code 182 = .ok (.lshl, 1) := by decide +kernel
theorem dW_183 : decode code 183 = .ok (.aload_n 0, 1) := by decide +kernel
theorem dW_184 : decode code 184 = .ok (.iload_n 3, 1) := by decide +kernel
theorem dW_185 : decode code 185 = .ok (.iconst 3, 1) := by decide +kernel
theorem dW_186 : decode code 186 = .ok (.iadd, 1) := by decide +kernel
theorem dW_187 : decode code 187 = .ok (.iaload, 1) := by decide +kernel
theorem dW_188 : decode code 188 = .ok (.i2l, 1) := by decide +kernel
theorem dW_189 : decode code 189 = .ok (.ldc2_w 13, 3) := by decide +kernel
theorem dW_192 : decode code 192 = .ok (.land, 1) := by decide +kernel
theorem dW_193 : decode code 193 = .ok (.lor, 1) := by decide +kernel
theorem dW_194 : decode code 194 = .ok (.invokevirtual 15, 3) := by decide +kernel
theorem dW_197 : decode code 197 = .ok (.aload_n 2, 1) := by decide +kernel
theorem dW_198 : decode code 198 = .ok (.aload_n 0, 1) := by decide +kernel
theorem dW_199 : decode code 199 = .ok (.iload_n 3, 1) := by decide +kernel
theorem dW_200 : decode code 200 = .ok (.iconst 1, 1) := by decide +kernel
theorem dW_201 : decode code 201 = .ok (.iadd, 1) := by decide +kernel
theorem dW_202 : decode code 202 = .ok (.iaload, 1) := by decide +kernel
theorem dW_203 : decode code 203 = .ok (.aload_n 0, 1) := by decide +kernel
theorem dW_204 : decode code 204 = .ok (.iload_n 3, 1) := by decide +kernel
theorem dW_205 : decode code 205 = .ok (.iconst 2, 1) := by decide +kernel
theorem dW_206 : decode code 206 = .ok (.iadd, 1) := by decide +kernel
theorem dW_207 : decode code 207 = .ok (.iaload, 1) := by decide +kernel
theorem dW_208 : decode code 208 = .ok (.i2l, 1) := by decide +kernel
theorem dW_209 : decode code 209 = .ok (.bipush 32, 2) := by decide +kernel
theorem dW_211 : decode code 211 = .ok (.lshl, 1) := by decide +kernel
theorem dW_212 : decode code 212 = .ok (.aload_n 0, 1) := by decide +kernel
theorem dW_213 : decode code 213 = .ok (.iload_n 3, 1) := by decide +kernel
theorem dW_214 : decode code 214 = .ok (.iconst 3, 1) := by decide +kernel
theorem dW_215 : decode code 215 = .ok (.iadd, 1) := by decide +kernel
theorem dW_216 : decode code 216 = .ok (.iaload, 1) := by decide +kernel
theorem dW_217 : decode code 217 = .ok (.i2l, 1) := by decide +kernel
theorem dW_218 : decode code 218 = .ok (.ldc2_w 13, 3) := by decide +kernel
theorem dW_221 : decode code 221 = .ok (.land, 1) := by decide +kernel
theorem dW_222 : decode code 222 = .ok (.lor, 1) := by decide +kernel
theorem dW_223 : decode code 223 = .ok (.invokevirtual 19, 3) := by decide +kernel
theorem dW_226 : decode code 226 = .ok (.if_icmp .eq 1021, 3) := by decide +kernel
theorem dW_229 : decode code 229 = .ok (.iconst 0, 1) := by decide +kernel
theorem dW_230 : decode code 230 = .ok (.ireturn, 1) := by decide +kernel
theorem dW_231 : decode code 231 = .ok (.aload_n 1, 1) := by decide +kernel
theorem dW_232 : decode code 232 = .ok (.aload_n 0, 1) := by decide +kernel
theorem dW_233 : decode code 233 = .ok (.iload_n 3, 1) := by decide +kernel
theorem dW_234 : decode code 234 = .ok (.iconst 1, 1) := by decide +kernel
theorem dW_235 : decode code 235 = .ok (.iadd, 1) := by decide +kernel
theorem dW_236 : decode code 236 = .ok (.iaload, 1) := by decide +kernel
theorem dW_237 : decode code 237 = .ok (.aload_n 0, 1) := by decide +kernel
theorem dW_238 : decode code 238 = .ok (.iload_n 3, 1) := by decide +kernel
theorem dW_239 : decode code 239 = .ok (.iconst 2, 1) := by decide +kernel
theorem dW_240 : decode code 240 = .ok (.iadd, 1) := by decide +kernel
theorem dW_241 : decode code 241 = .ok (.iaload, 1) := by decide +kernel
theorem dW_242 : decode code 242 = .ok (.aload_n 0, 1) := by decide +kernel
theorem dW_243 : decode code 243 = .ok (.iload_n 3, 1) := by decide +kernel
theorem dW_244 : decode code 244 = .ok (.iconst 3, 1) := by decide +kernel
theorem dW_245 : decode code 245 = .ok (.iadd, 1) := by decide +kernel
theorem dW_246 : decode code 246 = .ok (.iaload, 1) := by decide +kernel
theorem dW_247 : decode code 247 = .ok (.aload_n 0, 1) := by decide +kernel
theorem dW_248 : decode code 248 = .ok (.iload_n 3, 1) := by decide +kernel
theorem dW_249 : decode code 249 = .ok (.iconst 4, 1) := by decide +kernel
theorem dW_250 : decode code 250 = .ok (.iadd, 1) := by decide +kernel
theorem dW_251 : decode code 251 = .ok (.iaload, 1) := by decide +kernel
theorem dW_252 : decode code 252 = .ok (.ifCond .eq 7, 3) := by decide +kernel
theorem dW_255 : decode code 255 = .ok (.iconst 1, 1) := by decide +kernel
theorem dW_256 : decode code 256 = .ok (.goto 4, 3) := by decide +kernel
theorem dW_259 : decode code 259 = .ok (.iconst 0, 1) := by decide +kernel
theorem dW_260 : decode code 260 = .ok (.invokevirtual 20, 3) := by decide +kernel
theorem dW_263 : decode code 263 = .ok (.aload_n 2, 1) := by decide +kernel
theorem dW_264 : decode code 264 = .ok (.aload_n 0, 1) := by decide +kernel
theorem dW_265 : decode code 265 = .ok (.iload_n 3, 1) := by decide +kernel
theorem dW_266 : decode code 266 = .ok (.iconst 1, 1) := by decide +kernel
theorem dW_267 : decode code 267 = .ok (.iadd, 1) := by decide +kernel
theorem dW_268 : decode code 268 = .ok (.iaload, 1) := by decide +kernel
theorem dW_269 : decode code 269 = .ok (.aload_n 0, 1) := by decide +kernel
theorem dW_270 : decode code 270 = .ok (.iload_n 3, 1) := by decide +kernel
theorem dW_271 : decode code 271 = .ok (.iconst 2, 1) := by decide +kernel
theorem dW_272 : decode code 272 = .ok (.iadd, 1) := by decide +kernel
theorem dW_273 : decode code 273 = .ok (.iaload, 1) := by decide +kernel
theorem dW_274 : decode code 274 = .ok (.aload_n 0, 1) := by decide +kernel
theorem dW_275 : decode code 275 = .ok (.iload_n 3, 1) := by decide +kernel
theorem dW_276 : decode code 276 = .ok (.iconst 3, 1) := by decide +kernel
theorem dW_277 : decode code 277 = .ok (.iadd, 1) := by decide +kernel
theorem dW_278 : decode code 278 = .ok (.iaload, 1) := by decide +kernel
theorem dW_279 : decode code 279 = .ok (.aload_n 0, 1) := by decide +kernel
theorem dW_280 : decode code 280 = .ok (.iload_n 3, 1) := by decide +kernel
theorem dW_281 : decode code 281 = .ok (.iconst 4, 1) := by decide +kernel
theorem dW_282 : decode code 282 = .ok (.iadd, 1) := by decide +kernel
theorem dW_283 : decode code 283 = .ok (.iaload, 1) := by decide +kernel
theorem dW_284 : decode code 284 = .ok (.ifCond .eq 7, 3) := by decide +kernel
theorem dW_287 : decode code 287 = .ok (.iconst 1, 1) := by decide +kernel
theorem dW_288 : decode code 288 = .ok (.goto 4, 3) := by decide +kernel
theorem dW_291 : decode code 291 = .ok (.iconst 0, 1) := by decide +kernel
theorem dW_292 : decode code 292 = .ok (.invokevirtual 24, 3) := by decide +kernel
theorem dW_295 : decode code 295 = .ok (.if_icmp .eq 952, 3) := by decide +kernel
theorem dW_298 : decode code 298 = .ok (.iconst 0, 1) := by decide +kernel
theorem dW_299 : decode code 299 = .ok (.ireturn, 1) := by decide +kernel
theorem dW_300 : decode code 300 = .ok (.aload_n 1, 1) := by decide +kernel
theorem dW_301 : decode code 301 = .ok (.aload_n 0, 1) := by decide +kernel
theorem dW_302 : decode code 302 = .ok (.iload_n 3, 1) := by decide +kernel
theorem dW_303 : decode code 303 = .ok (.iconst 1, 1) := by decide +kernel
theorem dW_304 : decode code 304 = .ok (.iadd, 1) := by decide +kernel
theorem dW_305 : decode code 305 = .ok (.iaload, 1) := by decide +kernel
theorem dW_306 : decode code 306 = .ok (.aload_n 0, 1) := by decide +kernel
theorem dW_307 : decode code 307 = .ok (.iload_n 3, 1) := by decide +kernel
theorem dW_308 : decode code 308 = .ok (.iconst 2, 1) := by decide +kernel
theorem dW_309 : decode code 309 = .ok (.iadd, 1) := by decide +kernel
theorem dW_310 : decode code 310 = .ok (.iaload, 1) := by decide +kernel
theorem dW_311 : decode code 311 = .ok (.i2l, 1) := by decide +kernel
theorem dW_312 : decode code 312 = .ok (.bipush 32, 2) := by decide +kernel
theorem dW_314 : decode code 314 = .ok (.lshl, 1) := by decide +kernel
theorem dW_315 : decode code 315 = .ok (.aload_n 0, 1) := by decide +kernel
theorem dW_316 : decode code 316 = .ok (.iload_n 3, 1) := by decide +kernel
theorem dW_317 : decode code 317 = .ok (.iconst 3, 1) := by decide +kernel
