theorem zcL_0 : decode code 0 = .ok (.new 7, 3) ∧ decode code 3 = .ok (.dup, 1) ∧ decode code 4 = .ok (.invokespecial 9, 3) ∧ decode code 7 = .ok (.astore_n 1, 1) ∧ decode code 8 = .ok (.new 10, 3) ∧ decode code 11 = .ok (.dup, 1) ∧ decode code 12 = .ok (.invokespecial 12, 3) ∧ decode code 15 = .ok (.astore_n 2, 1) := by decide +kernel
theorem dL_law_0 : decode code 0 = .ok (.new 7, 3) := zcL_0.1
theorem dL_law_3 : decode code 3 = .ok (.dup, 1) := zcL_0.2.1
theorem dL_law_4 : decode code 4 = .ok (.invokespecial 9, 3) := zcL_0.2.2.1
theorem dL_law_7 : decode code 7 = .ok (.astore_n 1, 1) := zcL_0.2.2.2.1
theorem dL_law_8 : decode code 8 = .ok (.new 10, 3) := zcL_0.2.2.2.2.1
theorem dL_law_11 : decode code 11 = .ok (.dup, 1) := zcL_0.2.2.2.2.2.1
theorem dL_law_12 : decode code 12 = .ok (.invokespecial 12, 3) := zcL_0.2.2.2.2.2.2.1
theorem dL_law_15 : decode code 15 = .ok (.astore_n 2, 1) := zcL_0.2.2.2.2.2.2.2
theorem zcL_8 : decode code 16 = .ok (.iconst 0, 1) ∧ decode code 17 = .ok (.istore_n 3, 1) ∧ decode code 18 = .ok (.iload_n 3, 1) ∧ decode code 19 = .ok (.aload_n 0, 1) ∧ decode code 20 = .ok (.arraylength, 1) ∧ decode code 21 = .ok (.bipush 6, 2) ∧ decode code 23 = .ok (.isub, 1) ∧ decode code 24 = .ok (.if_icmp .gt 1110, 3) := by decide +kernel
theorem dL_law_16 : decode code 16 = .ok (.iconst 0, 1) := zcL_8.1
theorem dL_law_17 : decode code 17 = .ok (.istore_n 3, 1) := zcL_8.2.1
theorem dL_law_18 : decode code 18 = .ok (.iload_n 3, 1) := zcL_8.2.2.1
theorem dL_law_19 : decode code 19 = .ok (.aload_n 0, 1) := zcL_8.2.2.2.1
theorem dL_law_20 : decode code 20 = .ok (.arraylength, 1) := zcL_8.2.2.2.2.1
theorem dL_law_21 : decode code 21 = .ok (.bipush 6, 2) := zcL_8.2.2.2.2.2.1
theorem dL_law_23 : decode code 23 = .ok (.isub, 1) := zcL_8.2.2.2.2.2.2.1
theorem dL_law_24 : decode code 24 = .ok (.if_icmp .gt 1110, 3) := zcL_8.2.2.2.2.2.2.2
theorem zcL_16 : decode code 27 = .ok (.aload_n 0, 1) ∧ decode code 28 = .ok (.iload_n 3, 1) ∧ decode code 29 = .ok (.iaload, 1) ∧ decode code 30 = .ok (.bipush 31, 2) ∧ decode code 32 = .ok (.iand, 1) ∧ decode code 33 = .ok (.tableswitch 1095 0 31 #[143, 196, 219, 268, 301, 364, 387, 410, 433, 466, 499, 532, 565, 598, 611, 634, 657, 690, 723, 756, 799, 812, 835, 888, 921, 944, 977, 1000, 1023, 1036, 1049, 1072], 143) ∧ decode code 176 = .ok (.aload_n 1, 1) ∧ decode code 177 = .ok (.aload_n 0, 1) := by decide +kernel
theorem dL_law_27 : decode code 27 = .ok (.aload_n 0, 1) := zcL_16.1
theorem dL_law_28 : decode code 28 = .ok (.iload_n 3, 1) := zcL_16.2.1
theorem dL_law_29 : decode code 29 = .ok (.iaload, 1) := zcL_16.2.2.1
theorem dL_law_30 : decode code 30 = .ok (.bipush 31, 2) := zcL_16.2.2.2.1
theorem dL_law_32 : decode code 32 = .ok (.iand, 1) := zcL_16.2.2.2.2.1
theorem dL_law_33 : decode code 33 = .ok (.tableswitch 1095 0 31 #[143, 196, 219, 268, 301, 364, 387, 410, 433, 466, 499, 532, 565, 598, 611, 634, 657, 690, 723, 756, 799, 812, 835, 888, 921, 944, 977, 1000, 1023, 1036, 1049, 1072], 143) := zcL_16.2.2.2.2.2.1
theorem dL_law_176 : decode code 176 = .ok (.aload_n 1, 1) := zcL_16.2.2.2.2.2.2.1
theorem dL_law_177 : decode code 177 = .ok (.aload_n 0, 1) := zcL_16.2.2.2.2.2.2.2
theorem zcL_24 : decode code 178 = .ok (.iload_n 3, 1) ∧ decode code 179 = .ok (.iconst 1, 1) ∧ decode code 180 = .ok (.iadd, 1) ∧ decode code 181 = .ok (.iaload, 1) ∧ decode code 182 = .ok (.aload_n 0, 1) ∧ decode code 183 = .ok (.iload_n 3, 1) ∧ decode code 184 = .ok (.iconst 2, 1) ∧ decode code 185 = .ok (.iadd, 1) := by decide +kernel
theorem dL_law_178 : decode code 178 = .ok (.iload_n 3, 1) := zcL_24.1
theorem dL_law_179 : decode code 179 = .ok (.iconst 1, 1) := zcL_24.2.1
theorem dL_law_180 : decode code 180 = .ok (.iadd, 1) := zcL_24.2.2.1
theorem dL_law_181 : decode code 181 = .ok (.iaload, 1) := zcL_24.2.2.2.1
theorem dL_law_182 : decode code 182 = .ok (.aload_n 0, 1) := zcL_24.2.2.2.2.1
theorem dL_law_183 : decode code 183 = .ok (.iload_n 3, 1) := zcL_24.2.2.2.2.2.1
theorem dL_law_184 : decode code 184 = .ok (.iconst 2, 1) := zcL_24.2.2.2.2.2.2.1
theorem dL_law_185 : decode code 185 = .ok (.iadd, 1) := zcL_24.2.2.2.2.2.2.2
theorem zcL_32 : decode code 186 = .ok (.iaload, 1) ∧ decode code 187 = .ok (.aload_n 0, 1) ∧ decode code 188 = .ok (.iload_n 3, 1) ∧ decode code 189 = .ok (.iconst 3, 1) ∧ decode code 190 = .ok (.iadd, 1) ∧ decode code 191 = .ok (.iaload, 1) ∧ decode code 192 = .ok (.aload_n 0, 1) ∧ decode code 193 = .ok (.iload_n 3, 1) := by decide +kernel
theorem dL_law_186 : decode code 186 = .ok (.iaload, 1) := zcL_32.1
theorem dL_law_187 : decode code 187 = .ok (.aload_n 0, 1) := zcL_32.2.1
theorem dL_law_188 : decode code 188 = .ok (.iload_n 3, 1) := zcL_32.2.2.1
theorem dL_law_189 : decode code 189 = .ok (.iconst 3, 1) := zcL_32.2.2.2.1
theorem dL_law_190 : decode code 190 = .ok (.iadd, 1) := zcL_32.2.2.2.2.1
theorem dL_law_191 : decode code 191 = .ok (.iaload, 1) := zcL_32.2.2.2.2.2.1
theorem dL_law_192 : decode code 192 = .ok (.aload_n 0, 1) := zcL_32.2.2.2.2.2.2.1
theorem dL_law_193 : decode code 193 = .ok (.iload_n 3, 1) := zcL_32.2.2.2.2.2.2.2
theorem zcL_40 : decode code 194 = .ok (.iconst 4, 1) ∧ decode code 195 = .ok (.iadd, 1) ∧ decode code 196 = .ok (.iaload, 1) ∧ decode code 197 = .ok (.invokevirtual 13, 3) ∧ decode code 200 = .ok (.pop, 1) ∧ decode code 201 = .ok (.aload_n 2, 1) ∧ decode code 202 = .ok (.aload_n 0, 1) ∧ decode code 203 = .ok (.iload_n 3, 1) := by decide +kernel
theorem dL_law_194 : decode code 194 = .ok (.iconst 4, 1) := zcL_40.1
theorem dL_law_195 : decode code 195 = .ok (.iadd, 1) := zcL_40.2.1
theorem dL_law_196 : decode code 196 = .ok (.iaload, 1) := zcL_40.2.2.1
theorem dL_law_197 : decode code 197 = .ok (.invokevirtual 13, 3) := zcL_40.2.2.2.1
theorem dL_law_200 : decode code 200 = .ok (.pop, 1) := zcL_40.2.2.2.2.1
theorem dL_law_201 : decode code 201 = .ok (.aload_n 2, 1) := zcL_40.2.2.2.2.2.1
theorem dL_law_202 : decode code 202 = .ok (.aload_n 0, 1) := zcL_40.2.2.2.2.2.2.1
theorem dL_law_203 : decode code 203 = .ok (.iload_n 3, 1) := zcL_40.2.2.2.2.2.2.2
theorem zcL_48 : decode code 204 = .ok (.iconst 1, 1) ∧ decode code 205 = .ok (.iadd, 1) ∧ decode code 206 = .ok (.iaload, 1) ∧ decode code 207 = .ok (.aload_n 0, 1) ∧ decode code 208 = .ok (.iload_n 3, 1) ∧ decode code 209 = .ok (.iconst 2, 1) ∧ decode code 210 = .ok (.iadd, 1) ∧ decode code 211 = .ok (.iaload, 1) := by decide +kernel
theorem dL_law_204 : decode code 204 = .ok (.iconst 1, 1) := zcL_48.1
theorem dL_law_205 : decode code 205 = .ok (.iadd, 1) := zcL_48.2.1
theorem dL_law_206 : decode code 206 = .ok (.iaload, 1) := zcL_48.2.2.1
theorem dL_law_207 : decode code 207 = .ok (.aload_n 0, 1) := zcL_48.2.2.2.1
theorem dL_law_208 : decode code 208 = .ok (.iload_n 3, 1) := zcL_48.2.2.2.2.1
theorem dL_law_209 : decode code 209 = .ok (.iconst 2, 1) := zcL_48.2.2.2.2.2.1
theorem dL_law_210 : decode code 210 = .ok (.iadd, 1) := zcL_48.2.2.2.2.2.2.1
theorem dL_law_211 : decode code 211 = .ok (.iaload, 1) := zcL_48.2.2.2.2.2.2.2
theorem zcL_56 : decode code 212 = .ok (.aload_n 0, 1) ∧ decode code 213 = .ok (.iload_n 3, 1) ∧ decode code 214 = .ok (.iconst 3, 1) ∧ decode code 215 = .ok (.iadd, 1) ∧ decode code 216 = .ok (.iaload, 1) ∧ decode code 217 = .ok (.aload_n 0, 1) ∧ decode code 218 = .ok (.iload_n 3, 1) ∧ decode code 219 = .ok (.iconst 4, 1) := by decide +kernel
theorem dL_law_212 : decode code 212 = .ok (.aload_n 0, 1) := zcL_56.1
theorem dL_law_213 : decode code 213 = .ok (.iload_n 3, 1) := zcL_56.2.1
theorem dL_law_214 : decode code 214 = .ok (.iconst 3, 1) := zcL_56.2.2.1
theorem dL_law_215 : decode code 215 = .ok (.iadd, 1) := zcL_56.2.2.2.1
theorem dL_law_216 : decode code 216 = .ok (.iaload, 1) := zcL_56.2.2.2.2.1
theorem dL_law_217 : decode code 217 = .ok (.aload_n 0, 1) := zcL_56.2.2.2.2.2.1
theorem dL_law_218 : decode code 218 = .ok (.iload_n 3, 1) := zcL_56.2.2.2.2.2.2.1
theorem dL_law_219 : decode code 219 = .ok (.iconst 4, 1) := zcL_56.2.2.2.2.2.2.2
theorem zcL_64 : decode code 220 = .ok (.iadd, 1) ∧ decode code 221 = .ok (.iaload, 1) ∧ decode code 222 = .ok (.invokevirtual 17, 3) ∧ decode code 225 = .ok (.pop, 1) ∧ decode code 226 = .ok (.goto 902, 3) ∧ decode code 229 = .ok (.aload_n 1, 1) ∧ decode code 230 = .ok (.aload_n 0, 1) ∧ decode code 231 = .ok (.iload_n 3, 1) := by decide +kernel
theorem dL_law_220 : decode code 220 = .ok (.iadd, 1) := zcL_64.1
theorem dL_law_221 : decode code 221 = .ok (.iaload, 1) := zcL_64.2.1
theorem dL_law_222 : decode code 222 = .ok (.invokevirtual 17, 3) := zcL_64.2.2.1
theorem dL_law_225 : decode code 225 = .ok (.pop, 1) := zcL_64.2.2.2.1
theorem dL_law_226 : decode code 226 = .ok (.goto 902, 3) := zcL_64.2.2.2.2.1
theorem dL_law_229 : decode code 229 = .ok (.aload_n 1, 1) := zcL_64.2.2.2.2.2.1
theorem dL_law_230 : decode code 230 = .ok (.aload_n 0, 1) := zcL_64.2.2.2.2.2.2.1
theorem dL_law_231 : decode code 231 = .ok (.iload_n 3, 1) := zcL_64.2.2.2.2.2.2.2
theorem zcL_72 : decode code 232 = .ok (.iconst 1, 1) ∧ decode code 233 = .ok (.iadd, 1) ∧ decode code 234 = .ok (.iaload, 1) ∧ decode code 235 = .ok (.invokevirtual 18, 3) ∧ decode code 238 = .ok (.pop, 1) ∧ decode code 239 = .ok (.aload_n 2, 1) ∧ decode code 240 = .ok (.aload_n 0, 1) ∧ decode code 241 = .ok (.iload_n 3, 1) := by decide +kernel
theorem dL_law_232 : decode code 232 = .ok (.iconst 1, 1) := zcL_72.1
theorem dL_law_233 : decode code 233 = .ok (.iadd, 1) := zcL_72.2.1
theorem dL_law_234 : decode code 234 = .ok (.iaload, 1) := zcL_72.2.2.1
theorem dL_law_235 : decode code 235 = .ok (.invokevirtual 18, 3) := zcL_72.2.2.2.1
theorem dL_law_238 : decode code 238 = .ok (.pop, 1) := zcL_72.2.2.2.2.1
theorem dL_law_239 : decode code 239 = .ok (.aload_n 2, 1) := zcL_72.2.2.2.2.2.1
theorem dL_law_240 : decode code 240 = .ok (.aload_n 0, 1) := zcL_72.2.2.2.2.2.2.1
theorem dL_law_241 : decode code 241 = .ok (.iload_n 3, 1) := zcL_72.2.2.2.2.2.2.2
theorem zcL_80 : decode code 242 = .ok (.iconst 1, 1) ∧ decode code 243 = .ok (.iadd, 1) ∧ decode code 244 = .ok (.iaload, 1) ∧ decode code 245 = .ok (.invokevirtual 22, 3) ∧ decode code 248 = .ok (.pop, 1) ∧ decode code 249 = .ok (.goto 879, 3) ∧ decode code 252 = .ok (.aload_n 1, 1) ∧ decode code 253 = .ok (.aload_n 0, 1) := by decide +kernel
theorem dL_law_242 : decode code 242 = .ok (.iconst 1, 1) := zcL_80.1
theorem dL_law_243 : decode code 243 = .ok (.iadd, 1) := zcL_80.2.1
theorem dL_law_244 : decode code 244 = .ok (.iaload, 1) := zcL_80.2.2.1
theorem dL_law_245 : decode code 245 = .ok (.invokevirtual 22, 3) := zcL_80.2.2.2.1
theorem dL_law_248 : decode code 248 = .ok (.pop, 1) := zcL_80.2.2.2.2.1
theorem dL_law_249 : decode code 249 = .ok (.goto 879, 3) := zcL_80.2.2.2.2.2.1
theorem dL_law_252 : decode code 252 = .ok (.aload_n 1, 1) := zcL_80.2.2.2.2.2.2.1
theorem dL_law_253 : decode code 253 = .ok (.aload_n 0, 1) := zcL_80.2.2.2.2.2.2.2
theorem zcL_88 : decode code 254 = .ok (.iload_n 3, 1) ∧ decode code 255 = .ok (.iconst 1, 1) ∧ decode code 256 = .ok (.iadd, 1) ∧ decode code 257 = .ok (.iaload, 1) ∧ decode code 258 = .ok (.aload_n 0, 1) ∧ decode code 259 = .ok (.iload_n 3, 1) ∧ decode code 260 = .ok (.iconst 2, 1) ∧ decode code 261 = .ok (.iadd, 1) := by decide +kernel
theorem dL_law_254 : decode code 254 = .ok (.iload_n 3, 1) := zcL_88.1
theorem dL_law_255 : decode code 255 = .ok (.iconst 1, 1) := zcL_88.2.1
theorem dL_law_256 : decode code 256 = .ok (.iadd, 1) := zcL_88.2.2.1
theorem dL_law_257 : decode code 257 = .ok (.iaload, 1) := zcL_88.2.2.2.1
theorem dL_law_258 : decode code 258 = .ok (.aload_n 0, 1) := zcL_88.2.2.2.2.1
theorem dL_law_259 : decode code 259 = .ok (.iload_n 3, 1) := zcL_88.2.2.2.2.2.1
theorem dL_law_260 : decode code 260 = .ok (.iconst 2, 1) := zcL_88.2.2.2.2.2.2.1
theorem dL_law_261 : decode code 261 = .ok (.iadd, 1) := zcL_88.2.2.2.2.2.2.2
theorem zcL_96 : decode code 262 = .ok (.iaload, 1) ∧ decode code 263 = .ok (.ifCond .eq 7, 3) ∧ decode code 266 = .ok (.iconst 1, 1) ∧ decode code 267 = .ok (.goto 4, 3) ∧ decode code 270 = .ok (.iconst 0, 1) ∧ decode code 271 = .ok (.invokevirtual 23, 3) ∧ decode code 274 = .ok (.pop, 1) ∧ decode code 275 = .ok (.aload_n 2, 1) := by decide +kernel
theorem dL_law_262 : decode code 262 = .ok (.iaload, 1) := zcL_96.1
theorem dL_law_263 : decode code 263 = .ok (.ifCond .eq 7, 3) := zcL_96.2.1
theorem dL_law_266 : decode code 266 = .ok (.iconst 1, 1) := zcL_96.2.2.1
theorem dL_law_267 : decode code 267 = .ok (.goto 4, 3) := zcL_96.2.2.2.1
theorem dL_law_270 : decode code 270 = .ok (.iconst 0, 1) := zcL_96.2.2.2.2.1
theorem dL_law_271 : decode code 271 = .ok (.invokevirtual 23, 3) := zcL_96.2.2.2.2.2.1
theorem dL_law_274 : decode code 274 = .ok (.pop, 1) := zcL_96.2.2.2.2.2.2.1
theorem dL_law_275 : decode code 275 = .ok (.aload_n 2, 1) := zcL_96.2.2.2.2.2.2.2
theorem zcL_104 : decode code 276 = .ok (.aload_n 0, 1) ∧ decode code 277 = .ok (.iload_n 3, 1) ∧ decode code 278 = .ok (.iconst 1, 1) ∧ decode code 279 = .ok (.iadd, 1) ∧ decode code 280 = .ok (.iaload, 1) ∧ decode code 281 = .ok (.aload_n 0, 1) ∧ decode code 282 = .ok (.iload_n 3, 1) ∧ decode code 283 = .ok (.iconst 2, 1) := by decide +kernel
theorem dL_law_276 : decode code 276 = .ok (.aload_n 0, 1) := zcL_104.1
theorem dL_law_277 : decode code 277 = .ok (.iload_n 3, 1) := zcL_104.2.1
theorem dL_law_278 : decode code 278 = .ok (.iconst 1, 1) := zcL_104.2.2.1
theorem dL_law_279 : decode code 279 = .ok (.iadd, 1) := zcL_104.2.2.2.1
theorem dL_law_280 : decode code 280 = .ok (.iaload, 1) := zcL_104.2.2.2.2.1
theorem dL_law_281 : decode code 281 = .ok (.aload_n 0, 1) := zcL_104.2.2.2.2.2.1
theorem dL_law_282 : decode code 282 = .ok (.iload_n 3, 1) := zcL_104.2.2.2.2.2.2.1
theorem dL_law_283 : decode code 283 = .ok (.iconst 2, 1) := zcL_104.2.2.2.2.2.2.2
theorem zcL_112 : decode code 284 = .ok (.iadd, 1) ∧ decode code 285 = .ok (.iaload, 1) ∧ decode code 286 = .ok (.ifCond .eq 7, 3) ∧ decode code 289 = .ok (.iconst 1, 1) ∧ decode code 290 = .ok (.goto 4, 3) ∧ decode code 293 = .ok (.iconst 0, 1) ∧ decode code 294 = .ok (.invokevirtual 27, 3) ∧ decode code 297 = .ok (.pop, 1) := by decide +kernel
theorem dL_law_284 : decode code 284 = .ok (.iadd, 1) := zcL_112.1
theorem dL_law_285 : decode code 285 = .ok (.iaload, 1) := zcL_112.2.1
theorem dL_law_286 : decode code 286 = .ok (.ifCond .eq 7, 3) := zcL_112.2.2.1
theorem dL_law_289 : decode code 289 = .ok (.iconst 1, 1) := zcL_112.2.2.2.1
theorem dL_law_290 : decode code 290 = .ok (.goto 4, 3) := zcL_112.2.2.2.2.1
theorem dL_law_293 : decode code 293 = .ok (.iconst 0, 1) := zcL_112.2.2.2.2.2.1
theorem dL_law_294 : decode code 294 = .ok (.invokevirtual 27, 3) := zcL_112.2.2.2.2.2.2.1
theorem dL_law_297 : decode code 297 = .ok (.pop, 1) := zcL_112.2.2.2.2.2.2.2
theorem zcL_120 : decode code 298 = .ok (.goto 830, 3) ∧ decode code 301 = .ok (.aload_n 1, 1) ∧ decode code 302 = .ok (.aload_n 0, 1) ∧ decode code 303 = .ok (.iload_n 3, 1) ∧ decode code 304 = .ok (.iconst 1, 1) ∧ decode code 305 = .ok (.iadd, 1) ∧ decode code 306 = .ok (.iaload, 1) ∧ decode code 307 = .ok (.aload_n 0, 1) := by decide +kernel
theorem dL_law_298 : decode code 298 = .ok (.goto 830, 3) := zcL_120.1
theorem dL_law_301 : decode code 301 = .ok (.aload_n 1, 1) := zcL_120.2.1
theorem dL_law_302 : decode code 302 = .ok (.aload_n 0, 1) := zcL_120.2.2.1
theorem dL_law_303 : decode code 303 = .ok (.iload_n 3, 1) := zcL_120.2.2.2.1
theorem dL_law_304 : decode code 304 = .ok (.iconst 1, 1) := zcL_120.2.2.2.2.1
theorem dL_law_305 : decode code 305 = .ok (.iadd, 1) := zcL_120.2.2.2.2.2.1
theorem dL_law_306 : decode code 306 = .ok (.iaload, 1) := zcL_120.2.2.2.2.2.2.1
theorem dL_law_307 : decode code 307 = .ok (.aload_n 0, 1) := zcL_120.2.2.2.2.2.2.2
theorem zcL_128 : decode code 308 = .ok (.iload_n 3, 1) ∧ decode code 309 = .ok (.iconst 2, 1) ∧ decode code 310 = .ok (.iadd, 1) ∧ decode code 311 = .ok (.iaload, 1) ∧ decode code 312 = .ok (.invokevirtual 28, 3) ∧ decode code 315 = .ok (.pop, 1) ∧ decode code 316 = .ok (.aload_n 2, 1) ∧ decode code 317 = .ok (.aload_n 0, 1) := by decide +kernel
theorem dL_law_308 : decode code 308 = .ok (.iload_n 3, 1) := zcL_128.1
theorem dL_law_309 : decode code 309 = .ok (.iconst 2, 1) := zcL_128.2.1
theorem dL_law_310 : decode code 310 = .ok (.iadd, 1) := zcL_128.2.2.1
theorem dL_law_311 : decode code 311 = .ok (.iaload, 1) := zcL_128.2.2.2.1
theorem dL_law_312 : decode code 312 = .ok (.invokevirtual 28, 3) := zcL_128.2.2.2.2.1
theorem dL_law_315 : decode code 315 = .ok (.pop, 1) := zcL_128.2.2.2.2.2.1
theorem dL_law_316 : decode code 316 = .ok (.aload_n 2, 1) := zcL_128.2.2.2.2.2.2.1
theorem dL_law_317 : decode code 317 = .ok (.aload_n 0, 1) := zcL_128.2.2.2.2.2.2.2
theorem zcL_136 : decode code 318 = .ok (.iload_n 3, 1) ∧ decode code 319 = .ok (.iconst 1, 1) ∧ decode code 320 = .ok (.iadd, 1) ∧ decode code 321 = .ok (.iaload, 1) ∧ decode code 322 = .ok (.aload_n 0, 1) ∧ decode code 323 = .ok (.iload_n 3, 1) ∧ decode code 324 = .ok (.iconst 2, 1) ∧ decode code 325 = .ok (.iadd, 1) := by decide +kernel
theorem dL_law_318 : decode code 318 = .ok (.iload_n 3, 1) := zcL_136.1
theorem dL_law_319 : decode code 319 = .ok (.iconst 1, 1) := zcL_136.2.1
theorem dL_law_320 : decode code 320 = .ok (.iadd, 1) := zcL_136.2.2.1
theorem dL_law_321 : decode code 321 = .ok (.iaload, 1) := zcL_136.2.2.2.1
theorem dL_law_322 : decode code 322 = .ok (.aload_n 0, 1) := zcL_136.2.2.2.2.1
theorem dL_law_323 : decode code 323 = .ok (.iload_n 3, 1) := zcL_136.2.2.2.2.2.1
theorem dL_law_324 : decode code 324 = .ok (.iconst 2, 1) := zcL_136.2.2.2.2.2.2.1
theorem dL_law_325 : decode code 325 = .ok (.iadd, 1) := zcL_136.2.2.2.2.2.2.2
theorem zcL_144 : decode code 326 = .ok (.iaload, 1) ∧ decode code 327 = .ok (.invokevirtual 32, 3) ∧ decode code 330 = .ok (.pop, 1) ∧ decode code 331 = .ok (.goto 797, 3) ∧ decode code 334 = .ok (.aload_n 1, 1) ∧ decode code 335 = .ok (.aload_n 0, 1) ∧ decode code 336 = .ok (.iload_n 3, 1) ∧ decode code 337 = .ok (.iconst 1, 1) := by decide +kernel
theorem dL_law_326 : decode code 326 = .ok (.iaload, 1) := zcL_144.1
theorem dL_law_327 : decode code 327 = .ok (.invokevirtual 32, 3) := zcL_144.2.1
theorem dL_law_330 : decode code 330 = .ok (.pop, 1) := zcL_144.2.2.1
theorem dL_law_331 : decode code 331 = .ok (.goto 797, 3) := zcL_144.2.2.2.1
theorem dL_law_334 : decode code 334 = .ok (.aload_n 1, 1) := zcL_144.2.2.2.2.1
theorem dL_law_335 : decode code 335 = .ok (.aload_n 0, 1) := zcL_144.2.2.2.2.2.1
theorem dL_law_336 : decode code 336 = .ok (.iload_n 3, 1) := zcL_144.2.2.2.2.2.2.1
theorem dL_law_337 : decode code 337 = .ok (.iconst 1, 1) := zcL_144.2.2.2.2.2.2.2
theorem zcL_152 : decode code 338 = .ok (.iadd, 1) ∧ decode code 339 = .ok (.iaload, 1) ∧ decode code 340 = .ok (.aload_n 0, 1) ∧ decode code 341 = .ok (.iload_n 3, 1) ∧ decode code 342 = .ok (.iconst 2, 1) ∧ decode code 343 = .ok (.iadd, 1) ∧ decode code 344 = .ok (.iaload, 1) ∧ decode code 345 = .ok (.aload_n 0, 1) := by decide +kernel
theorem dL_law_338 : decode code 338 = .ok (.iadd, 1) := zcL_152.1
theorem dL_law_339 : decode code 339 = .ok (.iaload, 1) := zcL_152.2.1
theorem dL_law_340 : decode code 340 = .ok (.aload_n 0, 1) := zcL_152.2.2.1
theorem dL_law_341 : decode code 341 = .ok (.iload_n 3, 1) := zcL_152.2.2.2.1
theorem dL_law_342 : decode code 342 = .ok (.iconst 2, 1) := zcL_152.2.2.2.2.1
theorem dL_law_343 : decode code 343 = .ok (.iadd, 1) := zcL_152.2.2.2.2.2.1
theorem dL_law_344 : decode code 344 = .ok (.iaload, 1) := zcL_152.2.2.2.2.2.2.1
theorem dL_law_345 : decode code 345 = .ok (.aload_n 0, 1) := zcL_152.2.2.2.2.2.2.2
theorem zcL_160 : decode code 346 = .ok (.iload_n 3, 1) ∧ decode code 347 = .ok (.iconst 3, 1) ∧ decode code 348 = .ok (.iadd, 1) ∧ decode code 349 = .ok (.iaload, 1) ∧ decode code 350 = .ok (.aload_n 0, 1) ∧ decode code 351 = .ok (.iload_n 3, 1) ∧ decode code 352 = .ok (.iconst 4, 1) ∧ decode code 353 = .ok (.iadd, 1) := by decide +kernel
theorem dL_law_346 : decode code 346 = .ok (.iload_n 3, 1) := zcL_160.1
theorem dL_law_347 : decode code 347 = .ok (.iconst 3, 1) := zcL_160.2.1
theorem dL_law_348 : decode code 348 = .ok (.iadd, 1) := zcL_160.2.2.1
theorem dL_law_349 : decode code 349 = .ok (.iaload, 1) := zcL_160.2.2.2.1
theorem dL_law_350 : decode code 350 = .ok (.aload_n 0, 1) := zcL_160.2.2.2.2.1
theorem dL_law_351 : decode code 351 = .ok (.iload_n 3, 1) := zcL_160.2.2.2.2.2.1
theorem dL_law_352 : decode code 352 = .ok (.iconst 4, 1) := zcL_160.2.2.2.2.2.2.1
theorem dL_law_353 : decode code 353 = .ok (.iadd, 1) := zcL_160.2.2.2.2.2.2.2
theorem zcL_168 : decode code 354 = .ok (.iaload, 1) ∧ decode code 355 = .ok (.aload_n 0, 1) ∧ decode code 356 = .ok (.iload_n 3, 1) ∧ decode code 357 = .ok (.iconst 5, 1) ∧ decode code 358 = .ok (.iadd, 1) ∧ decode code 359 = .ok (.iaload, 1) ∧ decode code 360 = .ok (.invokevirtual 33, 3) ∧ decode code 363 = .ok (.pop, 1) := by decide +kernel
theorem dL_law_354 : decode code 354 = .ok (.iaload, 1) := zcL_168.1
theorem dL_law_355 : decode code 355 = .ok (.aload_n 0, 1) := zcL_168.2.1
theorem dL_law_356 : decode code 356 = .ok (.iload_n 3, 1) := zcL_168.2.2.1
theorem dL_law_357 : decode code 357 = .ok (.iconst 5, 1) := zcL_168.2.2.2.1
theorem dL_law_358 : decode code 358 = .ok (.iadd, 1) := zcL_168.2.2.2.2.1
theorem dL_law_359 : decode code 359 = .ok (.iaload, 1) := zcL_168.2.2.2.2.2.1
theorem dL_law_360 : decode code 360 = .ok (.invokevirtual 33, 3) := zcL_168.2.2.2.2.2.2.1
theorem dL_law_363 : decode code 363 = .ok (.pop, 1) := zcL_168.2.2.2.2.2.2.2
theorem zcL_176 : decode code 364 = .ok (.aload_n 2, 1) ∧ decode code 365 = .ok (.aload_n 0, 1) ∧ decode code 366 = .ok (.iload_n 3, 1) ∧ decode code 367 = .ok (.iconst 1, 1) ∧ decode code 368 = .ok (.iadd, 1) ∧ decode code 369 = .ok (.iaload, 1) ∧ decode code 370 = .ok (.aload_n 0, 1) ∧ decode code 371 = .ok (.iload_n 3, 1) := by decide +kernel
theorem dL_law_364 : decode code 364 = .ok (.aload_n 2, 1) := zcL_176.1
theorem dL_law_365 : decode code 365 = .ok (.aload_n 0, 1) := zcL_176.2.1
theorem dL_law_366 : decode code 366 = .ok (.iload_n 3, 1) := zcL_176.2.2.1
theorem dL_law_367 : decode code 367 = .ok (.iconst 1, 1) := zcL_176.2.2.2.1
theorem dL_law_368 : decode code 368 = .ok (.iadd, 1) := zcL_176.2.2.2.2.1
theorem dL_law_369 : decode code 369 = .ok (.iaload, 1) := zcL_176.2.2.2.2.2.1
theorem dL_law_370 : decode code 370 = .ok (.aload_n 0, 1) := zcL_176.2.2.2.2.2.2.1
theorem dL_law_371 : decode code 371 = .ok (.iload_n 3, 1) := zcL_176.2.2.2.2.2.2.2
theorem zcL_184 : decode code 372 = .ok (.iconst 2, 1) ∧ decode code 373 = .ok (.iadd, 1) ∧ decode code 374 = .ok (.iaload, 1) ∧ decode code 375 = .ok (.aload_n 0, 1) ∧ decode code 376 = .ok (.iload_n 3, 1) ∧ decode code 377 = .ok (.iconst 3, 1) ∧ decode code 378 = .ok (.iadd, 1) ∧ decode code 379 = .ok (.iaload, 1) := by decide +kernel
theorem dL_law_372 : decode code 372 = .ok (.iconst 2, 1) := zcL_184.1
theorem dL_law_373 : decode code 373 = .ok (.iadd, 1) := zcL_184.2.1
theorem dL_law_374 : decode code 374 = .ok (.iaload, 1) := zcL_184.2.2.1
theorem dL_law_375 : decode code 375 = .ok (.aload_n 0, 1) := zcL_184.2.2.2.1
theorem dL_law_376 : decode code 376 = .ok (.iload_n 3, 1) := zcL_184.2.2.2.2.1
theorem dL_law_377 : decode code 377 = .ok (.iconst 3, 1) := zcL_184.2.2.2.2.2.1
theorem dL_law_378 : decode code 378 = .ok (.iadd, 1) := zcL_184.2.2.2.2.2.2.1
theorem dL_law_379 : decode code 379 = .ok (.iaload, 1) := zcL_184.2.2.2.2.2.2.2
theorem zcL_192 : decode code 380 = .ok (.aload_n 0, 1) ∧ decode code 381 = .ok (.iload_n 3, 1) ∧ decode code 382 = .ok (.iconst 4, 1) ∧ decode code 383 = .ok (.iadd, 1) ∧ decode code 384 = .ok (.iaload, 1) ∧ decode code 385 = .ok (.aload_n 0, 1) ∧ decode code 386 = .ok (.iload_n 3, 1) ∧ decode code 387 = .ok (.iconst 5, 1) := by decide +kernel
theorem dL_law_380 : decode code 380 = .ok (.aload_n 0, 1) := zcL_192.1
theorem dL_law_381 : decode code 381 = .ok (.iload_n 3, 1) := zcL_192.2.1
theorem dL_law_382 : decode code 382 = .ok (.iconst 4, 1) := zcL_192.2.2.1
theorem dL_law_383 : decode code 383 = .ok (.iadd, 1) := zcL_192.2.2.2.1
theorem dL_law_384 : decode code 384 = .ok (.iaload, 1) := zcL_192.2.2.2.2.1
theorem dL_law_385 : decode code 385 = .ok (.aload_n 0, 1) := zcL_192.2.2.2.2.2.1
theorem dL_law_386 : decode code 386 = .ok (.iload_n 3, 1) := zcL_192.2.2.2.2.2.2.1
theorem dL_law_387 : decode code 387 = .ok (.iconst 5, 1) := zcL_192.2.2.2.2.2.2.2
theorem zcL_200 : decode code 388 = .ok (.iadd, 1) ∧ decode code 389 = .ok (.iaload, 1) ∧ decode code 390 = .ok (.invokevirtual 37, 3) ∧ decode code 393 = .ok (.pop, 1) ∧ decode code 394 = .ok (.goto 734, 3) ∧ decode code 397 = .ok (.aload_n 1, 1) ∧ decode code 398 = .ok (.aload_n 0, 1) ∧ decode code 399 = .ok (.iload_n 3, 1) := by decide +kernel
theorem dL_law_388 : decode code 388 = .ok (.iadd, 1) := zcL_200.1
theorem dL_law_389 : decode code 389 = .ok (.iaload, 1) := zcL_200.2.1
theorem dL_law_390 : decode code 390 = .ok (.invokevirtual 37, 3) := zcL_200.2.2.1
theorem dL_law_393 : decode code 393 = .ok (.pop, 1) := zcL_200.2.2.2.1
theorem dL_law_394 : decode code 394 = .ok (.goto 734, 3) := zcL_200.2.2.2.2.1
theorem dL_law_397 : decode code 397 = .ok (.aload_n 1, 1) := zcL_200.2.2.2.2.2.1
theorem dL_law_398 : decode code 398 = .ok (.aload_n 0, 1) := zcL_200.2.2.2.2.2.2.1
theorem dL_law_399 : decode code 399 = .ok (.iload_n 3, 1) := zcL_200.2.2.2.2.2.2.2
theorem zcL_208 : decode code 400 = .ok (.iconst 1, 1) ∧ decode code 401 = .ok (.iadd, 1) ∧ decode code 402 = .ok (.iaload, 1) ∧ decode code 403 = .ok (.invokevirtual 38, 3) ∧ decode code 406 = .ok (.pop, 1) ∧ decode code 407 = .ok (.aload_n 2, 1) ∧ decode code 408 = .ok (.aload_n 0, 1) ∧ decode code 409 = .ok (.iload_n 3, 1) := by decide +kernel
theorem dL_law_400 : decode code 400 = .ok (.iconst 1, 1) := zcL_208.1
theorem dL_law_401 : decode code 401 = .ok (.iadd, 1) := zcL_208.2.1
theorem dL_law_402 : decode code 402 = .ok (.iaload, 1) := zcL_208.2.2.1
theorem dL_law_403 : decode code 403 = .ok (.invokevirtual 38, 3) := zcL_208.2.2.2.1
theorem dL_law_406 : decode code 406 = .ok (.pop, 1) := zcL_208.2.2.2.2.1
theorem dL_law_407 : decode code 407 = .ok (.aload_n 2, 1) := zcL_208.2.2.2.2.2.1
theorem dL_law_408 : decode code 408 = .ok (.aload_n 0, 1) := zcL_208.2.2.2.2.2.2.1
theorem dL_law_409 : decode code 409 = .ok (.iload_n 3, 1) := zcL_208.2.2.2.2.2.2.2
theorem zcL_216 : decode code 410 = .ok (.iconst 1, 1) ∧ decode code 411 = .ok (.iadd, 1) ∧ decode code 412 = .ok (.iaload, 1) ∧ decode code 413 = .ok (.invokevirtual 42, 3) ∧ decode code 416 = .ok (.pop, 1) ∧ decode code 417 = .ok (.goto 711, 3) ∧ decode code 420 = .ok (.aload_n 1, 1) ∧ decode code 421 = .ok (.aload_n 0, 1) := by decide +kernel
theorem dL_law_410 : decode code 410 = .ok (.iconst 1, 1) := zcL_216.1
theorem dL_law_411 : decode code 411 = .ok (.iadd, 1) := zcL_216.2.1
theorem dL_law_412 : decode code 412 = .ok (.iaload, 1) := zcL_216.2.2.1
theorem dL_law_413 : decode code 413 = .ok (.invokevirtual 42, 3) := zcL_216.2.2.2.1
theorem dL_law_416 : decode code 416 = .ok (.pop, 1) := zcL_216.2.2.2.2.1
theorem dL_law_417 : decode code 417 = .ok (.goto 711, 3) := zcL_216.2.2.2.2.2.1
theorem dL_law_420 : decode code 420 = .ok (.aload_n 1, 1) := zcL_216.2.2.2.2.2.2.1
theorem dL_law_421 : decode code 421 = .ok (.aload_n 0, 1) := zcL_216.2.2.2.2.2.2.2
theorem zcL_224 : decode code 422 = .ok (.iload_n 3, 1) ∧ decode code 423 = .ok (.iconst 1, 1) ∧ decode code 424 = .ok (.iadd, 1) ∧ decode code 425 = .ok (.iaload, 1) ∧ decode code 426 = .ok (.invokevirtual 43, 3) ∧ decode code 429 = .ok (.pop, 1) ∧ decode code 430 = .ok (.aload_n 2, 1) ∧ decode code 431 = .ok (.aload_n 0, 1) := by decide +kernel
theorem dL_law_422 : decode code 422 = .ok (.iload_n 3, 1) := zcL_224.1
theorem dL_law_423 : decode code 423 = .ok (.iconst 1, 1) := zcL_224.2.1
theorem dL_law_424 : decode code 424 = .ok (.iadd, 1) := zcL_224.2.2.1
theorem dL_law_425 : decode code 425 = .ok (.iaload, 1) := zcL_224.2.2.2.1
theorem dL_law_426 : decode code 426 = .ok (.invokevirtual 43, 3) := zcL_224.2.2.2.2.1
theorem dL_law_429 : decode code 429 = .ok (.pop, 1) := zcL_224.2.2.2.2.2.1
theorem dL_law_430 : decode code 430 = .ok (.aload_n 2, 1) := zcL_224.2.2.2.2.2.2.1
theorem dL_law_431 : decode code 431 = .ok (.aload_n 0, 1) := zcL_224.2.2.2.2.2.2.2
theorem zcL_232 : decode code 432 = .ok (.iload_n 3, 1) ∧ decode code 433 = .ok (.iconst 1, 1) ∧ decode code 434 = .ok (.iadd, 1) ∧ decode code 435 = .ok (.iaload, 1) ∧ decode code 436 = .ok (.invokevirtual 46, 3) ∧ decode code 439 = .ok (.pop, 1) ∧ decode code 440 = .ok (.goto 688, 3) ∧ decode code 443 = .ok (.aload_n 1, 1) := by decide +kernel
theorem dL_law_432 : decode code 432 = .ok (.iload_n 3, 1) := zcL_232.1
theorem dL_law_433 : decode code 433 = .ok (.iconst 1, 1) := zcL_232.2.1
theorem dL_law_434 : decode code 434 = .ok (.iadd, 1) := zcL_232.2.2.1
theorem dL_law_435 : decode code 435 = .ok (.iaload, 1) := zcL_232.2.2.2.1
theorem dL_law_436 : decode code 436 = .ok (.invokevirtual 46, 3) := zcL_232.2.2.2.2.1
theorem dL_law_439 : decode code 439 = .ok (.pop, 1) := zcL_232.2.2.2.2.2.1
theorem dL_law_440 : decode code 440 = .ok (.goto 688, 3) := zcL_232.2.2.2.2.2.2.1
theorem dL_law_443 : decode code 443 = .ok (.aload_n 1, 1) := zcL_232.2.2.2.2.2.2.2
theorem zcL_240 : decode code 444 = .ok (.aload_n 0, 1) ∧ decode code 445 = .ok (.iload_n 3, 1) ∧ decode code 446 = .ok (.iconst 1, 1) ∧ decode code 447 = .ok (.iadd, 1) ∧ decode code 448 = .ok (.iaload, 1) ∧ decode code 449 = .ok (.invokevirtual 47, 3) ∧ decode code 452 = .ok (.pop, 1) ∧ decode code 453 = .ok (.aload_n 2, 1) := by decide +kernel
theorem dL_law_444 : decode code 444 = .ok (.aload_n 0, 1) := zcL_240.1
theorem dL_law_445 : decode code 445 = .ok (.iload_n 3, 1) := zcL_240.2.1
theorem dL_law_446 : decode code 446 = .ok (.iconst 1, 1) := zcL_240.2.2.1
theorem dL_law_447 : decode code 447 = .ok (.iadd, 1) := zcL_240.2.2.2.1
theorem dL_law_448 : decode code 448 = .ok (.iaload, 1) := zcL_240.2.2.2.2.1
theorem dL_law_449 : decode code 449 = .ok (.invokevirtual 47, 3) := zcL_240.2.2.2.2.2.1
theorem dL_law_452 : decode code 452 = .ok (.pop, 1) := zcL_240.2.2.2.2.2.2.1
theorem dL_law_453 : decode code 453 = .ok (.aload_n 2, 1) := zcL_240.2.2.2.2.2.2.2
theorem zcL_248 : decode code 454 = .ok (.aload_n 0, 1) ∧ decode code 455 = .ok (.iload_n 3, 1) ∧ decode code 456 = .ok (.iconst 1, 1) ∧ decode code 457 = .ok (.iadd, 1) ∧ decode code 458 = .ok (.iaload, 1) ∧ decode code 459 = .ok (.invokevirtual 50, 3) ∧ decode code 462 = .ok (.pop, 1) ∧ decode code 463 = .ok (.goto 665, 3) := by decide +kernel
theorem dL_law_454 : decode code 454 = .ok (.aload_n 0, 1) := zcL_248.1
theorem dL_law_455 : decode code 455 = .ok (.iload_n 3, 1) := zcL_248.2.1
theorem dL_law_456 : decode code 456 = .ok (.iconst 1, 1) := zcL_248.2.2.1
theorem dL_law_457 : decode code 457 = .ok (.iadd, 1) := zcL_248.2.2.2.1
theorem dL_law_458 : decode code 458 = .ok (.iaload, 1) := zcL_248.2.2.2.2.1
theorem dL_law_459 : decode code 459 = .ok (.invokevirtual 50, 3) := zcL_248.2.2.2.2.2.1
theorem dL_law_462 : decode code 462 = .ok (.pop, 1) := zcL_248.2.2.2.2.2.2.1
theorem dL_law_463 : decode code 463 = .ok (.goto 665, 3) := zcL_248.2.2.2.2.2.2.2
theorem zcL_256 : decode code 466 = .ok (.aload_n 1, 1) ∧ decode code 467 = .ok (.aload_n 0, 1) ∧ decode code 468 = .ok (.iload_n 3, 1) ∧ decode code 469 = .ok (.iconst 1, 1) ∧ decode code 470 = .ok (.iadd, 1) ∧ decode code 471 = .ok (.iaload, 1) ∧ decode code 472 = .ok (.aload_n 0, 1) ∧ decode code 473 = .ok (.iload_n 3, 1) := by decide +kernel
theorem dL_law_466 : decode code 466 = .ok (.aload_n 1, 1) := zcL_256.1
theorem dL_law_467 : decode code 467 = .ok (.aload_n 0, 1) := zcL_256.2.1
theorem dL_law_468 : decode code 468 = .ok (.iload_n 3, 1) := zcL_256.2.2.1
theorem dL_law_469 : decode code 469 = .ok (.iconst 1, 1) := zcL_256.2.2.2.1
theorem dL_law_470 : decode code 470 = .ok (.iadd, 1) := zcL_256.2.2.2.2.1
theorem dL_law_471 : decode code 471 = .ok (.iaload, 1) := zcL_256.2.2.2.2.2.1
theorem dL_law_472 : decode code 472 = .ok (.aload_n 0, 1) := zcL_256.2.2.2.2.2.2.1
theorem dL_law_473 : decode code 473 = .ok (.iload_n 3, 1) := zcL_256.2.2.2.2.2.2.2
theorem zcL_264 : decode code 474 = .ok (.iconst 2, 1) ∧ decode code 475 = .ok (.iadd, 1) ∧ decode code 476 = .ok (.iaload, 1) ∧ decode code 477 = .ok (.invokevirtual 51, 3) ∧ decode code 480 = .ok (.pop, 1) ∧ decode code 481 = .ok (.aload_n 2, 1) ∧ decode code 482 = .ok (.aload_n 0, 1) ∧ decode code 483 = .ok (.iload_n 3, 1) := by decide +kernel
theorem dL_law_474 : decode code 474 = .ok (.iconst 2, 1) := zcL_264.1
theorem dL_law_475 : decode code 475 = .ok (.iadd, 1) := zcL_264.2.1
theorem dL_law_476 : decode code 476 = .ok (.iaload, 1) := zcL_264.2.2.1
theorem dL_law_477 : decode code 477 = .ok (.invokevirtual 51, 3) := zcL_264.2.2.2.1
theorem dL_law_480 : decode code 480 = .ok (.pop, 1) := zcL_264.2.2.2.2.1
theorem dL_law_481 : decode code 481 = .ok (.aload_n 2, 1) := zcL_264.2.2.2.2.2.1
theorem dL_law_482 : decode code 482 = .ok (.aload_n 0, 1) := zcL_264.2.2.2.2.2.2.1
theorem dL_law_483 : decode code 483 = .ok (.iload_n 3, 1) := zcL_264.2.2.2.2.2.2.2
theorem zcL_272 : decode code 484 = .ok (.iconst 1, 1) ∧ decode code 485 = .ok (.iadd, 1) ∧ decode code 486 = .ok (.iaload, 1) ∧ decode code 487 = .ok (.aload_n 0, 1) ∧ decode code 488 = .ok (.iload_n 3, 1) ∧ decode code 489 = .ok (.iconst 2, 1) ∧ decode code 490 = .ok (.iadd, 1) ∧ decode code 491 = .ok (.iaload, 1) := by decide +kernel
theorem dL_law_484 : decode code 484 = .ok (.iconst 1, 1) := zcL_272.1
theorem dL_law_485 : decode code 485 = .ok (.iadd, 1) := zcL_272.2.1
theorem dL_law_486 : decode code 486 = .ok (.iaload, 1) := zcL_272.2.2.1
theorem dL_law_487 : decode code 487 = .ok (.aload_n 0, 1) := zcL_272.2.2.2.1
theorem dL_law_488 : decode code 488 = .ok (.iload_n 3, 1) := zcL_272.2.2.2.2.1
theorem dL_law_489 : decode code 489 = .ok (.iconst 2, 1) := zcL_272.2.2.2.2.2.1
theorem dL_law_490 : decode code 490 = .ok (.iadd, 1) := zcL_272.2.2.2.2.2.2.1
theorem dL_law_491 : decode code 491 = .ok (.iaload, 1) := zcL_272.2.2.2.2.2.2.2
theorem zcL_280 : decode code 492 = .ok (.invokevirtual 55, 3) ∧ decode code 495 = .ok (.pop, 1) ∧ decode code 496 = .ok (.goto 632, 3) ∧ decode code 499 = .ok (.aload_n 1, 1) ∧ decode code 500 = .ok (.aload_n 0, 1) ∧ decode code 501 = .ok (.iload_n 3, 1) ∧ decode code 502 = .ok (.iconst 1, 1) ∧ decode code 503 = .ok (.iadd, 1) := by decide +kernel
theorem dL_law_492 : decode code 492 = .ok (.invokevirtual 55, 3) := zcL_280.1
theorem dL_law_495 : decode code 495 = .ok (.pop, 1) := zcL_280.2.1
theorem dL_law_496 : decode code 496 = .ok (.goto 632, 3) := zcL_280.2.2.1
theorem dL_law_499 : decode code 499 = .ok (.aload_n 1, 1) := zcL_280.2.2.2.1
theorem dL_law_500 : decode code 500 = .ok (.aload_n 0, 1) := zcL_280.2.2.2.2.1
theorem dL_law_501 : decode code 501 = .ok (.iload_n 3, 1) := zcL_280.2.2.2.2.2.1
theorem dL_law_502 : decode code 502 = .ok (.iconst 1, 1) := zcL_280.2.2.2.2.2.2.1
theorem dL_law_503 : decode code 503 = .ok (.iadd, 1) := zcL_280.2.2.2.2.2.2.2
theorem zcL_288 : decode code 504 = .ok (.iaload, 1) ∧ decode code 505 = .ok (.aload_n 0, 1) ∧ decode code 506 = .ok (.iload_n 3, 1) ∧ decode code 507 = .ok (.iconst 2, 1) ∧ decode code 508 = .ok (.iadd, 1) ∧ decode code 509 = .ok (.iaload, 1) ∧ decode code 510 = .ok (.invokevirtual 56, 3) ∧ decode code 513 = .ok (.pop, 1) := by decide +kernel
theorem dL_law_504 : decode code 504 = .ok (.iaload, 1) := zcL_288.1
theorem dL_law_505 : decode code 505 = .ok (.aload_n 0, 1) := zcL_288.2.1
theorem dL_law_506 : decode code 506 = .ok (.iload_n 3, 1) := zcL_288.2.2.1
theorem dL_law_507 : decode code 507 = .ok (.iconst 2, 1) := zcL_288.2.2.2.1
theorem dL_law_508 : decode code 508 = .ok (.iadd, 1) := zcL_288.2.2.2.2.1
theorem dL_law_509 : decode code 509 = .ok (.iaload, 1) := zcL_288.2.2.2.2.2.1
theorem dL_law_510 : decode code 510 = .ok (.invokevirtual 56, 3) := zcL_288.2.2.2.2.2.2.1
theorem dL_law_513 : decode code 513 = .ok (.pop, 1) := zcL_288.2.2.2.2.2.2.2
theorem zcL_296 : decode code 514 = .ok (.aload_n 2, 1) ∧ decode code 515 = .ok (.aload_n 0, 1) ∧ decode code 516 = .ok (.iload_n 3, 1) ∧ decode code 517 = .ok (.iconst 1, 1) ∧ decode code 518 = .ok (.iadd, 1) ∧ decode code 519 = .ok (.iaload, 1) ∧ decode code 520 = .ok (.aload_n 0, 1) ∧ decode code 521 = .ok (.iload_n 3, 1) := by decide +kernel
theorem dL_law_514 : decode code 514 = .ok (.aload_n 2, 1) := zcL_296.1
theorem dL_law_515 : decode code 515 = .ok (.aload_n 0, 1) := zcL_296.2.1
theorem dL_law_516 : decode code 516 = .ok (.iload_n 3, 1) := zcL_296.2.2.1
theorem dL_law_517 : decode code 517 = .ok (.iconst 1, 1) := zcL_296.2.2.2.1
theorem dL_law_518 : decode code 518 = .ok (.iadd, 1) := zcL_296.2.2.2.2.1
theorem dL_law_519 : decode code 519 = .ok (.iaload, 1) := zcL_296.2.2.2.2.2.1
theorem dL_law_520 : decode code 520 = .ok (.aload_n 0, 1) := zcL_296.2.2.2.2.2.2.1
theorem dL_law_521 : decode code 521 = .ok (.iload_n 3, 1) := zcL_296.2.2.2.2.2.2.2
theorem zcL_304 : decode code 522 = .ok (.iconst 2, 1) ∧ decode code 523 = .ok (.iadd, 1) ∧ decode code 524 = .ok (.iaload, 1) ∧ decode code 525 = .ok (.invokevirtual 59, 3) ∧ decode code 528 = .ok (.pop, 1) ∧ decode code 529 = .ok (.goto 599, 3) ∧ decode code 532 = .ok (.aload_n 1, 1) ∧ decode code 533 = .ok (.aload_n 0, 1) := by decide +kernel
theorem dL_law_522 : decode code 522 = .ok (.iconst 2, 1) := zcL_304.1
theorem dL_law_523 : decode code 523 = .ok (.iadd, 1) := zcL_304.2.1
theorem dL_law_524 : decode code 524 = .ok (.iaload, 1) := zcL_304.2.2.1
theorem dL_law_525 : decode code 525 = .ok (.invokevirtual 59, 3) := zcL_304.2.2.2.1
theorem dL_law_528 : decode code 528 = .ok (.pop, 1) := zcL_304.2.2.2.2.1
theorem dL_law_529 : decode code 529 = .ok (.goto 599, 3) := zcL_304.2.2.2.2.2.1
theorem dL_law_532 : decode code 532 = .ok (.aload_n 1, 1) := zcL_304.2.2.2.2.2.2.1
theorem dL_law_533 : decode code 533 = .ok (.aload_n 0, 1) := zcL_304.2.2.2.2.2.2.2
theorem zcL_312 : decode code 534 = .ok (.iload_n 3, 1) ∧ decode code 535 = .ok (.iconst 1, 1) ∧ decode code 536 = .ok (.iadd, 1) ∧ decode code 537 = .ok (.iaload, 1) ∧ decode code 538 = .ok (.aload_n 0, 1) ∧ decode code 539 = .ok (.iload_n 3, 1) ∧ decode code 540 = .ok (.iconst 2, 1) ∧ decode code 541 = .ok (.iadd, 1) := by decide +kernel
theorem dL_law_534 : decode code 534 = .ok (.iload_n 3, 1) := zcL_312.1
theorem dL_law_535 : decode code 535 = .ok (.iconst 1, 1) := zcL_312.2.1
theorem dL_law_536 : decode code 536 = .ok (.iadd, 1) := zcL_312.2.2.1
theorem dL_law_537 : decode code 537 = .ok (.iaload, 1) := zcL_312.2.2.2.1
theorem dL_law_538 : decode code 538 = .ok (.aload_n 0, 1) := zcL_312.2.2.2.2.1
theorem dL_law_539 : decode code 539 = .ok (.iload_n 3, 1) := zcL_312.2.2.2.2.2.1
theorem dL_law_540 : decode code 540 = .ok (.iconst 2, 1) := zcL_312.2.2.2.2.2.2.1
theorem dL_law_541 : decode code 541 = .ok (.iadd, 1) := zcL_312.2.2.2.2.2.2.2
theorem zcL_320 : decode code 542 = .ok (.iaload, 1) ∧ decode code 543 = .ok (.invokevirtual 60, 3) ∧ decode code 546 = .ok (.pop, 1) ∧ decode code 547 = .ok (.aload_n 2, 1) ∧ decode code 548 = .ok (.aload_n 0, 1) ∧ decode code 549 = .ok (.iload_n 3, 1) ∧ decode code 550 = .ok (.iconst 1, 1) ∧ decode code 551 = .ok (.iadd, 1) := by decide +kernel
theorem dL_law_542 : decode code 542 = .ok (.iaload, 1) := zcL_320.1
theorem dL_law_543 : decode code 543 = .ok (.invokevirtual 60, 3) := zcL_320.2.1
theorem dL_law_546 : decode code 546 = .ok (.pop, 1) := zcL_320.2.2.1
theorem dL_law_547 : decode code 547 = .ok (.aload_n 2, 1) := zcL_320.2.2.2.1
theorem dL_law_548 : decode code 548 = .ok (.aload_n 0, 1) := zcL_320.2.2.2.2.1
theorem dL_law_549 : decode code 549 = .ok (.iload_n 3, 1) := zcL_320.2.2.2.2.2.1
theorem dL_law_550 : decode code 550 = .ok (.iconst 1, 1) := zcL_320.2.2.2.2.2.2.1
theorem dL_law_551 : decode code 551 = .ok (.iadd, 1) := zcL_320.2.2.2.2.2.2.2
theorem zcL_328 : decode code 552 = .ok (.iaload, 1) ∧ decode code 553 = .ok (.aload_n 0, 1) ∧ decode code 554 = .ok (.iload_n 3, 1) ∧ decode code 555 = .ok (.iconst 2, 1) ∧ decode code 556 = .ok (.iadd, 1) ∧ decode code 557 = .ok (.iaload, 1) ∧ decode code 558 = .ok (.invokevirtual 63, 3) ∧ decode code 561 = .ok (.pop, 1) := by decide +kernel
theorem dL_law_552 : decode code 552 = .ok (.iaload, 1) := zcL_328.1
theorem dL_law_553 : decode code 553 = .ok (.aload_n 0, 1) := zcL_328.2.1
theorem dL_law_554 : decode code 554 = .ok (.iload_n 3, 1) := zcL_328.2.2.1
theorem dL_law_555 : decode code 555 = .ok (.iconst 2, 1) := zcL_328.2.2.2.1
theorem dL_law_556 : decode code 556 = .ok (.iadd, 1) := zcL_328.2.2.2.2.1
theorem dL_law_557 : decode code 557 = .ok (.iaload, 1) := zcL_328.2.2.2.2.2.1
theorem dL_law_558 : decode code 558 = .ok (.invokevirtual 63, 3) := zcL_328.2.2.2.2.2.2.1
theorem dL_law_561 : decode code 561 = .ok (.pop, 1) := zcL_328.2.2.2.2.2.2.2
theorem zcL_336 : decode code 562 = .ok (.goto 566, 3) ∧ decode code 565 = .ok (.aload_n 1, 1) ∧ decode code 566 = .ok (.aload_n 0, 1) ∧ decode code 567 = .ok (.iload_n 3, 1) ∧ decode code 568 = .ok (.iconst 1, 1) ∧ decode code 569 = .ok (.iadd, 1) ∧ decode code 570 = .ok (.iaload, 1) ∧ decode code 571 = .ok (.aload_n 0, 1) := by decide +kernel
theorem dL_law_562 : decode code 562 = .ok (.goto 566, 3) := zcL_336.1
theorem dL_law_565 : decode code 565 = .ok (.aload_n 1, 1) := zcL_336.2.1
theorem dL_law_566 : decode code 566 = .ok (.aload_n 0, 1) := zcL_336.2.2.1
theorem dL_law_567 : decode code 567 = .ok (.iload_n 3, 1) := zcL_336.2.2.2.1
theorem dL_law_568 : decode code 568 = .ok (.iconst 1, 1) := zcL_336.2.2.2.2.1
theorem dL_law_569 : decode code 569 = .ok (.iadd, 1) := zcL_336.2.2.2.2.2.1
theorem dL_law_570 : decode code 570 = .ok (.iaload, 1) := zcL_336.2.2.2.2.2.2.1
theorem dL_law_571 : decode code 571 = .ok (.aload_n 0, 1) := zcL_336.2.2.2.2.2.2.2
theorem zcL_344 : decode code 572 = .ok (.iload_n 3, 1) ∧ decode code 573 = .ok (.iconst 2, 1) ∧ decode code 574 = .ok (.iadd, 1) ∧ decode code 575 = .ok (.iaload, 1) ∧ decode code 576 = .ok (.invokevirtual 64, 3) ∧ decode code 579 = .ok (.pop, 1) ∧ decode code 580 = .ok (.aload_n 2, 1) ∧ decode code 581 = .ok (.aload_n 0, 1) := by decide +kernel
theorem dL_law_572 : decode code 572 = .ok (.iload_n 3, 1) := zcL_344.1
theorem dL_law_573 : decode code 573 = .ok (.iconst 2, 1) := zcL_344.2.1
theorem dL_law_574 : decode code 574 = .ok (.iadd, 1) := zcL_344.2.2.1
theorem dL_law_575 : decode code 575 = .ok (.iaload, 1) := zcL_344.2.2.2.1
theorem dL_law_576 : decode code 576 = .ok (.invokevirtual 64, 3) := zcL_344.2.2.2.2.1
theorem dL_law_579 : decode code 579 = .ok (.pop, 1) := zcL_344.2.2.2.2.2.1
theorem dL_law_580 : decode code 580 = .ok (.aload_n 2, 1) := zcL_344.2.2.2.2.2.2.1
theorem dL_law_581 : decode code 581 = .ok (.aload_n 0, 1) := zcL_344.2.2.2.2.2.2.2
theorem zcL_352 : decode code 582 = .ok (.iload_n 3, 1) ∧ decode code 583 = .ok (.iconst 1, 1) ∧ decode code 584 = .ok (.iadd, 1) ∧ decode code 585 = .ok (.iaload, 1) ∧ decode code 586 = .ok (.aload_n 0, 1) ∧ decode code 587 = .ok (.iload_n 3, 1) ∧ decode code 588 = .ok (.iconst 2, 1) ∧ decode code 589 = .ok (.iadd, 1) := by decide +kernel
theorem dL_law_582 : decode code 582 = .ok (.iload_n 3, 1) := zcL_352.1
theorem dL_law_583 : decode code 583 = .ok (.iconst 1, 1) := zcL_352.2.1
theorem dL_law_584 : decode code 584 = .ok (.iadd, 1) := zcL_352.2.2.1
theorem dL_law_585 : decode code 585 = .ok (.iaload, 1) := zcL_352.2.2.2.1
theorem dL_law_586 : decode code 586 = .ok (.aload_n 0, 1) := zcL_352.2.2.2.2.1
theorem dL_law_587 : decode code 587 = .ok (.iload_n 3, 1) := zcL_352.2.2.2.2.2.1
theorem dL_law_588 : decode code 588 = .ok (.iconst 2, 1) := zcL_352.2.2.2.2.2.2.1
theorem dL_law_589 : decode code 589 = .ok (.iadd, 1) := zcL_352.2.2.2.2.2.2.2
theorem zcL_360 : decode code 590 = .ok (.iaload, 1) ∧ decode code 591 = .ok (.invokevirtual 67, 3) ∧ decode code 594 = .ok (.pop, 1) ∧ decode code 595 = .ok (.goto 533, 3) ∧ decode code 598 = .ok (.aload_n 1, 1) ∧ decode code 599 = .ok (.aload_n 0, 1) ∧ decode code 600 = .ok (.iload_n 3, 1) ∧ decode code 601 = .ok (.iconst 1, 1) := by decide +kernel
theorem dL_law_590 : decode code 590 = .ok (.iaload, 1) := zcL_360.1
theorem dL_law_591 : decode code 591 = .ok (.invokevirtual 67, 3) := zcL_360.2.1
theorem dL_law_594 : decode code 594 = .ok (.pop, 1) := zcL_360.2.2.1
theorem dL_law_595 : decode code 595 = .ok (.goto 533, 3) := zcL_360.2.2.2.1
theorem dL_law_598 : decode code 598 = .ok (.aload_n 1, 1) := zcL_360.2.2.2.2.1
theorem dL_law_599 : decode code 599 = .ok (.aload_n 0, 1) := zcL_360.2.2.2.2.2.1
theorem dL_law_600 : decode code 600 = .ok (.iload_n 3, 1) := zcL_360.2.2.2.2.2.2.1
theorem dL_law_601 : decode code 601 = .ok (.iconst 1, 1) := zcL_360.2.2.2.2.2.2.2
theorem zcL_368 : decode code 602 = .ok (.iadd, 1) ∧ decode code 603 = .ok (.iaload, 1) ∧ decode code 604 = .ok (.aload_n 0, 1) ∧ decode code 605 = .ok (.iload_n 3, 1) ∧ decode code 606 = .ok (.iconst 2, 1) ∧ decode code 607 = .ok (.iadd, 1) ∧ decode code 608 = .ok (.iaload, 1) ∧ decode code 609 = .ok (.invokevirtual 68, 3) := by decide +kernel
theorem dL_law_602 : decode code 602 = .ok (.iadd, 1) := zcL_368.1
theorem dL_law_603 : decode code 603 = .ok (.iaload, 1) := zcL_368.2.1
theorem dL_law_604 : decode code 604 = .ok (.aload_n 0, 1) := zcL_368.2.2.1
theorem dL_law_605 : decode code 605 = .ok (.iload_n 3, 1) := zcL_368.2.2.2.1
theorem dL_law_606 : decode code 606 = .ok (.iconst 2, 1) := zcL_368.2.2.2.2.1
theorem dL_law_607 : decode code 607 = .ok (.iadd, 1) := zcL_368.2.2.2.2.2.1
theorem dL_law_608 : decode code 608 = .ok (.iaload, 1) := zcL_368.2.2.2.2.2.2.1
theorem dL_law_609 : decode code 609 = .ok (.invokevirtual 68, 3) := zcL_368.2.2.2.2.2.2.2
theorem zcL_376 : decode code 612 = .ok (.pop, 1) ∧ decode code 613 = .ok (.aload_n 2, 1) ∧ decode code 614 = .ok (.aload_n 0, 1) ∧ decode code 615 = .ok (.iload_n 3, 1) ∧ decode code 616 = .ok (.iconst 1, 1) ∧ decode code 617 = .ok (.iadd, 1) ∧ decode code 618 = .ok (.iaload, 1) ∧ decode code 619 = .ok (.aload_n 0, 1) := by decide +kernel
theorem dL_law_612 : decode code 612 = .ok (.pop, 1) := zcL_376.1
theorem dL_law_613 : decode code 613 = .ok (.aload_n 2, 1) := zcL_376.2.1
theorem dL_law_614 : decode code 614 = .ok (.aload_n 0, 1) := zcL_376.2.2.1
theorem dL_law_615 : decode code 615 = .ok (.iload_n 3, 1) := zcL_376.2.2.2.1
theorem dL_law_616 : decode code 616 = .ok (.iconst 1, 1) := zcL_376.2.2.2.2.1
theorem dL_law_617 : decode code 617 = .ok (.iadd, 1) := zcL_376.2.2.2.2.2.1
theorem dL_law_618 : decode code 618 = .ok (.iaload, 1) := zcL_376.2.2.2.2.2.2.1
theorem dL_law_619 : decode code 619 = .ok (.aload_n 0, 1) := zcL_376.2.2.2.2.2.2.2
theorem zcL_384 : decode code 620 = .ok (.iload_n 3, 1) ∧ decode code 621 = .ok (.iconst 2, 1) ∧ decode code 622 = .ok (.iadd, 1) ∧ decode code 623 = .ok (.iaload, 1) ∧ decode code 624 = .ok (.invokevirtual 71, 3) ∧ decode code 627 = .ok (.pop, 1) ∧ decode code 628 = .ok (.goto 500, 3) ∧ decode code 631 = .ok (.aload_n 1, 1) := by decide +kernel
theorem dL_law_620 : decode code 620 = .ok (.iload_n 3, 1) := zcL_384.1
theorem dL_law_621 : decode code 621 = .ok (.iconst 2, 1) := zcL_384.2.1
theorem dL_law_622 : decode code 622 = .ok (.iadd, 1) := zcL_384.2.2.1
theorem dL_law_623 : decode code 623 = .ok (.iaload, 1) := zcL_384.2.2.2.1
theorem dL_law_624 : decode code 624 = .ok (.invokevirtual 71, 3) := zcL_384.2.2.2.2.1
theorem dL_law_627 : decode code 627 = .ok (.pop, 1) := zcL_384.2.2.2.2.2.1
theorem dL_law_628 : decode code 628 = .ok (.goto 500, 3) := zcL_384.2.2.2.2.2.2.1
theorem dL_law_631 : decode code 631 = .ok (.aload_n 1, 1) := zcL_384.2.2.2.2.2.2.2
theorem zcL_392 : decode code 632 = .ok (.invokevirtual 72, 3) ∧ decode code 635 = .ok (.pop, 1) ∧ decode code 636 = .ok (.aload_n 2, 1) ∧ decode code 637 = .ok (.invokevirtual 76, 3) ∧ decode code 640 = .ok (.pop, 1) ∧ decode code 641 = .ok (.goto 487, 3) ∧ decode code 644 = .ok (.aload_n 1, 1) ∧ decode code 645 = .ok (.aload_n 0, 1) := by decide +kernel
theorem dL_law_632 : decode code 632 = .ok (.invokevirtual 72, 3) := zcL_392.1
theorem dL_law_635 : decode code 635 = .ok (.pop, 1) := zcL_392.2.1
theorem dL_law_636 : decode code 636 = .ok (.aload_n 2, 1) := zcL_392.2.2.1
theorem dL_law_637 : decode code 637 = .ok (.invokevirtual 76, 3) := zcL_392.2.2.2.1
theorem dL_law_640 : decode code 640 = .ok (.pop, 1) := zcL_392.2.2.2.2.1
theorem dL_law_641 : decode code 641 = .ok (.goto 487, 3) := zcL_392.2.2.2.2.2.1
theorem dL_law_644 : decode code 644 = .ok (.aload_n 1, 1) := zcL_392.2.2.2.2.2.2.1
theorem dL_law_645 : decode code 645 = .ok (.aload_n 0, 1) := zcL_392.2.2.2.2.2.2.2
theorem zcL_400 : decode code 646 = .ok (.iload_n 3, 1) ∧ decode code 647 = .ok (.iconst 1, 1) ∧ decode code 648 = .ok (.iadd, 1) ∧ decode code 649 = .ok (.iaload, 1) ∧ decode code 650 = .ok (.invokevirtual 77, 3) ∧ decode code 653 = .ok (.pop, 1) ∧ decode code 654 = .ok (.aload_n 2, 1) ∧ decode code 655 = .ok (.aload_n 0, 1) := by decide +kernel
theorem dL_law_646 : decode code 646 = .ok (.iload_n 3, 1) := zcL_400.1
theorem dL_law_647 : decode code 647 = .ok (.iconst 1, 1) := zcL_400.2.1
theorem dL_law_648 : decode code 648 = .ok (.iadd, 1) := zcL_400.2.2.1
theorem dL_law_649 : decode code 649 = .ok (.iaload, 1) := zcL_400.2.2.2.1
theorem dL_law_650 : decode code 650 = .ok (.invokevirtual 77, 3) := zcL_400.2.2.2.2.1
theorem dL_law_653 : decode code 653 = .ok (.pop, 1) := zcL_400.2.2.2.2.2.1
theorem dL_law_654 : decode code 654 = .ok (.aload_n 2, 1) := zcL_400.2.2.2.2.2.2.1
theorem dL_law_655 : decode code 655 = .ok (.aload_n 0, 1) := zcL_400.2.2.2.2.2.2.2
theorem zcL_408 : decode code 656 = .ok (.iload_n 3, 1) ∧ decode code 657 = .ok (.iconst 1, 1) ∧ decode code 658 = .ok (.iadd, 1) ∧ decode code 659 = .ok (.iaload, 1) ∧ decode code 660 = .ok (.invokevirtual 80, 3) ∧ decode code 663 = .ok (.pop, 1) ∧ decode code 664 = .ok (.goto 464, 3) ∧ decode code 667 = .ok (.aload_n 1, 1) := by decide +kernel
theorem dL_law_656 : decode code 656 = .ok (.iload_n 3, 1) := zcL_408.1
theorem dL_law_657 : decode code 657 = .ok (.iconst 1, 1) := zcL_408.2.1
theorem dL_law_658 : decode code 658 = .ok (.iadd, 1) := zcL_408.2.2.1
theorem dL_law_659 : decode code 659 = .ok (.iaload, 1) := zcL_408.2.2.2.1
theorem dL_law_660 : decode code 660 = .ok (.invokevirtual 80, 3) := zcL_408.2.2.2.2.1
theorem dL_law_663 : decode code 663 = .ok (.pop, 1) := zcL_408.2.2.2.2.2.1
theorem dL_law_664 : decode code 664 = .ok (.goto 464, 3) := zcL_408.2.2.2.2.2.2.1
theorem dL_law_667 : decode code 667 = .ok (.aload_n 1, 1) := zcL_408.2.2.2.2.2.2.2
theorem zcL_416 : decode code 668 = .ok (.aload_n 0, 1) ∧ decode code 669 = .ok (.iload_n 3, 1) ∧ decode code 670 = .ok (.iconst 1, 1) ∧ decode code 671 = .ok (.iadd, 1) ∧ decode code 672 = .ok (.iaload, 1) ∧ decode code 673 = .ok (.invokevirtual 81, 3) ∧ decode code 676 = .ok (.pop, 1) ∧ decode code 677 = .ok (.aload_n 2, 1) := by decide +kernel
theorem dL_law_668 : decode code 668 = .ok (.aload_n 0, 1) := zcL_416.1
theorem dL_law_669 : decode code 669 = .ok (.iload_n 3, 1) := zcL_416.2.1
theorem dL_law_670 : decode code 670 = .ok (.iconst 1, 1) := zcL_416.2.2.1
theorem dL_law_671 : decode code 671 = .ok (.iadd, 1) := zcL_416.2.2.2.1
theorem dL_law_672 : decode code 672 = .ok (.iaload, 1) := zcL_416.2.2.2.2.1
theorem dL_law_673 : decode code 673 = .ok (.invokevirtual 81, 3) := zcL_416.2.2.2.2.2.1
theorem dL_law_676 : decode code 676 = .ok (.pop, 1) := zcL_416.2.2.2.2.2.2.1
theorem dL_law_677 : decode code 677 = .ok (.aload_n 2, 1) := zcL_416.2.2.2.2.2.2.2
theorem zcL_424 : decode code 678 = .ok (.aload_n 0, 1) ∧ decode code 679 = .ok (.iload_n 3, 1) ∧ decode code 680 = .ok (.iconst 1, 1) ∧ decode code 681 = .ok (.iadd, 1) ∧ decode code 682 = .ok (.iaload, 1) ∧ decode code 683 = .ok (.invokevirtual 84, 3) ∧ decode code 686 = .ok (.pop, 1) ∧ decode code 687 = .ok (.goto 441, 3) := by decide +kernel
theorem dL_law_678 : decode code 678 = .ok (.aload_n 0, 1) := zcL_424.1
theorem dL_law_679 : decode code 679 = .ok (.iload_n 3, 1) := zcL_424.2.1
theorem dL_law_680 : decode code 680 = .ok (.iconst 1, 1) := zcL_424.2.2.1
theorem dL_law_681 : decode code 681 = .ok (.iadd, 1) := zcL_424.2.2.2.1
theorem dL_law_682 : decode code 682 = .ok (.iaload, 1) := zcL_424.2.2.2.2.1
theorem dL_law_683 : decode code 683 = .ok (.invokevirtual 84, 3) := zcL_424.2.2.2.2.2.1
theorem dL_law_686 : decode code 686 = .ok (.pop, 1) := zcL_424.2.2.2.2.2.2.1
theorem dL_law_687 : decode code 687 = .ok (.goto 441, 3) := zcL_424.2.2.2.2.2.2.2
theorem zcL_432 : decode code 690 = .ok (.aload_n 1, 1) ∧ decode code 691 = .ok (.aload_n 0, 1) ∧ decode code 692 = .ok (.iload_n 3, 1) ∧ decode code 693 = .ok (.iconst 1, 1) ∧ decode code 694 = .ok (.iadd, 1) ∧ decode code 695 = .ok (.iaload, 1) ∧ decode code 696 = .ok (.aload_n 0, 1) ∧ decode code 697 = .ok (.iload_n 3, 1) := by decide +kernel
theorem dL_law_690 : decode code 690 = .ok (.aload_n 1, 1) := zcL_432.1
theorem dL_law_691 : decode code 691 = .ok (.aload_n 0, 1) := zcL_432.2.1
theorem dL_law_692 : decode code 692 = .ok (.iload_n 3, 1) := zcL_432.2.2.1
theorem dL_law_693 : decode code 693 = .ok (.iconst 1, 1) := zcL_432.2.2.2.1
theorem dL_law_694 : decode code 694 = .ok (.iadd, 1) := zcL_432.2.2.2.2.1
theorem dL_law_695 : decode code 695 = .ok (.iaload, 1) := zcL_432.2.2.2.2.2.1
theorem dL_law_696 : decode code 696 = .ok (.aload_n 0, 1) := zcL_432.2.2.2.2.2.2.1
theorem dL_law_697 : decode code 697 = .ok (.iload_n 3, 1) := zcL_432.2.2.2.2.2.2.2
theorem zcL_440 : decode code 698 = .ok (.iconst 2, 1) ∧ decode code 699 = .ok (.iadd, 1) ∧ decode code 700 = .ok (.iaload, 1) ∧ decode code 701 = .ok (.invokevirtual 85, 3) ∧ decode code 704 = .ok (.pop, 1) ∧ decode code 705 = .ok (.aload_n 2, 1) ∧ decode code 706 = .ok (.aload_n 0, 1) ∧ decode code 707 = .ok (.iload_n 3, 1) := by decide +kernel
theorem dL_law_698 : decode code 698 = .ok (.iconst 2, 1) := zcL_440.1
theorem dL_law_699 : decode code 699 = .ok (.iadd, 1) := zcL_440.2.1
theorem dL_law_700 : decode code 700 = .ok (.iaload, 1) := zcL_440.2.2.1
theorem dL_law_701 : decode code 701 = .ok (.invokevirtual 85, 3) := zcL_440.2.2.2.1
theorem dL_law_704 : decode code 704 = .ok (.pop, 1) := zcL_440.2.2.2.2.1
theorem dL_law_705 : decode code 705 = .ok (.aload_n 2, 1) := zcL_440.2.2.2.2.2.1
theorem dL_law_706 : decode code 706 = .ok (.aload_n 0, 1) := zcL_440.2.2.2.2.2.2.1
theorem dL_law_707 : decode code 707 = .ok (.iload_n 3, 1) := zcL_440.2.2.2.2.2.2.2
theorem zcL_448 : decode code 708 = .ok (.iconst 1, 1) ∧ decode code 709 = .ok (.iadd, 1) ∧ decode code 710 = .ok (.iaload, 1) ∧ decode code 711 = .ok (.aload_n 0, 1) ∧ decode code 712 = .ok (.iload_n 3, 1) ∧ decode code 713 = .ok (.iconst 2, 1) ∧ decode code 714 = .ok (.iadd, 1) ∧ decode code 715 = .ok (.iaload, 1) := by decide +kernel
theorem dL_law_708 : decode code 708 = .ok (.iconst 1, 1) := zcL_448.1
theorem dL_law_709 : decode code 709 = .ok (.iadd, 1) := zcL_448.2.1
theorem dL_law_710 : decode code 710 = .ok (.iaload, 1) := zcL_448.2.2.1
theorem dL_law_711 : decode code 711 = .ok (.aload_n 0, 1) := zcL_448.2.2.2.1
theorem dL_law_712 : decode code 712 = .ok (.iload_n 3, 1) := zcL_448.2.2.2.2.1
theorem dL_law_713 : decode code 713 = .ok (.iconst 2, 1) := zcL_448.2.2.2.2.2.1
theorem dL_law_714 : decode code 714 = .ok (.iadd, 1) := zcL_448.2.2.2.2.2.2.1
theorem dL_law_715 : decode code 715 = .ok (.iaload, 1) := zcL_448.2.2.2.2.2.2.2
theorem zcL_456 : decode code 716 = .ok (.invokevirtual 88, 3) ∧ decode code 719 = .ok (.pop, 1) ∧ decode code 720 = .ok (.goto 408, 3) ∧ decode code 723 = .ok (.aload_n 1, 1) ∧ decode code 724 = .ok (.aload_n 0, 1) ∧ decode code 725 = .ok (.iload_n 3, 1) ∧ decode code 726 = .ok (.iconst 1, 1) ∧ decode code 727 = .ok (.iadd, 1) := by decide +kernel
theorem dL_law_716 : decode code 716 = .ok (.invokevirtual 88, 3) := zcL_456.1
theorem dL_law_719 : decode code 719 = .ok (.pop, 1) := zcL_456.2.1
theorem dL_law_720 : decode code 720 = .ok (.goto 408, 3) := zcL_456.2.2.1
theorem dL_law_723 : decode code 723 = .ok (.aload_n 1, 1) := zcL_456.2.2.2.1
theorem dL_law_724 : decode code 724 = .ok (.aload_n 0, 1) := zcL_456.2.2.2.2.1
theorem dL_law_725 : decode code 725 = .ok (.iload_n 3, 1) := zcL_456.2.2.2.2.2.1
theorem dL_law_726 : decode code 726 = .ok (.iconst 1, 1) := zcL_456.2.2.2.2.2.2.1
theorem dL_law_727 : decode code 727 = .ok (.iadd, 1) := zcL_456.2.2.2.2.2.2.2
theorem zcL_464 : decode code 728 = .ok (.iaload, 1) ∧ decode code 729 = .ok (.aload_n 0, 1) ∧ decode code 730 = .ok (.iload_n 3, 1) ∧ decode code 731 = .ok (.iconst 2, 1) ∧ decode code 732 = .ok (.iadd, 1) ∧ decode code 733 = .ok (.iaload, 1) ∧ decode code 734 = .ok (.invokevirtual 89, 3) ∧ decode code 737 = .ok (.pop, 1) := by decide +kernel
theorem dL_law_728 : decode code 728 = .ok (.iaload, 1) := zcL_464.1
theorem dL_law_729 : decode code 729 = .ok (.aload_n 0, 1) := zcL_464.2.1
theorem dL_law_730 : decode code 730 = .ok (.iload_n 3, 1) := zcL_464.2.2.1
theorem dL_law_731 : decode code 731 = .ok (.iconst 2, 1) := zcL_464.2.2.2.1
theorem dL_law_732 : decode code 732 = .ok (.iadd, 1) := zcL_464.2.2.2.2.1
theorem dL_law_733 : decode code 733 = .ok (.iaload, 1) := zcL_464.2.2.2.2.2.1
theorem dL_law_734 : decode code 734 = .ok (.invokevirtual 89, 3) := zcL_464.2.2.2.2.2.2.1
theorem dL_law_737 : decode code 737 = .ok (.pop, 1) := zcL_464.2.2.2.2.2.2.2
theorem zcL_472 : decode code 738 = .ok (.aload_n 2, 1) ∧ decode code 739 = .ok (.aload_n 0, 1) ∧ decode code 740 = .ok (.iload_n 3, 1) ∧ decode code 741 = .ok (.iconst 1, 1) ∧ decode code 742 = .ok (.iadd, 1) ∧ decode code 743 = .ok (.iaload, 1) ∧ decode code 744 = .ok (.aload_n 0, 1) ∧ decode code 745 = .ok (.iload_n 3, 1) := by decide +kernel
theorem dL_law_738 : decode code 738 = .ok (.aload_n 2, 1) := zcL_472.1
theorem dL_law_739 : decode code 739 = .ok (.aload_n 0, 1) := zcL_472.2.1
theorem dL_law_740 : decode code 740 = .ok (.iload_n 3, 1) := zcL_472.2.2.1
theorem dL_law_741 : decode code 741 = .ok (.iconst 1, 1) := zcL_472.2.2.2.1
theorem dL_law_742 : decode code 742 = .ok (.iadd, 1) := zcL_472.2.2.2.2.1
theorem dL_law_743 : decode code 743 = .ok (.iaload, 1) := zcL_472.2.2.2.2.2.1
theorem dL_law_744 : decode code 744 = .ok (.aload_n 0, 1) := zcL_472.2.2.2.2.2.2.1
theorem dL_law_745 : decode code 745 = .ok (.iload_n 3, 1) := zcL_472.2.2.2.2.2.2.2
theorem zcL_480 : decode code 746 = .ok (.iconst 2, 1) ∧ decode code 747 = .ok (.iadd, 1) ∧ decode code 748 = .ok (.iaload, 1) ∧ decode code 749 = .ok (.invokevirtual 92, 3) ∧ decode code 752 = .ok (.pop, 1) ∧ decode code 753 = .ok (.goto 375, 3) ∧ decode code 756 = .ok (.aload_n 1, 1) ∧ decode code 757 = .ok (.aload_n 0, 1) := by decide +kernel
theorem dL_law_746 : decode code 746 = .ok (.iconst 2, 1) := zcL_480.1
theorem dL_law_747 : decode code 747 = .ok (.iadd, 1) := zcL_480.2.1
theorem dL_law_748 : decode code 748 = .ok (.iaload, 1) := zcL_480.2.2.1
theorem dL_law_749 : decode code 749 = .ok (.invokevirtual 92, 3) := zcL_480.2.2.2.1
theorem dL_law_752 : decode code 752 = .ok (.pop, 1) := zcL_480.2.2.2.2.1
theorem dL_law_753 : decode code 753 = .ok (.goto 375, 3) := zcL_480.2.2.2.2.2.1
theorem dL_law_756 : decode code 756 = .ok (.aload_n 1, 1) := zcL_480.2.2.2.2.2.2.1
theorem dL_law_757 : decode code 757 = .ok (.aload_n 0, 1) := zcL_480.2.2.2.2.2.2.2
theorem zcL_488 : decode code 758 = .ok (.iload_n 3, 1) ∧ decode code 759 = .ok (.iconst 1, 1) ∧ decode code 760 = .ok (.iadd, 1) ∧ decode code 761 = .ok (.iaload, 1) ∧ decode code 762 = .ok (.aload_n 0, 1) ∧ decode code 763 = .ok (.iload_n 3, 1) ∧ decode code 764 = .ok (.iconst 2, 1) ∧ decode code 765 = .ok (.iadd, 1) := by decide +kernel
theorem dL_law_758 : decode code 758 = .ok (.iload_n 3, 1) := zcL_488.1
theorem dL_law_759 : decode code 759 = .ok (.iconst 1, 1) := zcL_488.2.1
theorem dL_law_760 : decode code 760 = .ok (.iadd, 1) := zcL_488.2.2.1
theorem dL_law_761 : decode code 761 = .ok (.iaload, 1) := zcL_488.2.2.2.1
theorem dL_law_762 : decode code 762 = .ok (.aload_n 0, 1) := zcL_488.2.2.2.2.1
theorem dL_law_763 : decode code 763 = .ok (.iload_n 3, 1) := zcL_488.2.2.2.2.2.1
theorem dL_law_764 : decode code 764 = .ok (.iconst 2, 1) := zcL_488.2.2.2.2.2.2.1
theorem dL_law_765 : decode code 765 = .ok (.iadd, 1) := zcL_488.2.2.2.2.2.2.2
theorem zcL_496 : decode code 766 = .ok (.iaload, 1) ∧ decode code 767 = .ok (.invokevirtual 93, 3) ∧ decode code 770 = .ok (.pop, 1) ∧ decode code 771 = .ok (.aload_n 2, 1) ∧ decode code 772 = .ok (.aload_n 0, 1) ∧ decode code 773 = .ok (.iload_n 3, 1) ∧ decode code 774 = .ok (.iconst 1, 1) ∧ decode code 775 = .ok (.iadd, 1) := by decide +kernel
theorem dL_law_766 : decode code 766 = .ok (.iaload, 1) := zcL_496.1
theorem dL_law_767 : decode code 767 = .ok (.invokevirtual 93, 3) := zcL_496.2.1
theorem dL_law_770 : decode code 770 = .ok (.pop, 1) := zcL_496.2.2.1
theorem dL_law_771 : decode code 771 = .ok (.aload_n 2, 1) := zcL_496.2.2.2.1
theorem dL_law_772 : decode code 772 = .ok (.aload_n 0, 1) := zcL_496.2.2.2.2.1
theorem dL_law_773 : decode code 773 = .ok (.iload_n 3, 1) := zcL_496.2.2.2.2.2.1
theorem dL_law_774 : decode code 774 = .ok (.iconst 1, 1) := zcL_496.2.2.2.2.2.2.1
theorem dL_law_775 : decode code 775 = .ok (.iadd, 1) := zcL_496.2.2.2.2.2.2.2
theorem zcL_504 : decode code 776 = .ok (.iaload, 1) ∧ decode code 777 = .ok (.aload_n 0, 1) ∧ decode code 778 = .ok (.iload_n 3, 1) ∧ decode code 779 = .ok (.iconst 2, 1) ∧ decode code 780 = .ok (.iadd, 1) ∧ decode code 781 = .ok (.iaload, 1) ∧ decode code 782 = .ok (.invokevirtual 96, 3) ∧ decode code 785 = .ok (.pop, 1) := by decide +kernel
theorem dL_law_776 : decode code 776 = .ok (.iaload, 1) := zcL_504.1
theorem dL_law_777 : decode code 777 = .ok (.aload_n 0, 1) := zcL_504.2.1
theorem dL_law_778 : decode code 778 = .ok (.iload_n 3, 1) := zcL_504.2.2.1
theorem dL_law_779 : decode code 779 = .ok (.iconst 2, 1) := zcL_504.2.2.2.1
theorem dL_law_780 : decode code 780 = .ok (.iadd, 1) := zcL_504.2.2.2.2.1
theorem dL_law_781 : decode code 781 = .ok (.iaload, 1) := zcL_504.2.2.2.2.2.1
theorem dL_law_782 : decode code 782 = .ok (.invokevirtual 96, 3) := zcL_504.2.2.2.2.2.2.1
theorem dL_law_785 : decode code 785 = .ok (.pop, 1) := zcL_504.2.2.2.2.2.2.2
theorem zcL_512 : decode code 786 = .ok (.goto 342, 3) ∧ decode code 789 = .ok (.aload_n 1, 1) ∧ decode code 790 = .ok (.aload_n 0, 1) ∧ decode code 791 = .ok (.iload_n 3, 1) ∧ decode code 792 = .ok (.iconst 1, 1) ∧ decode code 793 = .ok (.iadd, 1) ∧ decode code 794 = .ok (.iaload, 1) ∧ decode code 795 = .ok (.aload_n 0, 1) := by decide +kernel
theorem dL_law_786 : decode code 786 = .ok (.goto 342, 3) := zcL_512.1
theorem dL_law_789 : decode code 789 = .ok (.aload_n 1, 1) := zcL_512.2.1
theorem dL_law_790 : decode code 790 = .ok (.aload_n 0, 1) := zcL_512.2.2.1
theorem dL_law_791 : decode code 791 = .ok (.iload_n 3, 1) := zcL_512.2.2.2.1
theorem dL_law_792 : decode code 792 = .ok (.iconst 1, 1) := zcL_512.2.2.2.2.1
theorem dL_law_793 : decode code 793 = .ok (.iadd, 1) := zcL_512.2.2.2.2.2.1
theorem dL_law_794 : decode code 794 = .ok (.iaload, 1) := zcL_512.2.2.2.2.2.2.1
theorem dL_law_795 : decode code 795 = .ok (.aload_n 0, 1) := zcL_512.2.2.2.2.2.2.2
theorem zcL_520 : decode code 796 = .ok (.iload_n 3, 1) ∧ decode code 797 = .ok (.iconst 2, 1) ∧ decode code 798 = .ok (.iadd, 1) ∧ decode code 799 = .ok (.iaload, 1) ∧ decode code 800 = .ok (.aload_n 0, 1) ∧ decode code 801 = .ok (.iload_n 3, 1) ∧ decode code 802 = .ok (.iconst 3, 1) ∧ decode code 803 = .ok (.iadd, 1) := by decide +kernel
theorem dL_law_796 : decode code 796 = .ok (.iload_n 3, 1) := zcL_520.1
theorem dL_law_797 : decode code 797 = .ok (.iconst 2, 1) := zcL_520.2.1
theorem dL_law_798 : decode code 798 = .ok (.iadd, 1) := zcL_520.2.2.1
theorem dL_law_799 : decode code 799 = .ok (.iaload, 1) := zcL_520.2.2.2.1
theorem dL_law_800 : decode code 800 = .ok (.aload_n 0, 1) := zcL_520.2.2.2.2.1
theorem dL_law_801 : decode code 801 = .ok (.iload_n 3, 1) := zcL_520.2.2.2.2.2.1
theorem dL_law_802 : decode code 802 = .ok (.iconst 3, 1) := zcL_520.2.2.2.2.2.2.1
theorem dL_law_803 : decode code 803 = .ok (.iadd, 1) := zcL_520.2.2.2.2.2.2.2
theorem zcL_528 : decode code 804 = .ok (.iaload, 1) ∧ decode code 805 = .ok (.invokevirtual 97, 3) ∧ decode code 808 = .ok (.pop, 1) ∧ decode code 809 = .ok (.aload_n 2, 1) ∧ decode code 810 = .ok (.aload_n 0, 1) ∧ decode code 811 = .ok (.iload_n 3, 1) ∧ decode code 812 = .ok (.iconst 1, 1) ∧ decode code 813 = .ok (.iadd, 1) := by decide +kernel
theorem dL_law_804 : decode code 804 = .ok (.iaload, 1) := zcL_528.1
theorem dL_law_805 : decode code 805 = .ok (.invokevirtual 97, 3) := zcL_528.2.1
theorem dL_law_808 : decode code 808 = .ok (.pop, 1) := zcL_528.2.2.1
theorem dL_law_809 : decode code 809 = .ok (.aload_n 2, 1) := zcL_528.2.2.2.1
theorem dL_law_810 : decode code 810 = .ok (.aload_n 0, 1) := zcL_528.2.2.2.2.1
theorem dL_law_811 : decode code 811 = .ok (.iload_n 3, 1) := zcL_528.2.2.2.2.2.1
theorem dL_law_812 : decode code 812 = .ok (.iconst 1, 1) := zcL_528.2.2.2.2.2.2.1
theorem dL_law_813 : decode code 813 = .ok (.iadd, 1) := zcL_528.2.2.2.2.2.2.2
theorem zcL_536 : decode code 814 = .ok (.iaload, 1) ∧ decode code 815 = .ok (.aload_n 0, 1) ∧ decode code 816 = .ok (.iload_n 3, 1) ∧ decode code 817 = .ok (.iconst 2, 1) ∧ decode code 818 = .ok (.iadd, 1) ∧ decode code 819 = .ok (.iaload, 1) ∧ decode code 820 = .ok (.aload_n 0, 1) ∧ decode code 821 = .ok (.iload_n 3, 1) := by decide +kernel
theorem dL_law_814 : decode code 814 = .ok (.iaload, 1) := zcL_536.1
theorem dL_law_815 : decode code 815 = .ok (.aload_n 0, 1) := zcL_536.2.1
theorem dL_law_816 : decode code 816 = .ok (.iload_n 3, 1) := zcL_536.2.2.1
theorem dL_law_817 : decode code 817 = .ok (.iconst 2, 1) := zcL_536.2.2.2.1
theorem dL_law_818 : decode code 818 = .ok (.iadd, 1) := zcL_536.2.2.2.2.1
theorem dL_law_819 : decode code 819 = .ok (.iaload, 1) := zcL_536.2.2.2.2.2.1
theorem dL_law_820 : decode code 820 = .ok (.aload_n 0, 1) := zcL_536.2.2.2.2.2.2.1
theorem dL_law_821 : decode code 821 = .ok (.iload_n 3, 1) := zcL_536.2.2.2.2.2.2.2
theorem zcL_544 : decode code 822 = .ok (.iconst 3, 1) ∧ decode code 823 = .ok (.iadd, 1) ∧ decode code 824 = .ok (.iaload, 1) ∧ decode code 825 = .ok (.invokevirtual 101, 3) ∧ decode code 828 = .ok (.pop, 1) ∧ decode code 829 = .ok (.goto 299, 3) ∧ decode code 832 = .ok (.aload_n 1, 1) ∧ decode code 833 = .ok (.invokevirtual 102, 3) := by decide +kernel
theorem dL_law_822 : decode code 822 = .ok (.iconst 3, 1) := zcL_544.1
theorem dL_law_823 : decode code 823 = .ok (.iadd, 1) := zcL_544.2.1
theorem dL_law_824 : decode code 824 = .ok (.iaload, 1) := zcL_544.2.2.1
theorem dL_law_825 : decode code 825 = .ok (.invokevirtual 101, 3) := zcL_544.2.2.2.1
theorem dL_law_828 : decode code 828 = .ok (.pop, 1) := zcL_544.2.2.2.2.1
theorem dL_law_829 : decode code 829 = .ok (.goto 299, 3) := zcL_544.2.2.2.2.2.1
theorem dL_law_832 : decode code 832 = .ok (.aload_n 1, 1) := zcL_544.2.2.2.2.2.2.1
theorem dL_law_833 : decode code 833 = .ok (.invokevirtual 102, 3) := zcL_544.2.2.2.2.2.2.2
theorem zcL_552 : decode code 836 = .ok (.pop, 1) ∧ decode code 837 = .ok (.aload_n 2, 1) ∧ decode code 838 = .ok (.invokevirtual 105, 3) ∧ decode code 841 = .ok (.pop, 1) ∧ decode code 842 = .ok (.goto 286, 3) ∧ decode code 845 = .ok (.aload_n 1, 1) ∧ decode code 846 = .ok (.aload_n 0, 1) ∧ decode code 847 = .ok (.iload_n 3, 1) := by decide +kernel
theorem dL_law_836 : decode code 836 = .ok (.pop, 1) := zcL_552.1
theorem dL_law_837 : decode code 837 = .ok (.aload_n 2, 1) := zcL_552.2.1
theorem dL_law_838 : decode code 838 = .ok (.invokevirtual 105, 3) := zcL_552.2.2.1
theorem dL_law_841 : decode code 841 = .ok (.pop, 1) := zcL_552.2.2.2.1
theorem dL_law_842 : decode code 842 = .ok (.goto 286, 3) := zcL_552.2.2.2.2.1
theorem dL_law_845 : decode code 845 = .ok (.aload_n 1, 1) := zcL_552.2.2.2.2.2.1
theorem dL_law_846 : decode code 846 = .ok (.aload_n 0, 1) := zcL_552.2.2.2.2.2.2.1
theorem dL_law_847 : decode code 847 = .ok (.iload_n 3, 1) := zcL_552.2.2.2.2.2.2.2
theorem zcL_560 : decode code 848 = .ok (.iconst 1, 1) ∧ decode code 849 = .ok (.iadd, 1) ∧ decode code 850 = .ok (.iaload, 1) ∧ decode code 851 = .ok (.invokevirtual 106, 3) ∧ decode code 854 = .ok (.pop, 1) ∧ decode code 855 = .ok (.aload_n 2, 1) ∧ decode code 856 = .ok (.aload_n 0, 1) ∧ decode code 857 = .ok (.iload_n 3, 1) := by decide +kernel
theorem dL_law_848 : decode code 848 = .ok (.iconst 1, 1) := zcL_560.1
theorem dL_law_849 : decode code 849 = .ok (.iadd, 1) := zcL_560.2.1
theorem dL_law_850 : decode code 850 = .ok (.iaload, 1) := zcL_560.2.2.1
theorem dL_law_851 : decode code 851 = .ok (.invokevirtual 106, 3) := zcL_560.2.2.2.1
theorem dL_law_854 : decode code 854 = .ok (.pop, 1) := zcL_560.2.2.2.2.1
theorem dL_law_855 : decode code 855 = .ok (.aload_n 2, 1) := zcL_560.2.2.2.2.2.1
theorem dL_law_856 : decode code 856 = .ok (.aload_n 0, 1) := zcL_560.2.2.2.2.2.2.1
theorem dL_law_857 : decode code 857 = .ok (.iload_n 3, 1) := zcL_560.2.2.2.2.2.2.2
theorem zcL_568 : decode code 858 = .ok (.iconst 1, 1) ∧ decode code 859 = .ok (.iadd, 1) ∧ decode code 860 = .ok (.iaload, 1) ∧ decode code 861 = .ok (.invokevirtual 109, 3) ∧ decode code 864 = .ok (.pop, 1) ∧ decode code 865 = .ok (.goto 263, 3) ∧ decode code 868 = .ok (.aload_n 1, 1) ∧ decode code 869 = .ok (.aload_n 0, 1) := by decide +kernel
theorem dL_law_858 : decode code 858 = .ok (.iconst 1, 1) := zcL_568.1
theorem dL_law_859 : decode code 859 = .ok (.iadd, 1) := zcL_568.2.1
theorem dL_law_860 : decode code 860 = .ok (.iaload, 1) := zcL_568.2.2.1
theorem dL_law_861 : decode code 861 = .ok (.invokevirtual 109, 3) := zcL_568.2.2.2.1
theorem dL_law_864 : decode code 864 = .ok (.pop, 1) := zcL_568.2.2.2.2.1
theorem dL_law_865 : decode code 865 = .ok (.goto 263, 3) := zcL_568.2.2.2.2.2.1
theorem dL_law_868 : decode code 868 = .ok (.aload_n 1, 1) := zcL_568.2.2.2.2.2.2.1
theorem dL_law_869 : decode code 869 = .ok (.aload_n 0, 1) := zcL_568.2.2.2.2.2.2.2
theorem zcL_576 : decode code 870 = .ok (.iload_n 3, 1) ∧ decode code 871 = .ok (.iconst 1, 1) ∧ decode code 872 = .ok (.iadd, 1) ∧ decode code 873 = .ok (.iaload, 1) ∧ decode code 874 = .ok (.aload_n 0, 1) ∧ decode code 875 = .ok (.iload_n 3, 1) ∧ decode code 876 = .ok (.iconst 2, 1) ∧ decode code 877 = .ok (.iadd, 1) := by decide +kernel
theorem dL_law_870 : decode code 870 = .ok (.iload_n 3, 1) := zcL_576.1
theorem dL_law_871 : decode code 871 = .ok (.iconst 1, 1) := zcL_576.2.1
theorem dL_law_872 : decode code 872 = .ok (.iadd, 1) := zcL_576.2.2.1
theorem dL_law_873 : decode code 873 = .ok (.iaload, 1) := zcL_576.2.2.2.1
theorem dL_law_874 : decode code 874 = .ok (.aload_n 0, 1) := zcL_576.2.2.2.2.1
theorem dL_law_875 : decode code 875 = .ok (.iload_n 3, 1) := zcL_576.2.2.2.2.2.1
theorem dL_law_876 : decode code 876 = .ok (.iconst 2, 1) := zcL_576.2.2.2.2.2.2.1
theorem dL_law_877 : decode code 877 = .ok (.iadd, 1) := zcL_576.2.2.2.2.2.2.2
theorem zcL_584 : decode code 878 = .ok (.iaload, 1) ∧ decode code 879 = .ok (.aload_n 0, 1) ∧ decode code 880 = .ok (.iload_n 3, 1) ∧ decode code 881 = .ok (.iconst 3, 1) ∧ decode code 882 = .ok (.iadd, 1) ∧ decode code 883 = .ok (.iaload, 1) ∧ decode code 884 = .ok (.aload_n 0, 1) ∧ decode code 885 = .ok (.iload_n 3, 1) := by decide +kernel
theorem dL_law_878 : decode code 878 = .ok (.iaload, 1) := zcL_584.1
theorem dL_law_879 : decode code 879 = .ok (.aload_n 0, 1) := zcL_584.2.1
theorem dL_law_880 : decode code 880 = .ok (.iload_n 3, 1) := zcL_584.2.2.1
theorem dL_law_881 : decode code 881 = .ok (.iconst 3, 1) := zcL_584.2.2.2.1
theorem dL_law_882 : decode code 882 = .ok (.iadd, 1) := zcL_584.2.2.2.2.1
theorem dL_law_883 : decode code 883 = .ok (.iaload, 1) := zcL_584.2.2.2.2.2.1
theorem dL_law_884 : decode code 884 = .ok (.aload_n 0, 1) := zcL_584.2.2.2.2.2.2.1
theorem dL_law_885 : decode code 885 = .ok (.iload_n 3, 1) := zcL_584.2.2.2.2.2.2.2
theorem zcL_592 : decode code 886 = .ok (.iconst 4, 1) ∧ decode code 887 = .ok (.iadd, 1) ∧ decode code 888 = .ok (.iaload, 1) ∧ decode code 889 = .ok (.invokevirtual 110, 3) ∧ decode code 892 = .ok (.pop, 1) ∧ decode code 893 = .ok (.aload_n 2, 1) ∧ decode code 894 = .ok (.aload_n 0, 1) ∧ decode code 895 = .ok (.iload_n 3, 1) := by decide +kernel
theorem dL_law_886 : decode code 886 = .ok (.iconst 4, 1) := zcL_592.1
theorem dL_law_887 : decode code 887 = .ok (.iadd, 1) := zcL_592.2.1
theorem dL_law_888 : decode code 888 = .ok (.iaload, 1) := zcL_592.2.2.1
theorem dL_law_889 : decode code 889 = .ok (.invokevirtual 110, 3) := zcL_592.2.2.2.1
theorem dL_law_892 : decode code 892 = .ok (.pop, 1) := zcL_592.2.2.2.2.1
theorem dL_law_893 : decode code 893 = .ok (.aload_n 2, 1) := zcL_592.2.2.2.2.2.1
theorem dL_law_894 : decode code 894 = .ok (.aload_n 0, 1) := zcL_592.2.2.2.2.2.2.1
theorem dL_law_895 : decode code 895 = .ok (.iload_n 3, 1) := zcL_592.2.2.2.2.2.2.2
theorem zcL_600 : decode code 896 = .ok (.iconst 1, 1) ∧ decode code 897 = .ok (.iadd, 1) ∧ decode code 898 = .ok (.iaload, 1) ∧ decode code 899 = .ok (.aload_n 0, 1) ∧ decode code 900 = .ok (.iload_n 3, 1) ∧ decode code 901 = .ok (.iconst 2, 1) ∧ decode code 902 = .ok (.iadd, 1) ∧ decode code 903 = .ok (.iaload, 1) := by decide +kernel
theorem dL_law_896 : decode code 896 = .ok (.iconst 1, 1) := zcL_600.1
theorem dL_law_897 : decode code 897 = .ok (.iadd, 1) := zcL_600.2.1
theorem dL_law_898 : decode code 898 = .ok (.iaload, 1) := zcL_600.2.2.1
theorem dL_law_899 : decode code 899 = .ok (.aload_n 0, 1) := zcL_600.2.2.2.1
theorem dL_law_900 : decode code 900 = .ok (.iload_n 3, 1) := zcL_600.2.2.2.2.1
theorem dL_law_901 : decode code 901 = .ok (.iconst 2, 1) := zcL_600.2.2.2.2.2.1
theorem dL_law_902 : decode code 902 = .ok (.iadd, 1) := zcL_600.2.2.2.2.2.2.1
theorem dL_law_903 : decode code 903 = .ok (.iaload, 1) := zcL_600.2.2.2.2.2.2.2
theorem zcL_608 : decode code 904 = .ok (.aload_n 0, 1) ∧ decode code 905 = .ok (.iload_n 3, 1) ∧ decode code 906 = .ok (.iconst 3, 1) ∧ decode code 907 = .ok (.iadd, 1) ∧ decode code 908 = .ok (.iaload, 1) ∧ decode code 909 = .ok (.aload_n 0, 1) ∧ decode code 910 = .ok (.iload_n 3, 1) ∧ decode code 911 = .ok (.iconst 4, 1) := by decide +kernel
theorem dL_law_904 : decode code 904 = .ok (.aload_n 0, 1) := zcL_608.1
theorem dL_law_905 : decode code 905 = .ok (.iload_n 3, 1) := zcL_608.2.1
theorem dL_law_906 : decode code 906 = .ok (.iconst 3, 1) := zcL_608.2.2.1
theorem dL_law_907 : decode code 907 = .ok (.iadd, 1) := zcL_608.2.2.2.1
theorem dL_law_908 : decode code 908 = .ok (.iaload, 1) := zcL_608.2.2.2.2.1
theorem dL_law_909 : decode code 909 = .ok (.aload_n 0, 1) := zcL_608.2.2.2.2.2.1
theorem dL_law_910 : decode code 910 = .ok (.iload_n 3, 1) := zcL_608.2.2.2.2.2.2.1
theorem dL_law_911 : decode code 911 = .ok (.iconst 4, 1) := zcL_608.2.2.2.2.2.2.2
theorem zcL_616 : decode code 912 = .ok (.iadd, 1) ∧ decode code 913 = .ok (.iaload, 1) ∧ decode code 914 = .ok (.invokevirtual 114, 3) ∧ decode code 917 = .ok (.pop, 1) ∧ decode code 918 = .ok (.goto 210, 3) ∧ decode code 921 = .ok (.aload_n 1, 1) ∧ decode code 922 = .ok (.aload_n 0, 1) ∧ decode code 923 = .ok (.iload_n 3, 1) := by decide +kernel
theorem dL_law_912 : decode code 912 = .ok (.iadd, 1) := zcL_616.1
theorem dL_law_913 : decode code 913 = .ok (.iaload, 1) := zcL_616.2.1
theorem dL_law_914 : decode code 914 = .ok (.invokevirtual 114, 3) := zcL_616.2.2.1
theorem dL_law_917 : decode code 917 = .ok (.pop, 1) := zcL_616.2.2.2.1
theorem dL_law_918 : decode code 918 = .ok (.goto 210, 3) := zcL_616.2.2.2.2.1
theorem dL_law_921 : decode code 921 = .ok (.aload_n 1, 1) := zcL_616.2.2.2.2.2.1
theorem dL_law_922 : decode code 922 = .ok (.aload_n 0, 1) := zcL_616.2.2.2.2.2.2.1
theorem dL_law_923 : decode code 923 = .ok (.iload_n 3, 1) := zcL_616.2.2.2.2.2.2.2
theorem zcL_624 : decode code 924 = .ok (.iconst 1, 1) ∧ decode code 925 = .ok (.iadd, 1) ∧ decode code 926 = .ok (.iaload, 1) ∧ decode code 927 = .ok (.aload_n 0, 1) ∧ decode code 928 = .ok (.iload_n 3, 1) ∧ decode code 929 = .ok (.iconst 2, 1) ∧ decode code 930 = .ok (.iadd, 1) ∧ decode code 931 = .ok (.iaload, 1) := by decide +kernel
theorem dL_law_924 : decode code 924 = .ok (.iconst 1, 1) := zcL_624.1
theorem dL_law_925 : decode code 925 = .ok (.iadd, 1) := zcL_624.2.1
theorem dL_law_926 : decode code 926 = .ok (.iaload, 1) := zcL_624.2.2.1
theorem dL_law_927 : decode code 927 = .ok (.aload_n 0, 1) := zcL_624.2.2.2.1
theorem dL_law_928 : decode code 928 = .ok (.iload_n 3, 1) := zcL_624.2.2.2.2.1
theorem dL_law_929 : decode code 929 = .ok (.iconst 2, 1) := zcL_624.2.2.2.2.2.1
theorem dL_law_930 : decode code 930 = .ok (.iadd, 1) := zcL_624.2.2.2.2.2.2.1
theorem dL_law_931 : decode code 931 = .ok (.iaload, 1) := zcL_624.2.2.2.2.2.2.2
theorem zcL_632 : decode code 932 = .ok (.invokevirtual 115, 3) ∧ decode code 935 = .ok (.pop, 1) ∧ decode code 936 = .ok (.aload_n 2, 1) ∧ decode code 937 = .ok (.aload_n 0, 1) ∧ decode code 938 = .ok (.iload_n 3, 1) ∧ decode code 939 = .ok (.iconst 1, 1) ∧ decode code 940 = .ok (.iadd, 1) ∧ decode code 941 = .ok (.iaload, 1) := by decide +kernel
theorem dL_law_932 : decode code 932 = .ok (.invokevirtual 115, 3) := zcL_632.1
theorem dL_law_935 : decode code 935 = .ok (.pop, 1) := zcL_632.2.1
theorem dL_law_936 : decode code 936 = .ok (.aload_n 2, 1) := zcL_632.2.2.1
theorem dL_law_937 : decode code 937 = .ok (.aload_n 0, 1) := zcL_632.2.2.2.1
theorem dL_law_938 : decode code 938 = .ok (.iload_n 3, 1) := zcL_632.2.2.2.2.1
theorem dL_law_939 : decode code 939 = .ok (.iconst 1, 1) := zcL_632.2.2.2.2.2.1
theorem dL_law_940 : decode code 940 = .ok (.iadd, 1) := zcL_632.2.2.2.2.2.2.1
theorem dL_law_941 : decode code 941 = .ok (.iaload, 1) := zcL_632.2.2.2.2.2.2.2
theorem zcL_640 : decode code 942 = .ok (.aload_n 0, 1) ∧ decode code 943 = .ok (.iload_n 3, 1) ∧ decode code 944 = .ok (.iconst 2, 1) ∧ decode code 945 = .ok (.iadd, 1) ∧ decode code 946 = .ok (.iaload, 1) ∧ decode code 947 = .ok (.invokevirtual 118, 3) ∧ decode code 950 = .ok (.pop, 1) ∧ decode code 951 = .ok (.goto 177, 3) := by decide +kernel
theorem dL_law_942 : decode code 942 = .ok (.aload_n 0, 1) := zcL_640.1
theorem dL_law_943 : decode code 943 = .ok (.iload_n 3, 1) := zcL_640.2.1
theorem dL_law_944 : decode code 944 = .ok (.iconst 2, 1) := zcL_640.2.2.1
theorem dL_law_945 : decode code 945 = .ok (.iadd, 1) := zcL_640.2.2.2.1
theorem dL_law_946 : decode code 946 = .ok (.iaload, 1) := zcL_640.2.2.2.2.1
theorem dL_law_947 : decode code 947 = .ok (.invokevirtual 118, 3) := zcL_640.2.2.2.2.2.1
theorem dL_law_950 : decode code 950 = .ok (.pop, 1) := zcL_640.2.2.2.2.2.2.1
theorem dL_law_951 : decode code 951 = .ok (.goto 177, 3) := zcL_640.2.2.2.2.2.2.2
theorem zcL_648 : decode code 954 = .ok (.aload_n 1, 1) ∧ decode code 955 = .ok (.aload_n 0, 1) ∧ decode code 956 = .ok (.iload_n 3, 1) ∧ decode code 957 = .ok (.iconst 1, 1) ∧ decode code 958 = .ok (.iadd, 1) ∧ decode code 959 = .ok (.iaload, 1) ∧ decode code 960 = .ok (.invokevirtual 119, 3) ∧ decode code 963 = .ok (.aload_n 2, 1) := by decide +kernel
theorem dL_law_954 : decode code 954 = .ok (.aload_n 1, 1) := zcL_648.1
theorem dL_law_955 : decode code 955 = .ok (.aload_n 0, 1) := zcL_648.2.1
theorem dL_law_956 : decode code 956 = .ok (.iload_n 3, 1) := zcL_648.2.2.1
theorem dL_law_957 : decode code 957 = .ok (.iconst 1, 1) := zcL_648.2.2.2.1
theorem dL_law_958 : decode code 958 = .ok (.iadd, 1) := zcL_648.2.2.2.2.1
theorem dL_law_959 : decode code 959 = .ok (.iaload, 1) := zcL_648.2.2.2.2.2.1
theorem dL_law_960 : decode code 960 = .ok (.invokevirtual 119, 3) := zcL_648.2.2.2.2.2.2.1
theorem dL_law_963 : decode code 963 = .ok (.aload_n 2, 1) := zcL_648.2.2.2.2.2.2.2
theorem zcL_656 : decode code 964 = .ok (.aload_n 0, 1) ∧ decode code 965 = .ok (.iload_n 3, 1) ∧ decode code 966 = .ok (.iconst 1, 1) ∧ decode code 967 = .ok (.iadd, 1) ∧ decode code 968 = .ok (.iaload, 1) ∧ decode code 969 = .ok (.invokevirtual 122, 3) ∧ decode code 972 = .ok (.if_icmp .eq 156, 3) ∧ decode code 975 = .ok (.iconst 0, 1) := by decide +kernel
theorem dL_law_964 : decode code 964 = .ok (.aload_n 0, 1) := zcL_656.1
theorem dL_law_965 : decode code 965 = .ok (.iload_n 3, 1) := zcL_656.2.1
theorem dL_law_966 : decode code 966 = .ok (.iconst 1, 1) := zcL_656.2.2.1
theorem dL_law_967 : decode code 967 = .ok (.iadd, 1) := zcL_656.2.2.2.1
theorem dL_law_968 : decode code 968 = .ok (.iaload, 1) := zcL_656.2.2.2.2.1
theorem dL_law_969 : decode code 969 = .ok (.invokevirtual 122, 3) := zcL_656.2.2.2.2.2.1
theorem dL_law_972 : decode code 972 = .ok (.if_icmp .eq 156, 3) := zcL_656.2.2.2.2.2.2.1
theorem dL_law_975 : decode code 975 = .ok (.iconst 0, 1) := zcL_656.2.2.2.2.2.2.2
theorem zcL_664 : decode code 976 = .ok (.ireturn, 1) ∧ decode code 977 = .ok (.aload_n 1, 1) ∧ decode code 978 = .ok (.aload_n 0, 1) ∧ decode code 979 = .ok (.iload_n 3, 1) ∧ decode code 980 = .ok (.iconst 1, 1) ∧ decode code 981 = .ok (.iadd, 1) ∧ decode code 982 = .ok (.iaload, 1) ∧ decode code 983 = .ok (.aload_n 0, 1) := by decide +kernel
theorem dL_law_976 : decode code 976 = .ok (.ireturn, 1) := zcL_664.1
theorem dL_law_977 : decode code 977 = .ok (.aload_n 1, 1) := zcL_664.2.1
theorem dL_law_978 : decode code 978 = .ok (.aload_n 0, 1) := zcL_664.2.2.1
theorem dL_law_979 : decode code 979 = .ok (.iload_n 3, 1) := zcL_664.2.2.2.1
theorem dL_law_980 : decode code 980 = .ok (.iconst 1, 1) := zcL_664.2.2.2.2.1
theorem dL_law_981 : decode code 981 = .ok (.iadd, 1) := zcL_664.2.2.2.2.2.1
theorem dL_law_982 : decode code 982 = .ok (.iaload, 1) := zcL_664.2.2.2.2.2.2.1
theorem dL_law_983 : decode code 983 = .ok (.aload_n 0, 1) := zcL_664.2.2.2.2.2.2.2
theorem zcL_672 : decode code 984 = .ok (.iload_n 3, 1) ∧ decode code 985 = .ok (.iconst 2, 1) ∧ decode code 986 = .ok (.iadd, 1) ∧ decode code 987 = .ok (.iaload, 1) ∧ decode code 988 = .ok (.invokevirtual 123, 3) ∧ decode code 991 = .ok (.pop, 1) ∧ decode code 992 = .ok (.aload_n 2, 1) ∧ decode code 993 = .ok (.aload_n 0, 1) := by decide +kernel
theorem dL_law_984 : decode code 984 = .ok (.iload_n 3, 1) := zcL_672.1
theorem dL_law_985 : decode code 985 = .ok (.iconst 2, 1) := zcL_672.2.1
theorem dL_law_986 : decode code 986 = .ok (.iadd, 1) := zcL_672.2.2.1
theorem dL_law_987 : decode code 987 = .ok (.iaload, 1) := zcL_672.2.2.2.1
theorem dL_law_988 : decode code 988 = .ok (.invokevirtual 123, 3) := zcL_672.2.2.2.2.1
theorem dL_law_991 : decode code 991 = .ok (.pop, 1) := zcL_672.2.2.2.2.2.1
theorem dL_law_992 : decode code 992 = .ok (.aload_n 2, 1) := zcL_672.2.2.2.2.2.2.1
theorem dL_law_993 : decode code 993 = .ok (.aload_n 0, 1) := zcL_672.2.2.2.2.2.2.2
theorem zcL_680 : decode code 994 = .ok (.iload_n 3, 1) ∧ decode code 995 = .ok (.iconst 1, 1) ∧ decode code 996 = .ok (.iadd, 1) ∧ decode code 997 = .ok (.iaload, 1) ∧ decode code 998 = .ok (.aload_n 0, 1) ∧ decode code 999 = .ok (.iload_n 3, 1) ∧ decode code 1000 = .ok (.iconst 2, 1) ∧ decode code 1001 = .ok (.iadd, 1) := by decide +kernel
theorem dL_law_994 : decode code 994 = .ok (.iload_n 3, 1) := zcL_680.1
theorem dL_law_995 : decode code 995 = .ok (.iconst 1, 1) := zcL_680.2.1
theorem dL_law_996 : decode code 996 = .ok (.iadd, 1) := zcL_680.2.2.1
theorem dL_law_997 : decode code 997 = .ok (.iaload, 1) := zcL_680.2.2.2.1
theorem dL_law_998 : decode code 998 = .ok (.aload_n 0, 1) := zcL_680.2.2.2.2.1
theorem dL_law_999 : decode code 999 = .ok (.iload_n 3, 1) := zcL_680.2.2.2.2.2.1
theorem dL_law_1000 : decode code 1000 = .ok (.iconst 2, 1) := zcL_680.2.2.2.2.2.2.1
theorem dL_law_1001 : decode code 1001 = .ok (.iadd, 1) := zcL_680.2.2.2.2.2.2.2
theorem zcL_688 : decode code 1002 = .ok (.iaload, 1) ∧ decode code 1003 = .ok (.invokevirtual 126, 3) ∧ decode code 1006 = .ok (.pop, 1) ∧ decode code 1007 = .ok (.goto 121, 3) ∧ decode code 1010 = .ok (.aload_n 1, 1) ∧ decode code 1011 = .ok (.aload_n 0, 1) ∧ decode code 1012 = .ok (.iload_n 3, 1) ∧ decode code 1013 = .ok (.iconst 1, 1) := by decide +kernel
theorem dL_law_1002 : decode code 1002 = .ok (.iaload, 1) := zcL_688.1
theorem dL_law_1003 : decode code 1003 = .ok (.invokevirtual 126, 3) := zcL_688.2.1
theorem dL_law_1006 : decode code 1006 = .ok (.pop, 1) := zcL_688.2.2.1
theorem dL_law_1007 : decode code 1007 = .ok (.goto 121, 3) := zcL_688.2.2.2.1
theorem dL_law_1010 : decode code 1010 = .ok (.aload_n 1, 1) := zcL_688.2.2.2.2.1
theorem dL_law_1011 : decode code 1011 = .ok (.aload_n 0, 1) := zcL_688.2.2.2.2.2.1
theorem dL_law_1012 : decode code 1012 = .ok (.iload_n 3, 1) := zcL_688.2.2.2.2.2.2.1
theorem dL_law_1013 : decode code 1013 = .ok (.iconst 1, 1) := zcL_688.2.2.2.2.2.2.2
theorem zcL_696 : decode code 1014 = .ok (.iadd, 1) ∧ decode code 1015 = .ok (.iaload, 1) ∧ decode code 1016 = .ok (.invokevirtual 127, 3) ∧ decode code 1019 = .ok (.pop, 1) ∧ decode code 1020 = .ok (.aload_n 2, 1) ∧ decode code 1021 = .ok (.aload_n 0, 1) ∧ decode code 1022 = .ok (.iload_n 3, 1) ∧ decode code 1023 = .ok (.iconst 1, 1) := by decide +kernel
theorem dL_law_1014 : decode code 1014 = .ok (.iadd, 1) := zcL_696.1
theorem dL_law_1015 : decode code 1015 = .ok (.iaload, 1) := zcL_696.2.1
theorem dL_law_1016 : decode code 1016 = .ok (.invokevirtual 127, 3) := zcL_696.2.2.1
theorem dL_law_1019 : decode code 1019 = .ok (.pop, 1) := zcL_696.2.2.2.1
theorem dL_law_1020 : decode code 1020 = .ok (.aload_n 2, 1) := zcL_696.2.2.2.2.1
theorem dL_law_1021 : decode code 1021 = .ok (.aload_n 0, 1) := zcL_696.2.2.2.2.2.1
theorem dL_law_1022 : decode code 1022 = .ok (.iload_n 3, 1) := zcL_696.2.2.2.2.2.2.1
theorem dL_law_1023 : decode code 1023 = .ok (.iconst 1, 1) := zcL_696.2.2.2.2.2.2.2
theorem zcL_704 : decode code 1024 = .ok (.iadd, 1) ∧ decode code 1025 = .ok (.iaload, 1) ∧ decode code 1026 = .ok (.invokevirtual 130, 3) ∧ decode code 1029 = .ok (.pop, 1) ∧ decode code 1030 = .ok (.goto 98, 3) ∧ decode code 1033 = .ok (.aload_n 1, 1) ∧ decode code 1034 = .ok (.aload_n 0, 1) ∧ decode code 1035 = .ok (.iload_n 3, 1) := by decide +kernel
theorem dL_law_1024 : decode code 1024 = .ok (.iadd, 1) := zcL_704.1
theorem dL_law_1025 : decode code 1025 = .ok (.iaload, 1) := zcL_704.2.1
theorem dL_law_1026 : decode code 1026 = .ok (.invokevirtual 130, 3) := zcL_704.2.2.1
theorem dL_law_1029 : decode code 1029 = .ok (.pop, 1) := zcL_704.2.2.2.1
theorem dL_law_1030 : decode code 1030 = .ok (.goto 98, 3) := zcL_704.2.2.2.2.1
theorem dL_law_1033 : decode code 1033 = .ok (.aload_n 1, 1) := zcL_704.2.2.2.2.2.1
theorem dL_law_1034 : decode code 1034 = .ok (.aload_n 0, 1) := zcL_704.2.2.2.2.2.2.1
theorem dL_law_1035 : decode code 1035 = .ok (.iload_n 3, 1) := zcL_704.2.2.2.2.2.2.2
theorem zcL_712 : decode code 1036 = .ok (.iconst 1, 1) ∧ decode code 1037 = .ok (.iadd, 1) ∧ decode code 1038 = .ok (.iaload, 1) ∧ decode code 1039 = .ok (.invokevirtual 131, 3) ∧ decode code 1042 = .ok (.pop, 1) ∧ decode code 1043 = .ok (.aload_n 2, 1) ∧ decode code 1044 = .ok (.aload_n 0, 1) ∧ decode code 1045 = .ok (.iload_n 3, 1) := by decide +kernel
theorem dL_law_1036 : decode code 1036 = .ok (.iconst 1, 1) := zcL_712.1
theorem dL_law_1037 : decode code 1037 = .ok (.iadd, 1) := zcL_712.2.1
theorem dL_law_1038 : decode code 1038 = .ok (.iaload, 1) := zcL_712.2.2.1
theorem dL_law_1039 : decode code 1039 = .ok (.invokevirtual 131, 3) := zcL_712.2.2.2.1
theorem dL_law_1042 : decode code 1042 = .ok (.pop, 1) := zcL_712.2.2.2.2.1
theorem dL_law_1043 : decode code 1043 = .ok (.aload_n 2, 1) := zcL_712.2.2.2.2.2.1
theorem dL_law_1044 : decode code 1044 = .ok (.aload_n 0, 1) := zcL_712.2.2.2.2.2.2.1
theorem dL_law_1045 : decode code 1045 = .ok (.iload_n 3, 1) := zcL_712.2.2.2.2.2.2.2
theorem zcL_720 : decode code 1046 = .ok (.iconst 1, 1) ∧ decode code 1047 = .ok (.iadd, 1) ∧ decode code 1048 = .ok (.iaload, 1) ∧ decode code 1049 = .ok (.invokevirtual 134, 3) ∧ decode code 1052 = .ok (.pop, 1) ∧ decode code 1053 = .ok (.goto 75, 3) ∧ decode code 1056 = .ok (.aload_n 1, 1) ∧ decode code 1057 = .ok (.invokevirtual 135, 3) := by decide +kernel
theorem dL_law_1046 : decode code 1046 = .ok (.iconst 1, 1) := zcL_720.1
theorem dL_law_1047 : decode code 1047 = .ok (.iadd, 1) := zcL_720.2.1
theorem dL_law_1048 : decode code 1048 = .ok (.iaload, 1) := zcL_720.2.2.1
theorem dL_law_1049 : decode code 1049 = .ok (.invokevirtual 134, 3) := zcL_720.2.2.2.1
theorem dL_law_1052 : decode code 1052 = .ok (.pop, 1) := zcL_720.2.2.2.2.1
theorem dL_law_1053 : decode code 1053 = .ok (.goto 75, 3) := zcL_720.2.2.2.2.2.1
theorem dL_law_1056 : decode code 1056 = .ok (.aload_n 1, 1) := zcL_720.2.2.2.2.2.2.1
theorem dL_law_1057 : decode code 1057 = .ok (.invokevirtual 135, 3) := zcL_720.2.2.2.2.2.2.2
theorem zcL_728 : decode code 1060 = .ok (.pop, 1) ∧ decode code 1061 = .ok (.aload_n 2, 1) ∧ decode code 1062 = .ok (.invokevirtual 138, 3) ∧ decode code 1065 = .ok (.pop, 1) ∧ decode code 1066 = .ok (.goto 62, 3) ∧ decode code 1069 = .ok (.aload_n 1, 1) ∧ decode code 1070 = .ok (.invokevirtual 139, 3) ∧ decode code 1073 = .ok (.pop, 1) := by decide +kernel
theorem dL_law_1060 : decode code 1060 = .ok (.pop, 1) := zcL_728.1
theorem dL_law_1061 : decode code 1061 = .ok (.aload_n 2, 1) := zcL_728.2.1
theorem dL_law_1062 : decode code 1062 = .ok (.invokevirtual 138, 3) := zcL_728.2.2.1
theorem dL_law_1065 : decode code 1065 = .ok (.pop, 1) := zcL_728.2.2.2.1
theorem dL_law_1066 : decode code 1066 = .ok (.goto 62, 3) := zcL_728.2.2.2.2.1
theorem dL_law_1069 : decode code 1069 = .ok (.aload_n 1, 1) := zcL_728.2.2.2.2.2.1
theorem dL_law_1070 : decode code 1070 = .ok (.invokevirtual 139, 3) := zcL_728.2.2.2.2.2.2.1
theorem dL_law_1073 : decode code 1073 = .ok (.pop, 1) := zcL_728.2.2.2.2.2.2.2
theorem zcL_736 : decode code 1074 = .ok (.aload_n 2, 1) ∧ decode code 1075 = .ok (.invokevirtual 143, 3) ∧ decode code 1078 = .ok (.pop, 1) ∧ decode code 1079 = .ok (.goto 49, 3) ∧ decode code 1082 = .ok (.aload_n 1, 1) ∧ decode code 1083 = .ok (.aload_n 0, 1) ∧ decode code 1084 = .ok (.iload_n 3, 1) ∧ decode code 1085 = .ok (.iconst 1, 1) := by decide +kernel
theorem dL_law_1074 : decode code 1074 = .ok (.aload_n 2, 1) := zcL_736.1
theorem dL_law_1075 : decode code 1075 = .ok (.invokevirtual 143, 3) := zcL_736.2.1
theorem dL_law_1078 : decode code 1078 = .ok (.pop, 1) := zcL_736.2.2.1
theorem dL_law_1079 : decode code 1079 = .ok (.goto 49, 3) := zcL_736.2.2.2.1
theorem dL_law_1082 : decode code 1082 = .ok (.aload_n 1, 1) := zcL_736.2.2.2.2.1
theorem dL_law_1083 : decode code 1083 = .ok (.aload_n 0, 1) := zcL_736.2.2.2.2.2.1
theorem dL_law_1084 : decode code 1084 = .ok (.iload_n 3, 1) := zcL_736.2.2.2.2.2.2.1
theorem dL_law_1085 : decode code 1085 = .ok (.iconst 1, 1) := zcL_736.2.2.2.2.2.2.2
theorem zcL_744 : decode code 1086 = .ok (.iadd, 1) ∧ decode code 1087 = .ok (.iaload, 1) ∧ decode code 1088 = .ok (.invokevirtual 144, 3) ∧ decode code 1091 = .ok (.pop, 1) ∧ decode code 1092 = .ok (.aload_n 2, 1) ∧ decode code 1093 = .ok (.aload_n 0, 1) ∧ decode code 1094 = .ok (.iload_n 3, 1) ∧ decode code 1095 = .ok (.iconst 1, 1) := by decide +kernel
theorem dL_law_1086 : decode code 1086 = .ok (.iadd, 1) := zcL_744.1
theorem dL_law_1087 : decode code 1087 = .ok (.iaload, 1) := zcL_744.2.1
theorem dL_law_1088 : decode code 1088 = .ok (.invokevirtual 144, 3) := zcL_744.2.2.1
theorem dL_law_1091 : decode code 1091 = .ok (.pop, 1) := zcL_744.2.2.2.1
theorem dL_law_1092 : decode code 1092 = .ok (.aload_n 2, 1) := zcL_744.2.2.2.2.1
theorem dL_law_1093 : decode code 1093 = .ok (.aload_n 0, 1) := zcL_744.2.2.2.2.2.1
theorem dL_law_1094 : decode code 1094 = .ok (.iload_n 3, 1) := zcL_744.2.2.2.2.2.2.1
theorem dL_law_1095 : decode code 1095 = .ok (.iconst 1, 1) := zcL_744.2.2.2.2.2.2.2
theorem zcL_752 : decode code 1096 = .ok (.iadd, 1) ∧ decode code 1097 = .ok (.iaload, 1) ∧ decode code 1098 = .ok (.invokevirtual 147, 3) ∧ decode code 1101 = .ok (.pop, 1) ∧ decode code 1102 = .ok (.goto 26, 3) ∧ decode code 1105 = .ok (.aload_n 1, 1) ∧ decode code 1106 = .ok (.aload_n 0, 1) ∧ decode code 1107 = .ok (.iload_n 3, 1) := by decide +kernel
theorem dL_law_1096 : decode code 1096 = .ok (.iadd, 1) := zcL_752.1
theorem dL_law_1097 : decode code 1097 = .ok (.iaload, 1) := zcL_752.2.1
theorem dL_law_1098 : decode code 1098 = .ok (.invokevirtual 147, 3) := zcL_752.2.2.1
theorem dL_law_1101 : decode code 1101 = .ok (.pop, 1) := zcL_752.2.2.2.1
theorem dL_law_1102 : decode code 1102 = .ok (.goto 26, 3) := zcL_752.2.2.2.2.1
theorem dL_law_1105 : decode code 1105 = .ok (.aload_n 1, 1) := zcL_752.2.2.2.2.2.1
theorem dL_law_1106 : decode code 1106 = .ok (.aload_n 0, 1) := zcL_752.2.2.2.2.2.2.1
theorem dL_law_1107 : decode code 1107 = .ok (.iload_n 3, 1) := zcL_752.2.2.2.2.2.2.2
theorem zcL_760 : decode code 1108 = .ok (.iconst 1, 1) ∧ decode code 1109 = .ok (.iadd, 1) ∧ decode code 1110 = .ok (.iaload, 1) ∧ decode code 1111 = .ok (.invokevirtual 148, 3) ∧ decode code 1114 = .ok (.pop, 1) ∧ decode code 1115 = .ok (.aload_n 2, 1) ∧ decode code 1116 = .ok (.aload_n 0, 1) ∧ decode code 1117 = .ok (.iload_n 3, 1) := by decide +kernel
theorem dL_law_1108 : decode code 1108 = .ok (.iconst 1, 1) := zcL_760.1
theorem dL_law_1109 : decode code 1109 = .ok (.iadd, 1) := zcL_760.2.1
theorem dL_law_1110 : decode code 1110 = .ok (.iaload, 1) := zcL_760.2.2.1
theorem dL_law_1111 : decode code 1111 = .ok (.invokevirtual 148, 3) := zcL_760.2.2.2.1
theorem dL_law_1114 : decode code 1114 = .ok (.pop, 1) := zcL_760.2.2.2.2.1
theorem dL_law_1115 : decode code 1115 = .ok (.aload_n 2, 1) := zcL_760.2.2.2.2.2.1
theorem dL_law_1116 : decode code 1116 = .ok (.aload_n 0, 1) := zcL_760.2.2.2.2.2.2.1
theorem dL_law_1117 : decode code 1117 = .ok (.iload_n 3, 1) := zcL_760.2.2.2.2.2.2.2
theorem zcL_768 : decode code 1118 = .ok (.iconst 1, 1) ∧ decode code 1119 = .ok (.iadd, 1) ∧ decode code 1120 = .ok (.iaload, 1) ∧ decode code 1121 = .ok (.invokevirtual 151, 3) ∧ decode code 1124 = .ok (.pop, 1) ∧ decode code 1125 = .ok (.goto 3, 3) ∧ decode code 1128 = .ok (.iinc 3 6, 3) ∧ decode code 1131 = .ok (.goto (-1113), 3) := by decide +kernel
theorem dL_law_1118 : decode code 1118 = .ok (.iconst 1, 1) := zcL_768.1
theorem dL_law_1119 : decode code 1119 = .ok (.iadd, 1) := zcL_768.2.1
theorem dL_law_1120 : decode code 1120 = .ok (.iaload, 1) := zcL_768.2.2.1
theorem dL_law_1121 : decode code 1121 = .ok (.invokevirtual 151, 3) := zcL_768.2.2.2.1
theorem dL_law_1124 : decode code 1124 = .ok (.pop, 1) := zcL_768.2.2.2.2.1
theorem dL_law_1125 : decode code 1125 = .ok (.goto 3, 3) := zcL_768.2.2.2.2.2.1
theorem dL_law_1128 : decode code 1128 = .ok (.iinc 3 6, 3) := zcL_768.2.2.2.2.2.2.1
theorem dL_law_1131 : decode code 1131 = .ok (.goto (-1113), 3) := zcL_768.2.2.2.2.2.2.2
theorem zcL_776 : decode code 1134 = .ok (.iconst 1, 1) ∧ decode code 1135 = .ok (.ireturn, 1) := by decide +kernel
theorem dL_law_1134 : decode code 1134 = .ok (.iconst 1, 1) := zcL_776.1
theorem dL_law_1135 : decode code 1135 = .ok (.ireturn, 1) := zcL_776.2
