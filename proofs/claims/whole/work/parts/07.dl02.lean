theorem d_law_law_191 : decode b_law_law 191 = .ok (.if_icmp .eq 5, 3) := by decide +kernel
theorem d_law_law_194 : decode b_law_law 194 = .ok (.iconst 0, 1) := by decide +kernel
theorem d_law_law_195 : decode b_law_law 195 = .ok (.ireturn, 1) := by decide +kernel
theorem d_law_law_196 : decode b_law_law 196 = .ok (.iload 5, 2) := by decide +kernel
theorem d_law_law_198 : decode b_law_law 198 = .ok (.ifCond .ne 15, 3) := by decide +kernel
theorem d_law_law_201 : decode b_law_law 201 = .ok (.aload_n 3, 1) := by decide +kernel
theorem d_law_law_202 : decode b_law_law 202 = .ok (.iconst 0, 1) := by decide +kernel
theorem d_law_law_203 : decode b_law_law 203 = .ok (.laload, 1) := by decide +kernel
theorem d_law_law_204 : decode b_law_law 204 = .ok (.iload 6, 2) := by decide +kernel
theorem d_law_law_206 : decode b_law_law 206 = .ok (.i2l, 1) := by decide +kernel
theorem d_law_law_207 : decode b_law_law 207 = .ok (.lcmp, 1) := by decide +kernel
theorem d_law_law_208 : decode b_law_law 208 = .ok (.ifCond .eq 5, 3) := by decide +kernel
theorem d_law_law_211 : decode b_law_law 211 = .ok (.iconst 0, 1) := by decide +kernel
theorem d_law_law_212 : decode b_law_law 212 = .ok (.ireturn, 1) := by decide +kernel
theorem d_law_law_213 : decode b_law_law 213 = .ok (.goto 817, 3) := by decide +kernel
theorem d_law_law_216 : decode b_law_law 216 = .ok (.aload_n 1, 1) := by decide +kernel
theorem d_law_law_217 : decode b_law_law 217 = .ok (.aload_n 0, 1) := by decide +kernel
theorem d_law_law_218 : decode b_law_law 218 = .ok (.iload 4, 2) := by decide +kernel
theorem d_law_law_220 : decode b_law_law 220 = .ok (.iconst 1, 1) := by decide +kernel
theorem d_law_law_221 : decode b_law_law 221 = .ok (.iadd, 1) := by decide +kernel
theorem d_law_law_222 : decode b_law_law 222 = .ok (.iaload, 1) := by decide +kernel
theorem d_law_law_223 : decode b_law_law 223 = .ok (.aload_n 0, 1) := by decide +kernel
theorem d_law_law_224 : decode b_law_law 224 = .ok (.iload 4, 2) := by decide +kernel
theorem d_law_law_226 : decode b_law_law 226 = .ok (.iconst 2, 1) := by decide +kernel
theorem d_law_law_227 : decode b_law_law 227 = .ok (.iadd, 1) := by decide +kernel
theorem d_law_law_228 : decode b_law_law 228 = .ok (.iaload, 1) := by decide +kernel
theorem d_law_law_229 : decode b_law_law 229 = .ok (.aload_n 0, 1) := by decide +kernel
theorem d_law_law_230 : decode b_law_law 230 = .ok (.iload 4, 2) := by decide +kernel
theorem d_law_law_232 : decode b_law_law 232 = .ok (.iconst 3, 1) := by decide +kernel
theorem d_law_law_233 : decode b_law_law 233 = .ok (.iadd, 1) := by decide +kernel
theorem d_law_law_234 : decode b_law_law 234 = .ok (.iaload, 1) := by decide +kernel
theorem d_law_law_235 : decode b_law_law 235 = .ok (.aload_n 3, 1) := by decide +kernel
theorem d_law_law_236 : decode b_law_law 236 = .ok (.invokestatic 83, 3) := by decide +kernel
theorem d_law_law_239 : decode b_law_law 239 = .ok (.istore 5, 2) := by decide +kernel
theorem d_law_law_241 : decode b_law_law 241 = .ok (.aload_n 2, 1) := by decide +kernel
theorem d_law_law_242 : decode b_law_law 242 = .ok (.aload_n 0, 1) := by decide +kernel
theorem d_law_law_243 : decode b_law_law 243 = .ok (.iload 4, 2) := by decide +kernel
theorem d_law_law_245 : decode b_law_law 245 = .ok (.iconst 1, 1) := by decide +kernel
theorem d_law_law_246 : decode b_law_law 246 = .ok (.iadd, 1) := by decide +kernel
theorem d_law_law_247 : decode b_law_law 247 = .ok (.iaload, 1) := by decide +kernel
theorem d_law_law_248 : decode b_law_law 248 = .ok (.aload_n 0, 1) := by decide +kernel
theorem d_law_law_249 : decode b_law_law 249 = .ok (.iload 4, 2) := by decide +kernel
theorem d_law_law_251 : decode b_law_law 251 = .ok (.iconst 2, 1) := by decide +kernel
theorem d_law_law_252 : decode b_law_law 252 = .ok (.iadd, 1) := by decide +kernel
theorem d_law_law_253 : decode b_law_law 253 = .ok (.iaload, 1) := by decide +kernel
theorem d_law_law_254 : decode b_law_law 254 = .ok (.aload_n 0, 1) := by decide +kernel
theorem d_law_law_255 : decode b_law_law 255 = .ok (.iload 4, 2) := by decide +kernel
theorem d_law_law_257 : decode b_law_law 257 = .ok (.iconst 3, 1) := by decide +kernel
theorem d_law_law_258 : decode b_law_law 258 = .ok (.iadd, 1) := by decide +kernel
theorem d_law_law_259 : decode b_law_law 259 = .ok (.iaload, 1) := by decide +kernel
theorem d_law_law_260 : decode b_law_law 260 = .ok (.invokevirtual 86, 3) := by decide +kernel
theorem d_law_law_263 : decode b_law_law 263 = .ok (.istore 6, 2) := by decide +kernel
theorem d_law_law_265 : decode b_law_law 265 = .ok (.aload_n 2, 1) := by decide +kernel
theorem d_law_law_266 : decode b_law_law 266 = .ok (.invokevirtual 76, 3) := by decide +kernel
theorem d_law_law_269 : decode b_law_law 269 = .ok (.iload 5, 2) := by decide +kernel
theorem d_law_law_271 : decode b_law_law 271 = .ok (.if_icmp .eq 5, 3) := by decide +kernel
theorem d_law_law_274 : decode b_law_law 274 = .ok (.iconst 0, 1) := by decide +kernel
theorem d_law_law_275 : decode b_law_law 275 = .ok (.ireturn, 1) := by decide +kernel
theorem d_law_law_276 : decode b_law_law 276 = .ok (.iload 5, 2) := by decide +kernel
theorem d_law_law_278 : decode b_law_law 278 = .ok (.ifCond .ne 15, 3) := by decide +kernel
theorem d_law_law_281 : decode b_law_law 281 = .ok (.aload_n 3, 1) := by decide +kernel
theorem d_law_law_282 : decode b_law_law 282 = .ok (.iconst 0, 1) := by decide +kernel
theorem d_law_law_283 : decode b_law_law 283 = .ok (.laload, 1) := by decide +kernel
theorem d_law_law_284 : decode b_law_law 284 = .ok (.iload 6, 2) := by decide +kernel
theorem d_law_law_286 : decode b_law_law 286 = .ok (.i2l, 1) := by decide +kernel
theorem d_law_law_287 : decode b_law_law 287 = .ok (.lcmp, 1) := by decide +kernel
theorem d_law_law_288 : decode b_law_law 288 = .ok (.ifCond .eq 5, 3) := by decide +kernel
theorem d_law_law_291 : decode b_law_law 291 = .ok (.iconst 0, 1) := by decide +kernel
theorem d_law_law_292 : decode b_law_law 292 = .ok (.ireturn, 1) := by decide +kernel
theorem d_law_law_293 : decode b_law_law 293 = .ok (.goto 737, 3) := by decide +kernel
