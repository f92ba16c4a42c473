theorem dL_does_174 : decode cL_does 174 = .ok (.iload_n 2, 1) := by decide +kernel
theorem dL_does_175 : decode cL_does 175 = .ok (.bipush 6, 2) := by decide +kernel
theorem dL_does_177 : decode cL_does 177 = .ok (.irem, 1) := by decide +kernel
theorem dL_does_178 : decode cL_does 178 = .ok (.iload_n 2, 1) := by decide +kernel
theorem dL_does_179 : decode cL_does 179 = .ok (.bipush 6, 2) := by decide +kernel
theorem dL_does_181 : decode cL_does 181 = .ok (.idiv, 1) := by decide +kernel
theorem dL_does_182 : decode cL_does 182 = .ok (.bipush 6, 2) := by decide +kernel
theorem dL_does_184 : decode cL_does 184 = .ok (.irem, 1) := by decide +kernel
theorem dL_does_185 : decode cL_does 185 = .ok (.if_icmp .ge 56, 3) := by decide +kernel
theorem dL_does_188 : decode cL_does 188 = .ok (.aload_n 0, 1) := by decide +kernel
theorem dL_does_189 : decode cL_does 189 = .ok (.iload_n 2, 1) := by decide +kernel
theorem dL_does_190 : decode cL_does 190 = .ok (.bipush 6, 2) := by decide +kernel
theorem dL_does_192 : decode cL_does 192 = .ok (.irem, 1) := by decide +kernel
theorem dL_does_193 : decode cL_does 193 = .ok (.iload_n 2, 1) := by decide +kernel
theorem dL_does_194 : decode cL_does 194 = .ok (.bipush 6, 2) := by decide +kernel
theorem dL_does_196 : decode cL_does 196 = .ok (.idiv, 1) := by decide +kernel
theorem dL_does_197 : decode cL_does 197 = .ok (.bipush 6, 2) := by decide +kernel
theorem dL_does_199 : decode cL_does 199 = .ok (.irem, 1) := by decide +kernel
theorem dL_does_200 : decode cL_does 200 = .ok (.invokevirtual 66, 3) := by decide +kernel
theorem dL_does_203 : decode cL_does 203 = .ok (.istore 6, 2) := by decide +kernel
theorem dL_does_205 : decode cL_does 205 = .ok (.iload 6, 2) := by decide +kernel
theorem dL_does_207 : decode cL_does 207 = .ok (.ifCond .eq 28, 3) := by decide +kernel
theorem dL_does_210 : decode cL_does 210 = .ok (.aload_n 0, 1) := by decide +kernel
theorem dL_does_211 : decode cL_does 211 = .ok (.iload_n 2, 1) := by decide +kernel
theorem dL_does_212 : decode cL_does 212 = .ok (.bipush 6, 2) := by decide +kernel
theorem dL_does_214 : decode cL_does 214 = .ok (.idiv, 1) := by decide +kernel
theorem dL_does_215 : decode cL_does 215 = .ok (.bipush 6, 2) := by decide +kernel
theorem dL_does_217 : decode cL_does 217 = .ok (.irem, 1) := by decide +kernel
theorem dL_does_218 : decode cL_does 218 = .ok (.invokevirtual 70, 3) := by decide +kernel
theorem dL_does_221 : decode cL_does 221 = .ok (.aload_n 0, 1) := by decide +kernel
theorem dL_does_222 : decode cL_does 222 = .ok (.iload_n 2, 1) := by decide +kernel
theorem dL_does_223 : decode cL_does 223 = .ok (.bipush 6, 2) := by decide +kernel
theorem dL_does_225 : decode cL_does 225 = .ok (.irem, 1) := by decide +kernel
theorem dL_does_226 : decode cL_does 226 = .ok (.invokevirtual 70, 3) := by decide +kernel
theorem dL_does_229 : decode cL_does 229 = .ok (.iconst (-1), 1) := by decide +kernel
theorem dL_does_230 : decode cL_does 230 = .ok (.ixor, 1) := by decide +kernel
theorem dL_does_231 : decode cL_does 231 = .ok (.iand, 1) := by decide +kernel
theorem dL_does_232 : decode cL_does 232 = .ok (.ifCond .ne 7, 3) := by decide +kernel
theorem dL_does_235 : decode cL_does 235 = .ok (.iconst 1, 1) := by decide +kernel
theorem dL_does_236 : decode cL_does 236 = .ok (.goto 4, 3) := by decide +kernel
theorem dL_does_239 : decode cL_does 239 = .ok (.iconst 0, 1) := by decide +kernel
theorem dL_does_240 : decode cL_does 240 = .ok (.ireturn, 1) := by decide +kernel
theorem dL_does_241 : decode cL_does 241 = .ok (.iconst 1, 1) := by decide +kernel
theorem dL_does_242 : decode cL_does 242 = .ok (.ireturn, 1) := by decide +kernel
theorem dL_does_243 : decode cL_does 243 = .ok (.aload_n 0, 1) := by decide +kernel
theorem dL_does_244 : decode cL_does 244 = .ok (.iload 4, 2) := by decide +kernel
theorem dL_does_246 : decode cL_does 246 = .ok (.iload_n 2, 1) := by decide +kernel
theorem dL_does_247 : decode cL_does 247 = .ok (.bipush 8, 2) := by decide +kernel
theorem dL_does_249 : decode cL_does 249 = .ok (.irem, 1) := by decide +kernel
theorem dL_does_250 : decode cL_does 250 = .ok (.invokevirtual 73, 3) := by decide +kernel
theorem dL_does_253 : decode cL_does 253 = .ok (.istore 6, 2) := by decide +kernel
theorem dL_does_255 : decode cL_does 255 = .ok (.aload_n 0, 1) := by decide +kernel
theorem dL_does_256 : decode cL_does 256 = .ok (.iload 4, 2) := by decide +kernel
theorem dL_does_258 : decode cL_does 258 = .ok (.iload_n 2, 1) := by decide +kernel
theorem dL_does_259 : decode cL_does 259 = .ok (.bipush 8, 2) := by decide +kernel
theorem dL_does_261 : decode cL_does 261 = .ok (.irem, 1) := by decide +kernel
theorem dL_does_262 : decode cL_does 262 = .ok (.invokevirtual 73, 3) := by decide +kernel
theorem dL_does_265 : decode cL_does 265 = .ok (.iload_n 2, 1) := by decide +kernel
theorem dL_does_266 : decode cL_does 266 = .ok (.bipush 8, 2) := by decide +kernel
theorem dL_does_268 : decode cL_does 268 = .ok (.irem, 1) := by decide +kernel
theorem dL_does_269 : decode cL_does 269 = .ok (.if_icmp .ne 27, 3) := by decide +kernel
theorem dL_does_272 : decode cL_does 272 = .ok (.aload_n 0, 1) := by decide +kernel
theorem dL_does_273 : decode cL_does 273 = .ok (.iload_n 2, 1) := by decide +kernel
theorem dL_does_274 : decode cL_does 274 = .ok (.bipush 8, 2) := by decide +kernel
theorem dL_does_276 : decode cL_does 276 = .ok (.irem, 1) := by decide +kernel
theorem dL_does_277 : decode cL_does 277 = .ok (.iload 4, 2) := by decide +kernel
theorem dL_does_279 : decode cL_does 279 = .ok (.invokevirtual 20, 3) := by decide +kernel
theorem dL_does_282 : decode cL_does 282 = .ok (.bipush 7, 2) := by decide +kernel
theorem dL_does_284 : decode cL_does 284 = .ok (.if_icmp .ne 12, 3) := by decide +kernel
theorem dL_does_287 : decode cL_does 287 = .ok (.iload 6, 2) := by decide +kernel
theorem dL_does_289 : decode cL_does 289 = .ok (.ifCond .lt 7, 3) := by decide +kernel
theorem dL_does_292 : decode cL_does 292 = .ok (.iconst 1, 1) := by decide +kernel
theorem dL_does_293 : decode cL_does 293 = .ok (.goto 4, 3) := by decide +kernel
theorem dL_does_296 : decode cL_does 296 = .ok (.iconst 0, 1) := by decide +kernel
theorem dL_does_297 : decode cL_does 297 = .ok (.ireturn, 1) := by decide +kernel
theorem dL_does_298 : decode cL_does 298 = .ok (.aload_n 0, 1) := by decide +kernel
theorem dL_does_299 : decode cL_does 299 = .ok (.iload 4, 2) := by decide +kernel
theorem dL_does_301 : decode cL_does 301 = .ok (.iload_n 2, 1) := by decide +kernel
theorem dL_does_302 : decode cL_does 302 = .ok (.iconst 3, 1) := by decide +kernel
theorem dL_does_303 : decode cL_does 303 = .ok (.irem, 1) := by decide +kernel
theorem dL_does_304 : decode cL_does 304 = .ok (.ifCond .le 7, 3) := by decide +kernel
theorem dL_does_307 : decode cL_does 307 = .ok (.iconst 1, 1) := by decide +kernel
theorem dL_does_308 : decode cL_does 308 = .ok (.goto 4, 3) := by decide +kernel
