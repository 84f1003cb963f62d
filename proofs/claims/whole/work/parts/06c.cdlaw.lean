/-! ===== the op at each place of the law ===== -/
theorem kk188 (pc : Nat) : cd 188 pc = C_188.lookup pc := rfl
set_option maxRecDepth 20000 in
theorem k188_0 : cd 188 0 = some (45, 7, 8, 12, 0, []) := (kk188 0).trans rfl
set_option maxRecDepth 20000 in
theorem k188_3 : cd 188 3 = some (16, 0, 0, 0, 0, []) := (kk188 3).trans rfl
set_option maxRecDepth 20000 in
theorem k188_4 : cd 188 4 = some (48, 9, 68, 0, 0, []) := (kk188 4).trans rfl
set_option maxRecDepth 20000 in
theorem k188_7 : cd 188 7 = some (3, 1, 0, 0, 0, []) := (kk188 7).trans rfl
set_option maxRecDepth 20000 in
theorem k188_8 : cd 188 8 = some (45, 10, 9, 30, 0, []) := (kk188 8).trans rfl
set_option maxRecDepth 20000 in
theorem k188_11 : cd 188 11 = some (16, 0, 0, 0, 0, []) := (kk188 11).trans rfl
set_option maxRecDepth 20000 in
theorem k188_12 : cd 188 12 = some (48, 12, 114, 0, 0, []) := (kk188 12).trans rfl
set_option maxRecDepth 20000 in
theorem k188_15 : cd 188 15 = some (3, 2, 0, 0, 0, []) := (kk188 15).trans rfl
set_option maxRecDepth 20000 in
theorem k188_16 : cd 188 16 = some (4, 0, 0, 0, 0, []) := (kk188 16).trans rfl
set_option maxRecDepth 20000 in
theorem k188_17 : cd 188 17 = some (2, 3, 0, 0, 0, []) := (kk188 17).trans rfl
set_option maxRecDepth 20000 in
theorem k188_18 : cd 188 18 = some (0, 3, 0, 0, 0, []) := (kk188 18).trans rfl
set_option maxRecDepth 20000 in
theorem k188_19 : cd 188 19 = some (1, 0, 0, 0, 0, []) := (kk188 19).trans rfl
set_option maxRecDepth 20000 in
theorem k188_20 : cd 188 20 = some (58, 0, 0, 0, 0, []) := (kk188 20).trans rfl
set_option maxRecDepth 20000 in
theorem k188_21 : cd 188 21 = some (4, 0, 0, 0, 5, []) := (kk188 21).trans rfl
set_option maxRecDepth 20000 in
theorem k188_22 : cd 188 22 = some (9, 0, 0, 0, 0, []) := (kk188 22).trans rfl
set_option maxRecDepth 20000 in
theorem k188_23 : cd 188 23 = some (30, 1004, 0, 0, 0, []) := (kk188 23).trans rfl
set_option maxRecDepth 20000 in
theorem k188_26 : cd 188 26 = some (1, 0, 0, 0, 0, []) := (kk188 26).trans rfl
set_option maxRecDepth 20000 in
theorem k188_27 : cd 188 27 = some (0, 3, 0, 0, 0, []) := (kk188 27).trans rfl
set_option maxRecDepth 20000 in
theorem k188_28 : cd 188 28 = some (57, 0, 0, 0, 0, []) := (kk188 28).trans rfl
set_option maxRecDepth 20000 in
theorem k188_29 : cd 188 29 = some (5, 0, 0, 0, 31, []) := (kk188 29).trans rfl
set_option maxRecDepth 20000 in
theorem k188_31 : cd 188 31 = some (14, 0, 0, 0, 0, []) := (kk188 31).trans rfl
set_option maxRecDepth 20000 in
theorem k188_32 : cd 188 32 = some (51, 998, 0, 0, 0, [168, 191, 204, 217, 230, 273, 306, 339, 372, 395, 418, 441, 474, 487, 500, 543, 596, 639, 672, 695, 718, 741, 784, 807, 840, 873, 916, 929, 962, 975]) := (kk188 32).trans rfl
set_option maxRecDepth 20000 in
theorem k188_168 : cd 188 168 = some (1, 1, 0, 0, 0, []) := (kk188 168).trans rfl
set_option maxRecDepth 20000 in
theorem k188_169 : cd 188 169 = some (1, 0, 0, 0, 0, []) := (kk188 169).trans rfl
set_option maxRecDepth 20000 in
theorem k188_170 : cd 188 170 = some (0, 3, 0, 0, 0, []) := (kk188 170).trans rfl
set_option maxRecDepth 20000 in
theorem k188_171 : cd 188 171 = some (4, 0, 0, 0, 1, []) := (kk188 171).trans rfl
set_option maxRecDepth 20000 in
theorem k188_172 : cd 188 172 = some (8, 0, 0, 0, 0, []) := (kk188 172).trans rfl
set_option maxRecDepth 20000 in
theorem k188_173 : cd 188 173 = some (57, 0, 0, 0, 0, []) := (kk188 173).trans rfl
set_option maxRecDepth 20000 in
theorem k188_174 : cd 188 174 = some (46, 13, 69, 0, 0, []) := (kk188 174).trans rfl
set_option maxRecDepth 20000 in
theorem k188_177 : cd 188 177 = some (1, 2, 0, 0, 0, []) := (kk188 177).trans rfl
set_option maxRecDepth 20000 in
theorem k188_178 : cd 188 178 = some (1, 0, 0, 0, 0, []) := (kk188 178).trans rfl
set_option maxRecDepth 20000 in
theorem k188_179 : cd 188 179 = some (0, 3, 0, 0, 0, []) := (kk188 179).trans rfl
set_option maxRecDepth 20000 in
theorem k188_180 : cd 188 180 = some (4, 0, 0, 0, 1, []) := (kk188 180).trans rfl
set_option maxRecDepth 20000 in
theorem k188_181 : cd 188 181 = some (8, 0, 0, 0, 0, []) := (kk188 181).trans rfl
set_option maxRecDepth 20000 in
theorem k188_182 : cd 188 182 = some (57, 0, 0, 0, 0, []) := (kk188 182).trans rfl
set_option maxRecDepth 20000 in
theorem k188_183 : cd 188 183 = some (46, 17, 125, 0, 0, []) := (kk188 183).trans rfl
set_option maxRecDepth 20000 in
theorem k188_186 : cd 188 186 = some (26, 998, 0, 0, 0, []) := (kk188 186).trans rfl
set_option maxRecDepth 20000 in
theorem k188_189 : cd 188 189 = some (4, 0, 0, 0, 0, []) := (kk188 189).trans rfl
set_option maxRecDepth 20000 in
theorem k188_190 : cd 188 190 = some (52, 2, 0, 0, 0, []) := (kk188 190).trans rfl
set_option maxRecDepth 20000 in
theorem k188_191 : cd 188 191 = some (1, 1, 0, 0, 0, []) := (kk188 191).trans rfl
set_option maxRecDepth 20000 in
theorem k188_192 : cd 188 192 = some (46, 18, 70, 0, 0, []) := (kk188 192).trans rfl
set_option maxRecDepth 20000 in
theorem k188_195 : cd 188 195 = some (1, 2, 0, 0, 0, []) := (kk188 195).trans rfl
set_option maxRecDepth 20000 in
theorem k188_196 : cd 188 196 = some (46, 22, 126, 0, 0, []) := (kk188 196).trans rfl
set_option maxRecDepth 20000 in
theorem k188_199 : cd 188 199 = some (26, 998, 0, 0, 0, []) := (kk188 199).trans rfl
set_option maxRecDepth 20000 in
theorem k188_202 : cd 188 202 = some (4, 0, 0, 0, 0, []) := (kk188 202).trans rfl
set_option maxRecDepth 20000 in
theorem k188_203 : cd 188 203 = some (52, 2, 0, 0, 0, []) := (kk188 203).trans rfl
set_option maxRecDepth 20000 in
theorem k188_204 : cd 188 204 = some (1, 1, 0, 0, 0, []) := (kk188 204).trans rfl
set_option maxRecDepth 20000 in
theorem k188_205 : cd 188 205 = some (46, 23, 71, 0, 0, []) := (kk188 205).trans rfl
set_option maxRecDepth 20000 in
theorem k188_208 : cd 188 208 = some (1, 2, 0, 0, 0, []) := (kk188 208).trans rfl
set_option maxRecDepth 20000 in
theorem k188_209 : cd 188 209 = some (46, 26, 127, 0, 0, []) := (kk188 209).trans rfl
set_option maxRecDepth 20000 in
theorem k188_212 : cd 188 212 = some (26, 998, 0, 0, 0, []) := (kk188 212).trans rfl
set_option maxRecDepth 20000 in
theorem k188_215 : cd 188 215 = some (4, 0, 0, 0, 0, []) := (kk188 215).trans rfl
set_option maxRecDepth 20000 in
theorem k188_216 : cd 188 216 = some (52, 2, 0, 0, 0, []) := (kk188 216).trans rfl
set_option maxRecDepth 20000 in
theorem k188_217 : cd 188 217 = some (1, 1, 0, 0, 0, []) := (kk188 217).trans rfl
set_option maxRecDepth 20000 in
theorem k188_218 : cd 188 218 = some (46, 27, 72, 0, 0, []) := (kk188 218).trans rfl
set_option maxRecDepth 20000 in
theorem k188_221 : cd 188 221 = some (1, 2, 0, 0, 0, []) := (kk188 221).trans rfl
set_option maxRecDepth 20000 in
theorem k188_222 : cd 188 222 = some (46, 30, 128, 0, 0, []) := (kk188 222).trans rfl
set_option maxRecDepth 20000 in
theorem k188_225 : cd 188 225 = some (26, 998, 0, 0, 0, []) := (kk188 225).trans rfl
set_option maxRecDepth 20000 in
theorem k188_228 : cd 188 228 = some (4, 0, 0, 0, 0, []) := (kk188 228).trans rfl
set_option maxRecDepth 20000 in
theorem k188_229 : cd 188 229 = some (52, 2, 0, 0, 0, []) := (kk188 229).trans rfl
set_option maxRecDepth 20000 in
theorem k188_230 : cd 188 230 = some (1, 1, 0, 0, 0, []) := (kk188 230).trans rfl
set_option maxRecDepth 20000 in
theorem k188_231 : cd 188 231 = some (1, 0, 0, 0, 0, []) := (kk188 231).trans rfl
set_option maxRecDepth 20000 in
theorem k188_232 : cd 188 232 = some (0, 3, 0, 0, 0, []) := (kk188 232).trans rfl
set_option maxRecDepth 20000 in
theorem k188_233 : cd 188 233 = some (4, 0, 0, 0, 1, []) := (kk188 233).trans rfl
set_option maxRecDepth 20000 in
theorem k188_234 : cd 188 234 = some (8, 0, 0, 0, 0, []) := (kk188 234).trans rfl
set_option maxRecDepth 20000 in
theorem k188_235 : cd 188 235 = some (57, 0, 0, 0, 0, []) := (kk188 235).trans rfl
set_option maxRecDepth 20000 in
theorem k188_236 : cd 188 236 = some (1, 0, 0, 0, 0, []) := (kk188 236).trans rfl
set_option maxRecDepth 20000 in
theorem k188_237 : cd 188 237 = some (0, 3, 0, 0, 0, []) := (kk188 237).trans rfl
set_option maxRecDepth 20000 in
theorem k188_238 : cd 188 238 = some (4, 0, 0, 0, 2, []) := (kk188 238).trans rfl
set_option maxRecDepth 20000 in
theorem k188_239 : cd 188 239 = some (8, 0, 0, 0, 0, []) := (kk188 239).trans rfl
set_option maxRecDepth 20000 in
theorem k188_240 : cd 188 240 = some (57, 0, 0, 0, 0, []) := (kk188 240).trans rfl
set_option maxRecDepth 20000 in
theorem k188_241 : cd 188 241 = some (1, 0, 0, 0, 0, []) := (kk188 241).trans rfl
set_option maxRecDepth 20000 in
theorem k188_242 : cd 188 242 = some (0, 3, 0, 0, 0, []) := (kk188 242).trans rfl
set_option maxRecDepth 20000 in
theorem k188_243 : cd 188 243 = some (4, 0, 0, 0, 3, []) := (kk188 243).trans rfl
set_option maxRecDepth 20000 in
theorem k188_244 : cd 188 244 = some (8, 0, 0, 0, 0, []) := (kk188 244).trans rfl
set_option maxRecDepth 20000 in
theorem k188_245 : cd 188 245 = some (57, 0, 0, 0, 0, []) := (kk188 245).trans rfl
set_option maxRecDepth 20000 in
theorem k188_246 : cd 188 246 = some (46, 31, 73, 0, 0, []) := (kk188 246).trans rfl
set_option maxRecDepth 20000 in
theorem k188_249 : cd 188 249 = some (1, 2, 0, 0, 0, []) := (kk188 249).trans rfl
set_option maxRecDepth 20000 in
theorem k188_250 : cd 188 250 = some (1, 0, 0, 0, 0, []) := (kk188 250).trans rfl
set_option maxRecDepth 20000 in
theorem k188_251 : cd 188 251 = some (0, 3, 0, 0, 0, []) := (kk188 251).trans rfl
set_option maxRecDepth 20000 in
theorem k188_252 : cd 188 252 = some (4, 0, 0, 0, 1, []) := (kk188 252).trans rfl
set_option maxRecDepth 20000 in
theorem k188_253 : cd 188 253 = some (8, 0, 0, 0, 0, []) := (kk188 253).trans rfl
set_option maxRecDepth 20000 in
theorem k188_254 : cd 188 254 = some (57, 0, 0, 0, 0, []) := (kk188 254).trans rfl
set_option maxRecDepth 20000 in
theorem k188_255 : cd 188 255 = some (1, 0, 0, 0, 0, []) := (kk188 255).trans rfl
set_option maxRecDepth 20000 in
theorem k188_256 : cd 188 256 = some (0, 3, 0, 0, 0, []) := (kk188 256).trans rfl
set_option maxRecDepth 20000 in
theorem k188_257 : cd 188 257 = some (4, 0, 0, 0, 2, []) := (kk188 257).trans rfl
set_option maxRecDepth 20000 in
theorem k188_258 : cd 188 258 = some (8, 0, 0, 0, 0, []) := (kk188 258).trans rfl
set_option maxRecDepth 20000 in
theorem k188_259 : cd 188 259 = some (57, 0, 0, 0, 0, []) := (kk188 259).trans rfl
set_option maxRecDepth 20000 in
theorem k188_260 : cd 188 260 = some (1, 0, 0, 0, 0, []) := (kk188 260).trans rfl
set_option maxRecDepth 20000 in
theorem k188_261 : cd 188 261 = some (0, 3, 0, 0, 0, []) := (kk188 261).trans rfl
set_option maxRecDepth 20000 in
theorem k188_262 : cd 188 262 = some (4, 0, 0, 0, 3, []) := (kk188 262).trans rfl
set_option maxRecDepth 20000 in
theorem k188_263 : cd 188 263 = some (8, 0, 0, 0, 0, []) := (kk188 263).trans rfl
set_option maxRecDepth 20000 in
theorem k188_264 : cd 188 264 = some (57, 0, 0, 0, 0, []) := (kk188 264).trans rfl
set_option maxRecDepth 20000 in
theorem k188_265 : cd 188 265 = some (46, 35, 144, 0, 0, []) := (kk188 265).trans rfl
set_option maxRecDepth 20000 in
theorem k188_268 : cd 188 268 = some (26, 998, 0, 0, 0, []) := (kk188 268).trans rfl
set_option maxRecDepth 20000 in
theorem k188_271 : cd 188 271 = some (4, 0, 0, 0, 0, []) := (kk188 271).trans rfl
set_option maxRecDepth 20000 in
theorem k188_272 : cd 188 272 = some (52, 2, 0, 0, 0, []) := (kk188 272).trans rfl
set_option maxRecDepth 20000 in
theorem k188_273 : cd 188 273 = some (1, 1, 0, 0, 0, []) := (kk188 273).trans rfl
set_option maxRecDepth 20000 in
theorem k188_274 : cd 188 274 = some (1, 0, 0, 0, 0, []) := (kk188 274).trans rfl
set_option maxRecDepth 20000 in
theorem k188_275 : cd 188 275 = some (0, 3, 0, 0, 0, []) := (kk188 275).trans rfl
set_option maxRecDepth 20000 in
theorem k188_276 : cd 188 276 = some (4, 0, 0, 0, 1, []) := (kk188 276).trans rfl
set_option maxRecDepth 20000 in
theorem k188_277 : cd 188 277 = some (8, 0, 0, 0, 0, []) := (kk188 277).trans rfl
set_option maxRecDepth 20000 in
theorem k188_278 : cd 188 278 = some (57, 0, 0, 0, 0, []) := (kk188 278).trans rfl
set_option maxRecDepth 20000 in
theorem k188_279 : cd 188 279 = some (1, 0, 0, 0, 0, []) := (kk188 279).trans rfl
set_option maxRecDepth 20000 in
theorem k188_280 : cd 188 280 = some (0, 3, 0, 0, 0, []) := (kk188 280).trans rfl
set_option maxRecDepth 20000 in
theorem k188_281 : cd 188 281 = some (4, 0, 0, 0, 2, []) := (kk188 281).trans rfl
set_option maxRecDepth 20000 in
theorem k188_282 : cd 188 282 = some (8, 0, 0, 0, 0, []) := (kk188 282).trans rfl
set_option maxRecDepth 20000 in
theorem k188_283 : cd 188 283 = some (57, 0, 0, 0, 0, []) := (kk188 283).trans rfl
set_option maxRecDepth 20000 in
theorem k188_284 : cd 188 284 = some (46, 36, 74, 0, 0, []) := (kk188 284).trans rfl
set_option maxRecDepth 20000 in
theorem k188_287 : cd 188 287 = some (1, 2, 0, 0, 0, []) := (kk188 287).trans rfl
set_option maxRecDepth 20000 in
theorem k188_288 : cd 188 288 = some (1, 0, 0, 0, 0, []) := (kk188 288).trans rfl
set_option maxRecDepth 20000 in
theorem k188_289 : cd 188 289 = some (0, 3, 0, 0, 0, []) := (kk188 289).trans rfl
set_option maxRecDepth 20000 in
theorem k188_290 : cd 188 290 = some (4, 0, 0, 0, 1, []) := (kk188 290).trans rfl
set_option maxRecDepth 20000 in
theorem k188_291 : cd 188 291 = some (8, 0, 0, 0, 0, []) := (kk188 291).trans rfl
set_option maxRecDepth 20000 in
theorem k188_292 : cd 188 292 = some (57, 0, 0, 0, 0, []) := (kk188 292).trans rfl
set_option maxRecDepth 20000 in
theorem k188_293 : cd 188 293 = some (1, 0, 0, 0, 0, []) := (kk188 293).trans rfl
set_option maxRecDepth 20000 in
theorem k188_294 : cd 188 294 = some (0, 3, 0, 0, 0, []) := (kk188 294).trans rfl
set_option maxRecDepth 20000 in
theorem k188_295 : cd 188 295 = some (4, 0, 0, 0, 2, []) := (kk188 295).trans rfl
set_option maxRecDepth 20000 in
theorem k188_296 : cd 188 296 = some (8, 0, 0, 0, 0, []) := (kk188 296).trans rfl
set_option maxRecDepth 20000 in
theorem k188_297 : cd 188 297 = some (57, 0, 0, 0, 0, []) := (kk188 297).trans rfl
set_option maxRecDepth 20000 in
theorem k188_298 : cd 188 298 = some (46, 40, 145, 0, 0, []) := (kk188 298).trans rfl
set_option maxRecDepth 20000 in
theorem k188_301 : cd 188 301 = some (26, 998, 0, 0, 0, []) := (kk188 301).trans rfl
set_option maxRecDepth 20000 in
theorem k188_304 : cd 188 304 = some (4, 0, 0, 0, 0, []) := (kk188 304).trans rfl
set_option maxRecDepth 20000 in
theorem k188_305 : cd 188 305 = some (52, 2, 0, 0, 0, []) := (kk188 305).trans rfl
set_option maxRecDepth 20000 in
theorem k188_306 : cd 188 306 = some (1, 1, 0, 0, 0, []) := (kk188 306).trans rfl
set_option maxRecDepth 20000 in
theorem k188_307 : cd 188 307 = some (1, 0, 0, 0, 0, []) := (kk188 307).trans rfl
set_option maxRecDepth 20000 in
theorem k188_308 : cd 188 308 = some (0, 3, 0, 0, 0, []) := (kk188 308).trans rfl
set_option maxRecDepth 20000 in
theorem k188_309 : cd 188 309 = some (4, 0, 0, 0, 1, []) := (kk188 309).trans rfl
set_option maxRecDepth 20000 in
theorem k188_310 : cd 188 310 = some (8, 0, 0, 0, 0, []) := (kk188 310).trans rfl
set_option maxRecDepth 20000 in
theorem k188_311 : cd 188 311 = some (57, 0, 0, 0, 0, []) := (kk188 311).trans rfl
set_option maxRecDepth 20000 in
theorem k188_312 : cd 188 312 = some (1, 0, 0, 0, 0, []) := (kk188 312).trans rfl
set_option maxRecDepth 20000 in
theorem k188_313 : cd 188 313 = some (0, 3, 0, 0, 0, []) := (kk188 313).trans rfl
set_option maxRecDepth 20000 in
theorem k188_314 : cd 188 314 = some (4, 0, 0, 0, 2, []) := (kk188 314).trans rfl
set_option maxRecDepth 20000 in
theorem k188_315 : cd 188 315 = some (8, 0, 0, 0, 0, []) := (kk188 315).trans rfl
set_option maxRecDepth 20000 in
theorem k188_316 : cd 188 316 = some (57, 0, 0, 0, 0, []) := (kk188 316).trans rfl
set_option maxRecDepth 20000 in
theorem k188_317 : cd 188 317 = some (46, 41, 75, 0, 0, []) := (kk188 317).trans rfl
set_option maxRecDepth 20000 in
theorem k188_320 : cd 188 320 = some (1, 2, 0, 0, 0, []) := (kk188 320).trans rfl
set_option maxRecDepth 20000 in
theorem k188_321 : cd 188 321 = some (1, 0, 0, 0, 0, []) := (kk188 321).trans rfl
set_option maxRecDepth 20000 in
theorem k188_322 : cd 188 322 = some (0, 3, 0, 0, 0, []) := (kk188 322).trans rfl
set_option maxRecDepth 20000 in
theorem k188_323 : cd 188 323 = some (4, 0, 0, 0, 1, []) := (kk188 323).trans rfl
set_option maxRecDepth 20000 in
theorem k188_324 : cd 188 324 = some (8, 0, 0, 0, 0, []) := (kk188 324).trans rfl
set_option maxRecDepth 20000 in
theorem k188_325 : cd 188 325 = some (57, 0, 0, 0, 0, []) := (kk188 325).trans rfl
set_option maxRecDepth 20000 in
theorem k188_326 : cd 188 326 = some (1, 0, 0, 0, 0, []) := (kk188 326).trans rfl
set_option maxRecDepth 20000 in
theorem k188_327 : cd 188 327 = some (0, 3, 0, 0, 0, []) := (kk188 327).trans rfl
set_option maxRecDepth 20000 in
theorem k188_328 : cd 188 328 = some (4, 0, 0, 0, 2, []) := (kk188 328).trans rfl
set_option maxRecDepth 20000 in
theorem k188_329 : cd 188 329 = some (8, 0, 0, 0, 0, []) := (kk188 329).trans rfl
set_option maxRecDepth 20000 in
theorem k188_330 : cd 188 330 = some (57, 0, 0, 0, 0, []) := (kk188 330).trans rfl
set_option maxRecDepth 20000 in
theorem k188_331 : cd 188 331 = some (46, 44, 146, 0, 0, []) := (kk188 331).trans rfl
set_option maxRecDepth 20000 in
theorem k188_334 : cd 188 334 = some (26, 998, 0, 0, 0, []) := (kk188 334).trans rfl
set_option maxRecDepth 20000 in
theorem k188_337 : cd 188 337 = some (4, 0, 0, 0, 0, []) := (kk188 337).trans rfl
set_option maxRecDepth 20000 in
theorem k188_338 : cd 188 338 = some (52, 2, 0, 0, 0, []) := (kk188 338).trans rfl
set_option maxRecDepth 20000 in
theorem k188_339 : cd 188 339 = some (1, 1, 0, 0, 0, []) := (kk188 339).trans rfl
set_option maxRecDepth 20000 in
theorem k188_340 : cd 188 340 = some (1, 0, 0, 0, 0, []) := (kk188 340).trans rfl
set_option maxRecDepth 20000 in
theorem k188_341 : cd 188 341 = some (0, 3, 0, 0, 0, []) := (kk188 341).trans rfl
set_option maxRecDepth 20000 in
theorem k188_342 : cd 188 342 = some (4, 0, 0, 0, 1, []) := (kk188 342).trans rfl
set_option maxRecDepth 20000 in
theorem k188_343 : cd 188 343 = some (8, 0, 0, 0, 0, []) := (kk188 343).trans rfl
set_option maxRecDepth 20000 in
theorem k188_344 : cd 188 344 = some (57, 0, 0, 0, 0, []) := (kk188 344).trans rfl
set_option maxRecDepth 20000 in
theorem k188_345 : cd 188 345 = some (1, 0, 0, 0, 0, []) := (kk188 345).trans rfl
set_option maxRecDepth 20000 in
theorem k188_346 : cd 188 346 = some (0, 3, 0, 0, 0, []) := (kk188 346).trans rfl
set_option maxRecDepth 20000 in
theorem k188_347 : cd 188 347 = some (4, 0, 0, 0, 2, []) := (kk188 347).trans rfl
set_option maxRecDepth 20000 in
theorem k188_348 : cd 188 348 = some (8, 0, 0, 0, 0, []) := (kk188 348).trans rfl
set_option maxRecDepth 20000 in
theorem k188_349 : cd 188 349 = some (57, 0, 0, 0, 0, []) := (kk188 349).trans rfl
set_option maxRecDepth 20000 in
theorem k188_350 : cd 188 350 = some (46, 45, 76, 0, 0, []) := (kk188 350).trans rfl
set_option maxRecDepth 20000 in
theorem k188_353 : cd 188 353 = some (1, 2, 0, 0, 0, []) := (kk188 353).trans rfl
set_option maxRecDepth 20000 in
theorem k188_354 : cd 188 354 = some (1, 0, 0, 0, 0, []) := (kk188 354).trans rfl
set_option maxRecDepth 20000 in
theorem k188_355 : cd 188 355 = some (0, 3, 0, 0, 0, []) := (kk188 355).trans rfl
set_option maxRecDepth 20000 in
theorem k188_356 : cd 188 356 = some (4, 0, 0, 0, 1, []) := (kk188 356).trans rfl
set_option maxRecDepth 20000 in
theorem k188_357 : cd 188 357 = some (8, 0, 0, 0, 0, []) := (kk188 357).trans rfl
set_option maxRecDepth 20000 in
theorem k188_358 : cd 188 358 = some (57, 0, 0, 0, 0, []) := (kk188 358).trans rfl
set_option maxRecDepth 20000 in
theorem k188_359 : cd 188 359 = some (1, 0, 0, 0, 0, []) := (kk188 359).trans rfl
set_option maxRecDepth 20000 in
theorem k188_360 : cd 188 360 = some (0, 3, 0, 0, 0, []) := (kk188 360).trans rfl
set_option maxRecDepth 20000 in
theorem k188_361 : cd 188 361 = some (4, 0, 0, 0, 2, []) := (kk188 361).trans rfl
set_option maxRecDepth 20000 in
theorem k188_362 : cd 188 362 = some (8, 0, 0, 0, 0, []) := (kk188 362).trans rfl
set_option maxRecDepth 20000 in
theorem k188_363 : cd 188 363 = some (57, 0, 0, 0, 0, []) := (kk188 363).trans rfl
set_option maxRecDepth 20000 in
theorem k188_364 : cd 188 364 = some (46, 48, 150, 0, 0, []) := (kk188 364).trans rfl
set_option maxRecDepth 20000 in
theorem k188_367 : cd 188 367 = some (26, 998, 0, 0, 0, []) := (kk188 367).trans rfl
set_option maxRecDepth 20000 in
theorem k188_370 : cd 188 370 = some (4, 0, 0, 0, 0, []) := (kk188 370).trans rfl
set_option maxRecDepth 20000 in
theorem k188_371 : cd 188 371 = some (52, 2, 0, 0, 0, []) := (kk188 371).trans rfl
set_option maxRecDepth 20000 in
theorem k188_372 : cd 188 372 = some (1, 1, 0, 0, 0, []) := (kk188 372).trans rfl
set_option maxRecDepth 20000 in
theorem k188_373 : cd 188 373 = some (1, 0, 0, 0, 0, []) := (kk188 373).trans rfl
set_option maxRecDepth 20000 in
theorem k188_374 : cd 188 374 = some (0, 3, 0, 0, 0, []) := (kk188 374).trans rfl
set_option maxRecDepth 20000 in
theorem k188_375 : cd 188 375 = some (4, 0, 0, 0, 1, []) := (kk188 375).trans rfl
set_option maxRecDepth 20000 in
theorem k188_376 : cd 188 376 = some (8, 0, 0, 0, 0, []) := (kk188 376).trans rfl
set_option maxRecDepth 20000 in
theorem k188_377 : cd 188 377 = some (57, 0, 0, 0, 0, []) := (kk188 377).trans rfl
set_option maxRecDepth 20000 in
theorem k188_378 : cd 188 378 = some (46, 49, 77, 0, 0, []) := (kk188 378).trans rfl
set_option maxRecDepth 20000 in
theorem k188_381 : cd 188 381 = some (1, 2, 0, 0, 0, []) := (kk188 381).trans rfl
set_option maxRecDepth 20000 in
theorem k188_382 : cd 188 382 = some (1, 0, 0, 0, 0, []) := (kk188 382).trans rfl
set_option maxRecDepth 20000 in
theorem k188_383 : cd 188 383 = some (0, 3, 0, 0, 0, []) := (kk188 383).trans rfl
set_option maxRecDepth 20000 in
theorem k188_384 : cd 188 384 = some (4, 0, 0, 0, 1, []) := (kk188 384).trans rfl
set_option maxRecDepth 20000 in
theorem k188_385 : cd 188 385 = some (8, 0, 0, 0, 0, []) := (kk188 385).trans rfl
set_option maxRecDepth 20000 in
theorem k188_386 : cd 188 386 = some (57, 0, 0, 0, 0, []) := (kk188 386).trans rfl
set_option maxRecDepth 20000 in
theorem k188_387 : cd 188 387 = some (46, 52, 152, 0, 0, []) := (kk188 387).trans rfl
set_option maxRecDepth 20000 in
theorem k188_390 : cd 188 390 = some (26, 998, 0, 0, 0, []) := (kk188 390).trans rfl
set_option maxRecDepth 20000 in
theorem k188_393 : cd 188 393 = some (4, 0, 0, 0, 0, []) := (kk188 393).trans rfl
set_option maxRecDepth 20000 in
theorem k188_394 : cd 188 394 = some (52, 2, 0, 0, 0, []) := (kk188 394).trans rfl
set_option maxRecDepth 20000 in
theorem k188_395 : cd 188 395 = some (1, 1, 0, 0, 0, []) := (kk188 395).trans rfl
set_option maxRecDepth 20000 in
theorem k188_396 : cd 188 396 = some (1, 0, 0, 0, 0, []) := (kk188 396).trans rfl
set_option maxRecDepth 20000 in
theorem k188_397 : cd 188 397 = some (0, 3, 0, 0, 0, []) := (kk188 397).trans rfl
set_option maxRecDepth 20000 in
theorem k188_398 : cd 188 398 = some (4, 0, 0, 0, 1, []) := (kk188 398).trans rfl
set_option maxRecDepth 20000 in
theorem k188_399 : cd 188 399 = some (8, 0, 0, 0, 0, []) := (kk188 399).trans rfl
set_option maxRecDepth 20000 in
theorem k188_400 : cd 188 400 = some (57, 0, 0, 0, 0, []) := (kk188 400).trans rfl
set_option maxRecDepth 20000 in
theorem k188_401 : cd 188 401 = some (46, 53, 78, 0, 0, []) := (kk188 401).trans rfl
set_option maxRecDepth 20000 in
theorem k188_404 : cd 188 404 = some (1, 2, 0, 0, 0, []) := (kk188 404).trans rfl
set_option maxRecDepth 20000 in
theorem k188_405 : cd 188 405 = some (1, 0, 0, 0, 0, []) := (kk188 405).trans rfl
set_option maxRecDepth 20000 in
theorem k188_406 : cd 188 406 = some (0, 3, 0, 0, 0, []) := (kk188 406).trans rfl
set_option maxRecDepth 20000 in
theorem k188_407 : cd 188 407 = some (4, 0, 0, 0, 1, []) := (kk188 407).trans rfl
set_option maxRecDepth 20000 in
theorem k188_408 : cd 188 408 = some (8, 0, 0, 0, 0, []) := (kk188 408).trans rfl
set_option maxRecDepth 20000 in
theorem k188_409 : cd 188 409 = some (57, 0, 0, 0, 0, []) := (kk188 409).trans rfl
set_option maxRecDepth 20000 in
theorem k188_410 : cd 188 410 = some (46, 56, 153, 0, 0, []) := (kk188 410).trans rfl
set_option maxRecDepth 20000 in
theorem k188_413 : cd 188 413 = some (26, 998, 0, 0, 0, []) := (kk188 413).trans rfl
set_option maxRecDepth 20000 in
theorem k188_416 : cd 188 416 = some (4, 0, 0, 0, 0, []) := (kk188 416).trans rfl
set_option maxRecDepth 20000 in
theorem k188_417 : cd 188 417 = some (52, 2, 0, 0, 0, []) := (kk188 417).trans rfl
set_option maxRecDepth 20000 in
theorem k188_418 : cd 188 418 = some (1, 1, 0, 0, 0, []) := (kk188 418).trans rfl
set_option maxRecDepth 20000 in
theorem k188_419 : cd 188 419 = some (1, 0, 0, 0, 0, []) := (kk188 419).trans rfl
set_option maxRecDepth 20000 in
theorem k188_420 : cd 188 420 = some (0, 3, 0, 0, 0, []) := (kk188 420).trans rfl
set_option maxRecDepth 20000 in
theorem k188_421 : cd 188 421 = some (4, 0, 0, 0, 1, []) := (kk188 421).trans rfl
set_option maxRecDepth 20000 in
theorem k188_422 : cd 188 422 = some (8, 0, 0, 0, 0, []) := (kk188 422).trans rfl
set_option maxRecDepth 20000 in
theorem k188_423 : cd 188 423 = some (57, 0, 0, 0, 0, []) := (kk188 423).trans rfl
set_option maxRecDepth 20000 in
theorem k188_424 : cd 188 424 = some (46, 57, 79, 0, 0, []) := (kk188 424).trans rfl
set_option maxRecDepth 20000 in
theorem k188_427 : cd 188 427 = some (1, 2, 0, 0, 0, []) := (kk188 427).trans rfl
set_option maxRecDepth 20000 in
theorem k188_428 : cd 188 428 = some (1, 0, 0, 0, 0, []) := (kk188 428).trans rfl
set_option maxRecDepth 20000 in
theorem k188_429 : cd 188 429 = some (0, 3, 0, 0, 0, []) := (kk188 429).trans rfl
set_option maxRecDepth 20000 in
theorem k188_430 : cd 188 430 = some (4, 0, 0, 0, 1, []) := (kk188 430).trans rfl
set_option maxRecDepth 20000 in
theorem k188_431 : cd 188 431 = some (8, 0, 0, 0, 0, []) := (kk188 431).trans rfl
set_option maxRecDepth 20000 in
theorem k188_432 : cd 188 432 = some (57, 0, 0, 0, 0, []) := (kk188 432).trans rfl
set_option maxRecDepth 20000 in
theorem k188_433 : cd 188 433 = some (46, 60, 155, 0, 0, []) := (kk188 433).trans rfl
set_option maxRecDepth 20000 in
theorem k188_436 : cd 188 436 = some (26, 998, 0, 0, 0, []) := (kk188 436).trans rfl
set_option maxRecDepth 20000 in
theorem k188_439 : cd 188 439 = some (4, 0, 0, 0, 0, []) := (kk188 439).trans rfl
set_option maxRecDepth 20000 in
theorem k188_440 : cd 188 440 = some (52, 2, 0, 0, 0, []) := (kk188 440).trans rfl
set_option maxRecDepth 20000 in
theorem k188_441 : cd 188 441 = some (1, 1, 0, 0, 0, []) := (kk188 441).trans rfl
set_option maxRecDepth 20000 in
theorem k188_442 : cd 188 442 = some (1, 0, 0, 0, 0, []) := (kk188 442).trans rfl
set_option maxRecDepth 20000 in
theorem k188_443 : cd 188 443 = some (0, 3, 0, 0, 0, []) := (kk188 443).trans rfl
set_option maxRecDepth 20000 in
theorem k188_444 : cd 188 444 = some (4, 0, 0, 0, 1, []) := (kk188 444).trans rfl
set_option maxRecDepth 20000 in
theorem k188_445 : cd 188 445 = some (8, 0, 0, 0, 0, []) := (kk188 445).trans rfl
set_option maxRecDepth 20000 in
theorem k188_446 : cd 188 446 = some (57, 0, 0, 0, 0, []) := (kk188 446).trans rfl
set_option maxRecDepth 20000 in
theorem k188_447 : cd 188 447 = some (1, 0, 0, 0, 0, []) := (kk188 447).trans rfl
set_option maxRecDepth 20000 in
theorem k188_448 : cd 188 448 = some (0, 3, 0, 0, 0, []) := (kk188 448).trans rfl
set_option maxRecDepth 20000 in
theorem k188_449 : cd 188 449 = some (4, 0, 0, 0, 2, []) := (kk188 449).trans rfl
set_option maxRecDepth 20000 in
theorem k188_450 : cd 188 450 = some (8, 0, 0, 0, 0, []) := (kk188 450).trans rfl
set_option maxRecDepth 20000 in
theorem k188_451 : cd 188 451 = some (57, 0, 0, 0, 0, []) := (kk188 451).trans rfl
set_option maxRecDepth 20000 in
theorem k188_452 : cd 188 452 = some (46, 61, 80, 0, 0, []) := (kk188 452).trans rfl
set_option maxRecDepth 20000 in
theorem k188_455 : cd 188 455 = some (1, 2, 0, 0, 0, []) := (kk188 455).trans rfl
set_option maxRecDepth 20000 in
theorem k188_456 : cd 188 456 = some (1, 0, 0, 0, 0, []) := (kk188 456).trans rfl
set_option maxRecDepth 20000 in
theorem k188_457 : cd 188 457 = some (0, 3, 0, 0, 0, []) := (kk188 457).trans rfl
set_option maxRecDepth 20000 in
theorem k188_458 : cd 188 458 = some (4, 0, 0, 0, 1, []) := (kk188 458).trans rfl
set_option maxRecDepth 20000 in
theorem k188_459 : cd 188 459 = some (8, 0, 0, 0, 0, []) := (kk188 459).trans rfl
set_option maxRecDepth 20000 in
theorem k188_460 : cd 188 460 = some (57, 0, 0, 0, 0, []) := (kk188 460).trans rfl
set_option maxRecDepth 20000 in
theorem k188_461 : cd 188 461 = some (1, 0, 0, 0, 0, []) := (kk188 461).trans rfl
set_option maxRecDepth 20000 in
theorem k188_462 : cd 188 462 = some (0, 3, 0, 0, 0, []) := (kk188 462).trans rfl
set_option maxRecDepth 20000 in
theorem k188_463 : cd 188 463 = some (4, 0, 0, 0, 2, []) := (kk188 463).trans rfl
set_option maxRecDepth 20000 in
theorem k188_464 : cd 188 464 = some (8, 0, 0, 0, 0, []) := (kk188 464).trans rfl
set_option maxRecDepth 20000 in
theorem k188_465 : cd 188 465 = some (57, 0, 0, 0, 0, []) := (kk188 465).trans rfl
set_option maxRecDepth 20000 in
theorem k188_466 : cd 188 466 = some (46, 64, 156, 0, 0, []) := (kk188 466).trans rfl
set_option maxRecDepth 20000 in
theorem k188_469 : cd 188 469 = some (26, 998, 0, 0, 0, []) := (kk188 469).trans rfl
set_option maxRecDepth 20000 in
theorem k188_472 : cd 188 472 = some (4, 0, 0, 0, 0, []) := (kk188 472).trans rfl
set_option maxRecDepth 20000 in
theorem k188_473 : cd 188 473 = some (52, 2, 0, 0, 0, []) := (kk188 473).trans rfl
set_option maxRecDepth 20000 in
theorem k188_474 : cd 188 474 = some (1, 1, 0, 0, 0, []) := (kk188 474).trans rfl
set_option maxRecDepth 20000 in
theorem k188_475 : cd 188 475 = some (46, 65, 81, 0, 0, []) := (kk188 475).trans rfl
set_option maxRecDepth 20000 in
theorem k188_478 : cd 188 478 = some (1, 2, 0, 0, 0, []) := (kk188 478).trans rfl
set_option maxRecDepth 20000 in
theorem k188_479 : cd 188 479 = some (46, 68, 157, 0, 0, []) := (kk188 479).trans rfl
set_option maxRecDepth 20000 in
theorem k188_482 : cd 188 482 = some (26, 998, 0, 0, 0, []) := (kk188 482).trans rfl
set_option maxRecDepth 20000 in
theorem k188_485 : cd 188 485 = some (4, 0, 0, 0, 0, []) := (kk188 485).trans rfl
set_option maxRecDepth 20000 in
theorem k188_486 : cd 188 486 = some (52, 2, 0, 0, 0, []) := (kk188 486).trans rfl
set_option maxRecDepth 20000 in
theorem k188_487 : cd 188 487 = some (1, 1, 0, 0, 0, []) := (kk188 487).trans rfl
set_option maxRecDepth 20000 in
theorem k188_488 : cd 188 488 = some (46, 69, 82, 0, 0, []) := (kk188 488).trans rfl
set_option maxRecDepth 20000 in
theorem k188_491 : cd 188 491 = some (1, 2, 0, 0, 0, []) := (kk188 491).trans rfl
set_option maxRecDepth 20000 in
theorem k188_492 : cd 188 492 = some (46, 72, 148, 0, 0, []) := (kk188 492).trans rfl
set_option maxRecDepth 20000 in
theorem k188_495 : cd 188 495 = some (26, 998, 0, 0, 0, []) := (kk188 495).trans rfl
set_option maxRecDepth 20000 in
theorem k188_498 : cd 188 498 = some (4, 0, 0, 0, 0, []) := (kk188 498).trans rfl
set_option maxRecDepth 20000 in
theorem k188_499 : cd 188 499 = some (52, 2, 0, 0, 0, []) := (kk188 499).trans rfl
set_option maxRecDepth 20000 in
theorem k188_500 : cd 188 500 = some (1, 1, 0, 0, 0, []) := (kk188 500).trans rfl
set_option maxRecDepth 20000 in
theorem k188_501 : cd 188 501 = some (1, 0, 0, 0, 0, []) := (kk188 501).trans rfl
set_option maxRecDepth 20000 in
theorem k188_502 : cd 188 502 = some (0, 3, 0, 0, 0, []) := (kk188 502).trans rfl
set_option maxRecDepth 20000 in
theorem k188_503 : cd 188 503 = some (4, 0, 0, 0, 1, []) := (kk188 503).trans rfl
set_option maxRecDepth 20000 in
theorem k188_504 : cd 188 504 = some (8, 0, 0, 0, 0, []) := (kk188 504).trans rfl
set_option maxRecDepth 20000 in
theorem k188_505 : cd 188 505 = some (57, 0, 0, 0, 0, []) := (kk188 505).trans rfl
set_option maxRecDepth 20000 in
theorem k188_506 : cd 188 506 = some (1, 0, 0, 0, 0, []) := (kk188 506).trans rfl
set_option maxRecDepth 20000 in
theorem k188_507 : cd 188 507 = some (0, 3, 0, 0, 0, []) := (kk188 507).trans rfl
set_option maxRecDepth 20000 in
theorem k188_508 : cd 188 508 = some (4, 0, 0, 0, 2, []) := (kk188 508).trans rfl
set_option maxRecDepth 20000 in
theorem k188_509 : cd 188 509 = some (8, 0, 0, 0, 0, []) := (kk188 509).trans rfl
set_option maxRecDepth 20000 in
theorem k188_510 : cd 188 510 = some (57, 0, 0, 0, 0, []) := (kk188 510).trans rfl
set_option maxRecDepth 20000 in
theorem k188_511 : cd 188 511 = some (1, 0, 0, 0, 0, []) := (kk188 511).trans rfl
set_option maxRecDepth 20000 in
theorem k188_512 : cd 188 512 = some (0, 3, 0, 0, 0, []) := (kk188 512).trans rfl
set_option maxRecDepth 20000 in
theorem k188_513 : cd 188 513 = some (4, 0, 0, 0, 3, []) := (kk188 513).trans rfl
set_option maxRecDepth 20000 in
theorem k188_514 : cd 188 514 = some (8, 0, 0, 0, 0, []) := (kk188 514).trans rfl
set_option maxRecDepth 20000 in
theorem k188_515 : cd 188 515 = some (57, 0, 0, 0, 0, []) := (kk188 515).trans rfl
set_option maxRecDepth 20000 in
theorem k188_516 : cd 188 516 = some (46, 73, 83, 0, 0, []) := (kk188 516).trans rfl
set_option maxRecDepth 20000 in
theorem k188_519 : cd 188 519 = some (1, 2, 0, 0, 0, []) := (kk188 519).trans rfl
set_option maxRecDepth 20000 in
theorem k188_520 : cd 188 520 = some (1, 0, 0, 0, 0, []) := (kk188 520).trans rfl
set_option maxRecDepth 20000 in
theorem k188_521 : cd 188 521 = some (0, 3, 0, 0, 0, []) := (kk188 521).trans rfl
set_option maxRecDepth 20000 in
theorem k188_522 : cd 188 522 = some (4, 0, 0, 0, 1, []) := (kk188 522).trans rfl
set_option maxRecDepth 20000 in
theorem k188_523 : cd 188 523 = some (8, 0, 0, 0, 0, []) := (kk188 523).trans rfl
set_option maxRecDepth 20000 in
theorem k188_524 : cd 188 524 = some (57, 0, 0, 0, 0, []) := (kk188 524).trans rfl
set_option maxRecDepth 20000 in
theorem k188_525 : cd 188 525 = some (1, 0, 0, 0, 0, []) := (kk188 525).trans rfl
set_option maxRecDepth 20000 in
theorem k188_526 : cd 188 526 = some (0, 3, 0, 0, 0, []) := (kk188 526).trans rfl
set_option maxRecDepth 20000 in
theorem k188_527 : cd 188 527 = some (4, 0, 0, 0, 2, []) := (kk188 527).trans rfl
set_option maxRecDepth 20000 in
theorem k188_528 : cd 188 528 = some (8, 0, 0, 0, 0, []) := (kk188 528).trans rfl
set_option maxRecDepth 20000 in
theorem k188_529 : cd 188 529 = some (57, 0, 0, 0, 0, []) := (kk188 529).trans rfl
set_option maxRecDepth 20000 in
theorem k188_530 : cd 188 530 = some (1, 0, 0, 0, 0, []) := (kk188 530).trans rfl
set_option maxRecDepth 20000 in
theorem k188_531 : cd 188 531 = some (0, 3, 0, 0, 0, []) := (kk188 531).trans rfl
set_option maxRecDepth 20000 in
theorem k188_532 : cd 188 532 = some (4, 0, 0, 0, 3, []) := (kk188 532).trans rfl
set_option maxRecDepth 20000 in
theorem k188_533 : cd 188 533 = some (8, 0, 0, 0, 0, []) := (kk188 533).trans rfl
set_option maxRecDepth 20000 in
theorem k188_534 : cd 188 534 = some (57, 0, 0, 0, 0, []) := (kk188 534).trans rfl
set_option maxRecDepth 20000 in
theorem k188_535 : cd 188 535 = some (46, 76, 162, 0, 0, []) := (kk188 535).trans rfl
set_option maxRecDepth 20000 in
theorem k188_538 : cd 188 538 = some (26, 998, 0, 0, 0, []) := (kk188 538).trans rfl
set_option maxRecDepth 20000 in
theorem k188_541 : cd 188 541 = some (4, 0, 0, 0, 0, []) := (kk188 541).trans rfl
set_option maxRecDepth 20000 in
theorem k188_542 : cd 188 542 = some (52, 2, 0, 0, 0, []) := (kk188 542).trans rfl
set_option maxRecDepth 20000 in
theorem k188_543 : cd 188 543 = some (1, 1, 0, 0, 0, []) := (kk188 543).trans rfl
set_option maxRecDepth 20000 in
theorem k188_544 : cd 188 544 = some (1, 0, 0, 0, 0, []) := (kk188 544).trans rfl
set_option maxRecDepth 20000 in
theorem k188_545 : cd 188 545 = some (0, 3, 0, 0, 0, []) := (kk188 545).trans rfl
set_option maxRecDepth 20000 in
theorem k188_546 : cd 188 546 = some (4, 0, 0, 0, 1, []) := (kk188 546).trans rfl
set_option maxRecDepth 20000 in
theorem k188_547 : cd 188 547 = some (8, 0, 0, 0, 0, []) := (kk188 547).trans rfl
set_option maxRecDepth 20000 in
theorem k188_548 : cd 188 548 = some (57, 0, 0, 0, 0, []) := (kk188 548).trans rfl
set_option maxRecDepth 20000 in
theorem k188_549 : cd 188 549 = some (1, 0, 0, 0, 0, []) := (kk188 549).trans rfl
set_option maxRecDepth 20000 in
theorem k188_550 : cd 188 550 = some (0, 3, 0, 0, 0, []) := (kk188 550).trans rfl
set_option maxRecDepth 20000 in
theorem k188_551 : cd 188 551 = some (4, 0, 0, 0, 2, []) := (kk188 551).trans rfl
set_option maxRecDepth 20000 in
theorem k188_552 : cd 188 552 = some (8, 0, 0, 0, 0, []) := (kk188 552).trans rfl
set_option maxRecDepth 20000 in
theorem k188_553 : cd 188 553 = some (57, 0, 0, 0, 0, []) := (kk188 553).trans rfl
set_option maxRecDepth 20000 in
theorem k188_554 : cd 188 554 = some (1, 0, 0, 0, 0, []) := (kk188 554).trans rfl
set_option maxRecDepth 20000 in
theorem k188_555 : cd 188 555 = some (0, 3, 0, 0, 0, []) := (kk188 555).trans rfl
set_option maxRecDepth 20000 in
theorem k188_556 : cd 188 556 = some (4, 0, 0, 0, 3, []) := (kk188 556).trans rfl
set_option maxRecDepth 20000 in
theorem k188_557 : cd 188 557 = some (8, 0, 0, 0, 0, []) := (kk188 557).trans rfl
set_option maxRecDepth 20000 in
theorem k188_558 : cd 188 558 = some (57, 0, 0, 0, 0, []) := (kk188 558).trans rfl
set_option maxRecDepth 20000 in
theorem k188_559 : cd 188 559 = some (1, 0, 0, 0, 0, []) := (kk188 559).trans rfl
set_option maxRecDepth 20000 in
theorem k188_560 : cd 188 560 = some (0, 3, 0, 0, 0, []) := (kk188 560).trans rfl
set_option maxRecDepth 20000 in
theorem k188_561 : cd 188 561 = some (4, 0, 0, 0, 4, []) := (kk188 561).trans rfl
set_option maxRecDepth 20000 in
theorem k188_562 : cd 188 562 = some (8, 0, 0, 0, 0, []) := (kk188 562).trans rfl
set_option maxRecDepth 20000 in
theorem k188_563 : cd 188 563 = some (57, 0, 0, 0, 0, []) := (kk188 563).trans rfl
set_option maxRecDepth 20000 in
theorem k188_564 : cd 188 564 = some (46, 77, 84, 0, 0, []) := (kk188 564).trans rfl
set_option maxRecDepth 20000 in
theorem k188_567 : cd 188 567 = some (1, 2, 0, 0, 0, []) := (kk188 567).trans rfl
set_option maxRecDepth 20000 in
theorem k188_568 : cd 188 568 = some (1, 0, 0, 0, 0, []) := (kk188 568).trans rfl
set_option maxRecDepth 20000 in
theorem k188_569 : cd 188 569 = some (0, 3, 0, 0, 0, []) := (kk188 569).trans rfl
set_option maxRecDepth 20000 in
theorem k188_570 : cd 188 570 = some (4, 0, 0, 0, 1, []) := (kk188 570).trans rfl
set_option maxRecDepth 20000 in
theorem k188_571 : cd 188 571 = some (8, 0, 0, 0, 0, []) := (kk188 571).trans rfl
set_option maxRecDepth 20000 in
theorem k188_572 : cd 188 572 = some (57, 0, 0, 0, 0, []) := (kk188 572).trans rfl
set_option maxRecDepth 20000 in
theorem k188_573 : cd 188 573 = some (1, 0, 0, 0, 0, []) := (kk188 573).trans rfl
set_option maxRecDepth 20000 in
theorem k188_574 : cd 188 574 = some (0, 3, 0, 0, 0, []) := (kk188 574).trans rfl
set_option maxRecDepth 20000 in
theorem k188_575 : cd 188 575 = some (4, 0, 0, 0, 2, []) := (kk188 575).trans rfl
set_option maxRecDepth 20000 in
theorem k188_576 : cd 188 576 = some (8, 0, 0, 0, 0, []) := (kk188 576).trans rfl
set_option maxRecDepth 20000 in
theorem k188_577 : cd 188 577 = some (57, 0, 0, 0, 0, []) := (kk188 577).trans rfl
set_option maxRecDepth 20000 in
theorem k188_578 : cd 188 578 = some (1, 0, 0, 0, 0, []) := (kk188 578).trans rfl
set_option maxRecDepth 20000 in
theorem k188_579 : cd 188 579 = some (0, 3, 0, 0, 0, []) := (kk188 579).trans rfl
set_option maxRecDepth 20000 in
theorem k188_580 : cd 188 580 = some (4, 0, 0, 0, 3, []) := (kk188 580).trans rfl
set_option maxRecDepth 20000 in
theorem k188_581 : cd 188 581 = some (8, 0, 0, 0, 0, []) := (kk188 581).trans rfl
set_option maxRecDepth 20000 in
theorem k188_582 : cd 188 582 = some (57, 0, 0, 0, 0, []) := (kk188 582).trans rfl
set_option maxRecDepth 20000 in
theorem k188_583 : cd 188 583 = some (1, 0, 0, 0, 0, []) := (kk188 583).trans rfl
set_option maxRecDepth 20000 in
theorem k188_584 : cd 188 584 = some (0, 3, 0, 0, 0, []) := (kk188 584).trans rfl
set_option maxRecDepth 20000 in
theorem k188_585 : cd 188 585 = some (4, 0, 0, 0, 4, []) := (kk188 585).trans rfl
set_option maxRecDepth 20000 in
theorem k188_586 : cd 188 586 = some (8, 0, 0, 0, 0, []) := (kk188 586).trans rfl
set_option maxRecDepth 20000 in
theorem k188_587 : cd 188 587 = some (57, 0, 0, 0, 0, []) := (kk188 587).trans rfl
set_option maxRecDepth 20000 in
theorem k188_588 : cd 188 588 = some (46, 81, 165, 0, 0, []) := (kk188 588).trans rfl
set_option maxRecDepth 20000 in
theorem k188_591 : cd 188 591 = some (26, 998, 0, 0, 0, []) := (kk188 591).trans rfl
set_option maxRecDepth 20000 in
theorem k188_594 : cd 188 594 = some (4, 0, 0, 0, 0, []) := (kk188 594).trans rfl
set_option maxRecDepth 20000 in
theorem k188_595 : cd 188 595 = some (52, 2, 0, 0, 0, []) := (kk188 595).trans rfl
set_option maxRecDepth 20000 in
theorem k188_596 : cd 188 596 = some (1, 1, 0, 0, 0, []) := (kk188 596).trans rfl
set_option maxRecDepth 20000 in
theorem k188_597 : cd 188 597 = some (1, 0, 0, 0, 0, []) := (kk188 597).trans rfl
set_option maxRecDepth 20000 in
theorem k188_598 : cd 188 598 = some (0, 3, 0, 0, 0, []) := (kk188 598).trans rfl
set_option maxRecDepth 20000 in
theorem k188_599 : cd 188 599 = some (4, 0, 0, 0, 1, []) := (kk188 599).trans rfl
set_option maxRecDepth 20000 in
theorem k188_600 : cd 188 600 = some (8, 0, 0, 0, 0, []) := (kk188 600).trans rfl
set_option maxRecDepth 20000 in
theorem k188_601 : cd 188 601 = some (57, 0, 0, 0, 0, []) := (kk188 601).trans rfl
set_option maxRecDepth 20000 in
theorem k188_602 : cd 188 602 = some (1, 0, 0, 0, 0, []) := (kk188 602).trans rfl
set_option maxRecDepth 20000 in
theorem k188_603 : cd 188 603 = some (0, 3, 0, 0, 0, []) := (kk188 603).trans rfl
set_option maxRecDepth 20000 in
theorem k188_604 : cd 188 604 = some (4, 0, 0, 0, 2, []) := (kk188 604).trans rfl
set_option maxRecDepth 20000 in
theorem k188_605 : cd 188 605 = some (8, 0, 0, 0, 0, []) := (kk188 605).trans rfl
set_option maxRecDepth 20000 in
theorem k188_606 : cd 188 606 = some (57, 0, 0, 0, 0, []) := (kk188 606).trans rfl
set_option maxRecDepth 20000 in
theorem k188_607 : cd 188 607 = some (1, 0, 0, 0, 0, []) := (kk188 607).trans rfl
set_option maxRecDepth 20000 in
theorem k188_608 : cd 188 608 = some (0, 3, 0, 0, 0, []) := (kk188 608).trans rfl
set_option maxRecDepth 20000 in
theorem k188_609 : cd 188 609 = some (4, 0, 0, 0, 3, []) := (kk188 609).trans rfl
set_option maxRecDepth 20000 in
theorem k188_610 : cd 188 610 = some (8, 0, 0, 0, 0, []) := (kk188 610).trans rfl
set_option maxRecDepth 20000 in
theorem k188_611 : cd 188 611 = some (57, 0, 0, 0, 0, []) := (kk188 611).trans rfl
set_option maxRecDepth 20000 in
theorem k188_612 : cd 188 612 = some (46, 82, 85, 0, 0, []) := (kk188 612).trans rfl
set_option maxRecDepth 20000 in
theorem k188_615 : cd 188 615 = some (1, 2, 0, 0, 0, []) := (kk188 615).trans rfl
set_option maxRecDepth 20000 in
theorem k188_616 : cd 188 616 = some (1, 0, 0, 0, 0, []) := (kk188 616).trans rfl
set_option maxRecDepth 20000 in
theorem k188_617 : cd 188 617 = some (0, 3, 0, 0, 0, []) := (kk188 617).trans rfl
set_option maxRecDepth 20000 in
theorem k188_618 : cd 188 618 = some (4, 0, 0, 0, 1, []) := (kk188 618).trans rfl
set_option maxRecDepth 20000 in
theorem k188_619 : cd 188 619 = some (8, 0, 0, 0, 0, []) := (kk188 619).trans rfl
set_option maxRecDepth 20000 in
theorem k188_620 : cd 188 620 = some (57, 0, 0, 0, 0, []) := (kk188 620).trans rfl
set_option maxRecDepth 20000 in
theorem k188_621 : cd 188 621 = some (1, 0, 0, 0, 0, []) := (kk188 621).trans rfl
set_option maxRecDepth 20000 in
theorem k188_622 : cd 188 622 = some (0, 3, 0, 0, 0, []) := (kk188 622).trans rfl
set_option maxRecDepth 20000 in
theorem k188_623 : cd 188 623 = some (4, 0, 0, 0, 2, []) := (kk188 623).trans rfl
set_option maxRecDepth 20000 in
theorem k188_624 : cd 188 624 = some (8, 0, 0, 0, 0, []) := (kk188 624).trans rfl
set_option maxRecDepth 20000 in
theorem k188_625 : cd 188 625 = some (57, 0, 0, 0, 0, []) := (kk188 625).trans rfl
set_option maxRecDepth 20000 in
theorem k188_626 : cd 188 626 = some (1, 0, 0, 0, 0, []) := (kk188 626).trans rfl
set_option maxRecDepth 20000 in
theorem k188_627 : cd 188 627 = some (0, 3, 0, 0, 0, []) := (kk188 627).trans rfl
set_option maxRecDepth 20000 in
theorem k188_628 : cd 188 628 = some (4, 0, 0, 0, 3, []) := (kk188 628).trans rfl
set_option maxRecDepth 20000 in
theorem k188_629 : cd 188 629 = some (8, 0, 0, 0, 0, []) := (kk188 629).trans rfl
set_option maxRecDepth 20000 in
theorem k188_630 : cd 188 630 = some (57, 0, 0, 0, 0, []) := (kk188 630).trans rfl
set_option maxRecDepth 20000 in
theorem k188_631 : cd 188 631 = some (46, 85, 166, 0, 0, []) := (kk188 631).trans rfl
set_option maxRecDepth 20000 in
theorem k188_634 : cd 188 634 = some (26, 998, 0, 0, 0, []) := (kk188 634).trans rfl
set_option maxRecDepth 20000 in
theorem k188_637 : cd 188 637 = some (4, 0, 0, 0, 0, []) := (kk188 637).trans rfl
set_option maxRecDepth 20000 in
theorem k188_638 : cd 188 638 = some (52, 2, 0, 0, 0, []) := (kk188 638).trans rfl
set_option maxRecDepth 20000 in
theorem k188_639 : cd 188 639 = some (1, 1, 0, 0, 0, []) := (kk188 639).trans rfl
set_option maxRecDepth 20000 in
theorem k188_640 : cd 188 640 = some (1, 0, 0, 0, 0, []) := (kk188 640).trans rfl
set_option maxRecDepth 20000 in
theorem k188_641 : cd 188 641 = some (0, 3, 0, 0, 0, []) := (kk188 641).trans rfl
set_option maxRecDepth 20000 in
theorem k188_642 : cd 188 642 = some (4, 0, 0, 0, 1, []) := (kk188 642).trans rfl
set_option maxRecDepth 20000 in
theorem k188_643 : cd 188 643 = some (8, 0, 0, 0, 0, []) := (kk188 643).trans rfl
set_option maxRecDepth 20000 in
theorem k188_644 : cd 188 644 = some (57, 0, 0, 0, 0, []) := (kk188 644).trans rfl
set_option maxRecDepth 20000 in
theorem k188_645 : cd 188 645 = some (1, 0, 0, 0, 0, []) := (kk188 645).trans rfl
set_option maxRecDepth 20000 in
theorem k188_646 : cd 188 646 = some (0, 3, 0, 0, 0, []) := (kk188 646).trans rfl
set_option maxRecDepth 20000 in
theorem k188_647 : cd 188 647 = some (4, 0, 0, 0, 2, []) := (kk188 647).trans rfl
set_option maxRecDepth 20000 in
theorem k188_648 : cd 188 648 = some (8, 0, 0, 0, 0, []) := (kk188 648).trans rfl
set_option maxRecDepth 20000 in
theorem k188_649 : cd 188 649 = some (57, 0, 0, 0, 0, []) := (kk188 649).trans rfl
set_option maxRecDepth 20000 in
theorem k188_650 : cd 188 650 = some (46, 86, 86, 0, 0, []) := (kk188 650).trans rfl
set_option maxRecDepth 20000 in
theorem k188_653 : cd 188 653 = some (1, 2, 0, 0, 0, []) := (kk188 653).trans rfl
set_option maxRecDepth 20000 in
theorem k188_654 : cd 188 654 = some (1, 0, 0, 0, 0, []) := (kk188 654).trans rfl
set_option maxRecDepth 20000 in
theorem k188_655 : cd 188 655 = some (0, 3, 0, 0, 0, []) := (kk188 655).trans rfl
set_option maxRecDepth 20000 in
theorem k188_656 : cd 188 656 = some (4, 0, 0, 0, 1, []) := (kk188 656).trans rfl
set_option maxRecDepth 20000 in
theorem k188_657 : cd 188 657 = some (8, 0, 0, 0, 0, []) := (kk188 657).trans rfl
set_option maxRecDepth 20000 in
theorem k188_658 : cd 188 658 = some (57, 0, 0, 0, 0, []) := (kk188 658).trans rfl
set_option maxRecDepth 20000 in
theorem k188_659 : cd 188 659 = some (1, 0, 0, 0, 0, []) := (kk188 659).trans rfl
set_option maxRecDepth 20000 in
theorem k188_660 : cd 188 660 = some (0, 3, 0, 0, 0, []) := (kk188 660).trans rfl
set_option maxRecDepth 20000 in
theorem k188_661 : cd 188 661 = some (4, 0, 0, 0, 2, []) := (kk188 661).trans rfl
set_option maxRecDepth 20000 in
theorem k188_662 : cd 188 662 = some (8, 0, 0, 0, 0, []) := (kk188 662).trans rfl
set_option maxRecDepth 20000 in
theorem k188_663 : cd 188 663 = some (57, 0, 0, 0, 0, []) := (kk188 663).trans rfl
set_option maxRecDepth 20000 in
theorem k188_664 : cd 188 664 = some (46, 89, 168, 0, 0, []) := (kk188 664).trans rfl
set_option maxRecDepth 20000 in
theorem k188_667 : cd 188 667 = some (26, 998, 0, 0, 0, []) := (kk188 667).trans rfl
set_option maxRecDepth 20000 in
theorem k188_670 : cd 188 670 = some (4, 0, 0, 0, 0, []) := (kk188 670).trans rfl
set_option maxRecDepth 20000 in
theorem k188_671 : cd 188 671 = some (52, 2, 0, 0, 0, []) := (kk188 671).trans rfl
set_option maxRecDepth 20000 in
theorem k188_672 : cd 188 672 = some (1, 1, 0, 0, 0, []) := (kk188 672).trans rfl
set_option maxRecDepth 20000 in
theorem k188_673 : cd 188 673 = some (1, 0, 0, 0, 0, []) := (kk188 673).trans rfl
set_option maxRecDepth 20000 in
theorem k188_674 : cd 188 674 = some (0, 3, 0, 0, 0, []) := (kk188 674).trans rfl
set_option maxRecDepth 20000 in
theorem k188_675 : cd 188 675 = some (4, 0, 0, 0, 1, []) := (kk188 675).trans rfl
set_option maxRecDepth 20000 in
theorem k188_676 : cd 188 676 = some (8, 0, 0, 0, 0, []) := (kk188 676).trans rfl
set_option maxRecDepth 20000 in
theorem k188_677 : cd 188 677 = some (57, 0, 0, 0, 0, []) := (kk188 677).trans rfl
set_option maxRecDepth 20000 in
theorem k188_678 : cd 188 678 = some (46, 90, 87, 0, 0, []) := (kk188 678).trans rfl
set_option maxRecDepth 20000 in
theorem k188_681 : cd 188 681 = some (1, 2, 0, 0, 0, []) := (kk188 681).trans rfl
set_option maxRecDepth 20000 in
theorem k188_682 : cd 188 682 = some (1, 0, 0, 0, 0, []) := (kk188 682).trans rfl
set_option maxRecDepth 20000 in
theorem k188_683 : cd 188 683 = some (0, 3, 0, 0, 0, []) := (kk188 683).trans rfl
set_option maxRecDepth 20000 in
theorem k188_684 : cd 188 684 = some (4, 0, 0, 0, 1, []) := (kk188 684).trans rfl
set_option maxRecDepth 20000 in
theorem k188_685 : cd 188 685 = some (8, 0, 0, 0, 0, []) := (kk188 685).trans rfl
set_option maxRecDepth 20000 in
theorem k188_686 : cd 188 686 = some (57, 0, 0, 0, 0, []) := (kk188 686).trans rfl
set_option maxRecDepth 20000 in
theorem k188_687 : cd 188 687 = some (46, 93, 169, 0, 0, []) := (kk188 687).trans rfl
set_option maxRecDepth 20000 in
theorem k188_690 : cd 188 690 = some (26, 998, 0, 0, 0, []) := (kk188 690).trans rfl
set_option maxRecDepth 20000 in
theorem k188_693 : cd 188 693 = some (4, 0, 0, 0, 0, []) := (kk188 693).trans rfl
set_option maxRecDepth 20000 in
theorem k188_694 : cd 188 694 = some (52, 2, 0, 0, 0, []) := (kk188 694).trans rfl
set_option maxRecDepth 20000 in
theorem k188_695 : cd 188 695 = some (1, 1, 0, 0, 0, []) := (kk188 695).trans rfl
set_option maxRecDepth 20000 in
theorem k188_696 : cd 188 696 = some (1, 0, 0, 0, 0, []) := (kk188 696).trans rfl
set_option maxRecDepth 20000 in
theorem k188_697 : cd 188 697 = some (0, 3, 0, 0, 0, []) := (kk188 697).trans rfl
set_option maxRecDepth 20000 in
theorem k188_698 : cd 188 698 = some (4, 0, 0, 0, 1, []) := (kk188 698).trans rfl
set_option maxRecDepth 20000 in
theorem k188_699 : cd 188 699 = some (8, 0, 0, 0, 0, []) := (kk188 699).trans rfl
set_option maxRecDepth 20000 in
theorem k188_700 : cd 188 700 = some (57, 0, 0, 0, 0, []) := (kk188 700).trans rfl
set_option maxRecDepth 20000 in
theorem k188_701 : cd 188 701 = some (46, 94, 88, 0, 0, []) := (kk188 701).trans rfl
set_option maxRecDepth 20000 in
theorem k188_704 : cd 188 704 = some (1, 2, 0, 0, 0, []) := (kk188 704).trans rfl
set_option maxRecDepth 20000 in
theorem k188_705 : cd 188 705 = some (1, 0, 0, 0, 0, []) := (kk188 705).trans rfl
set_option maxRecDepth 20000 in
theorem k188_706 : cd 188 706 = some (0, 3, 0, 0, 0, []) := (kk188 706).trans rfl
set_option maxRecDepth 20000 in
theorem k188_707 : cd 188 707 = some (4, 0, 0, 0, 1, []) := (kk188 707).trans rfl
set_option maxRecDepth 20000 in
theorem k188_708 : cd 188 708 = some (8, 0, 0, 0, 0, []) := (kk188 708).trans rfl
set_option maxRecDepth 20000 in
theorem k188_709 : cd 188 709 = some (57, 0, 0, 0, 0, []) := (kk188 709).trans rfl
set_option maxRecDepth 20000 in
theorem k188_710 : cd 188 710 = some (46, 97, 170, 0, 0, []) := (kk188 710).trans rfl
set_option maxRecDepth 20000 in
theorem k188_713 : cd 188 713 = some (26, 998, 0, 0, 0, []) := (kk188 713).trans rfl
set_option maxRecDepth 20000 in
theorem k188_716 : cd 188 716 = some (4, 0, 0, 0, 0, []) := (kk188 716).trans rfl
set_option maxRecDepth 20000 in
theorem k188_717 : cd 188 717 = some (52, 2, 0, 0, 0, []) := (kk188 717).trans rfl
set_option maxRecDepth 20000 in
theorem k188_718 : cd 188 718 = some (1, 1, 0, 0, 0, []) := (kk188 718).trans rfl
set_option maxRecDepth 20000 in
theorem k188_719 : cd 188 719 = some (1, 0, 0, 0, 0, []) := (kk188 719).trans rfl
set_option maxRecDepth 20000 in
theorem k188_720 : cd 188 720 = some (0, 3, 0, 0, 0, []) := (kk188 720).trans rfl
set_option maxRecDepth 20000 in
theorem k188_721 : cd 188 721 = some (4, 0, 0, 0, 1, []) := (kk188 721).trans rfl
set_option maxRecDepth 20000 in
theorem k188_722 : cd 188 722 = some (8, 0, 0, 0, 0, []) := (kk188 722).trans rfl
set_option maxRecDepth 20000 in
theorem k188_723 : cd 188 723 = some (57, 0, 0, 0, 0, []) := (kk188 723).trans rfl
set_option maxRecDepth 20000 in
theorem k188_724 : cd 188 724 = some (46, 98, 89, 0, 0, []) := (kk188 724).trans rfl
set_option maxRecDepth 20000 in
theorem k188_727 : cd 188 727 = some (1, 2, 0, 0, 0, []) := (kk188 727).trans rfl
set_option maxRecDepth 20000 in
theorem k188_728 : cd 188 728 = some (1, 0, 0, 0, 0, []) := (kk188 728).trans rfl
set_option maxRecDepth 20000 in
theorem k188_729 : cd 188 729 = some (0, 3, 0, 0, 0, []) := (kk188 729).trans rfl
set_option maxRecDepth 20000 in
theorem k188_730 : cd 188 730 = some (4, 0, 0, 0, 1, []) := (kk188 730).trans rfl
set_option maxRecDepth 20000 in
theorem k188_731 : cd 188 731 = some (8, 0, 0, 0, 0, []) := (kk188 731).trans rfl
set_option maxRecDepth 20000 in
theorem k188_732 : cd 188 732 = some (57, 0, 0, 0, 0, []) := (kk188 732).trans rfl
set_option maxRecDepth 20000 in
theorem k188_733 : cd 188 733 = some (46, 101, 173, 0, 0, []) := (kk188 733).trans rfl
set_option maxRecDepth 20000 in
theorem k188_736 : cd 188 736 = some (26, 998, 0, 0, 0, []) := (kk188 736).trans rfl
set_option maxRecDepth 20000 in
theorem k188_739 : cd 188 739 = some (4, 0, 0, 0, 0, []) := (kk188 739).trans rfl
set_option maxRecDepth 20000 in
theorem k188_740 : cd 188 740 = some (52, 2, 0, 0, 0, []) := (kk188 740).trans rfl
set_option maxRecDepth 20000 in
theorem k188_741 : cd 188 741 = some (1, 1, 0, 0, 0, []) := (kk188 741).trans rfl
set_option maxRecDepth 20000 in
theorem k188_742 : cd 188 742 = some (1, 0, 0, 0, 0, []) := (kk188 742).trans rfl
set_option maxRecDepth 20000 in
theorem k188_743 : cd 188 743 = some (0, 3, 0, 0, 0, []) := (kk188 743).trans rfl
set_option maxRecDepth 20000 in
theorem k188_744 : cd 188 744 = some (4, 0, 0, 0, 1, []) := (kk188 744).trans rfl
set_option maxRecDepth 20000 in
theorem k188_745 : cd 188 745 = some (8, 0, 0, 0, 0, []) := (kk188 745).trans rfl
set_option maxRecDepth 20000 in
theorem k188_746 : cd 188 746 = some (57, 0, 0, 0, 0, []) := (kk188 746).trans rfl
set_option maxRecDepth 20000 in
theorem k188_747 : cd 188 747 = some (1, 0, 0, 0, 0, []) := (kk188 747).trans rfl
set_option maxRecDepth 20000 in
theorem k188_748 : cd 188 748 = some (0, 3, 0, 0, 0, []) := (kk188 748).trans rfl
set_option maxRecDepth 20000 in
theorem k188_749 : cd 188 749 = some (4, 0, 0, 0, 2, []) := (kk188 749).trans rfl
set_option maxRecDepth 20000 in
theorem k188_750 : cd 188 750 = some (8, 0, 0, 0, 0, []) := (kk188 750).trans rfl
set_option maxRecDepth 20000 in
theorem k188_751 : cd 188 751 = some (57, 0, 0, 0, 0, []) := (kk188 751).trans rfl
set_option maxRecDepth 20000 in
theorem k188_752 : cd 188 752 = some (1, 0, 0, 0, 0, []) := (kk188 752).trans rfl
set_option maxRecDepth 20000 in
theorem k188_753 : cd 188 753 = some (0, 3, 0, 0, 0, []) := (kk188 753).trans rfl
set_option maxRecDepth 20000 in
theorem k188_754 : cd 188 754 = some (4, 0, 0, 0, 3, []) := (kk188 754).trans rfl
set_option maxRecDepth 20000 in
theorem k188_755 : cd 188 755 = some (8, 0, 0, 0, 0, []) := (kk188 755).trans rfl
set_option maxRecDepth 20000 in
theorem k188_756 : cd 188 756 = some (57, 0, 0, 0, 0, []) := (kk188 756).trans rfl
set_option maxRecDepth 20000 in
theorem k188_757 : cd 188 757 = some (46, 102, 90, 0, 0, []) := (kk188 757).trans rfl
set_option maxRecDepth 20000 in
theorem k188_760 : cd 188 760 = some (1, 2, 0, 0, 0, []) := (kk188 760).trans rfl
set_option maxRecDepth 20000 in
theorem k188_761 : cd 188 761 = some (1, 0, 0, 0, 0, []) := (kk188 761).trans rfl
set_option maxRecDepth 20000 in
theorem k188_762 : cd 188 762 = some (0, 3, 0, 0, 0, []) := (kk188 762).trans rfl
set_option maxRecDepth 20000 in
theorem k188_763 : cd 188 763 = some (4, 0, 0, 0, 1, []) := (kk188 763).trans rfl
set_option maxRecDepth 20000 in
theorem k188_764 : cd 188 764 = some (8, 0, 0, 0, 0, []) := (kk188 764).trans rfl
set_option maxRecDepth 20000 in
theorem k188_765 : cd 188 765 = some (57, 0, 0, 0, 0, []) := (kk188 765).trans rfl
set_option maxRecDepth 20000 in
theorem k188_766 : cd 188 766 = some (1, 0, 0, 0, 0, []) := (kk188 766).trans rfl
set_option maxRecDepth 20000 in
theorem k188_767 : cd 188 767 = some (0, 3, 0, 0, 0, []) := (kk188 767).trans rfl
set_option maxRecDepth 20000 in
theorem k188_768 : cd 188 768 = some (4, 0, 0, 0, 2, []) := (kk188 768).trans rfl
set_option maxRecDepth 20000 in
theorem k188_769 : cd 188 769 = some (8, 0, 0, 0, 0, []) := (kk188 769).trans rfl
set_option maxRecDepth 20000 in
theorem k188_770 : cd 188 770 = some (57, 0, 0, 0, 0, []) := (kk188 770).trans rfl
set_option maxRecDepth 20000 in
theorem k188_771 : cd 188 771 = some (1, 0, 0, 0, 0, []) := (kk188 771).trans rfl
set_option maxRecDepth 20000 in
theorem k188_772 : cd 188 772 = some (0, 3, 0, 0, 0, []) := (kk188 772).trans rfl
set_option maxRecDepth 20000 in
theorem k188_773 : cd 188 773 = some (4, 0, 0, 0, 3, []) := (kk188 773).trans rfl
set_option maxRecDepth 20000 in
theorem k188_774 : cd 188 774 = some (8, 0, 0, 0, 0, []) := (kk188 774).trans rfl
set_option maxRecDepth 20000 in
theorem k188_775 : cd 188 775 = some (57, 0, 0, 0, 0, []) := (kk188 775).trans rfl
set_option maxRecDepth 20000 in
theorem k188_776 : cd 188 776 = some (46, 105, 175, 0, 0, []) := (kk188 776).trans rfl
set_option maxRecDepth 20000 in
theorem k188_779 : cd 188 779 = some (26, 998, 0, 0, 0, []) := (kk188 779).trans rfl
set_option maxRecDepth 20000 in
theorem k188_782 : cd 188 782 = some (4, 0, 0, 0, 0, []) := (kk188 782).trans rfl
set_option maxRecDepth 20000 in
theorem k188_783 : cd 188 783 = some (52, 2, 0, 0, 0, []) := (kk188 783).trans rfl
set_option maxRecDepth 20000 in
theorem k188_784 : cd 188 784 = some (1, 1, 0, 0, 0, []) := (kk188 784).trans rfl
set_option maxRecDepth 20000 in
theorem k188_785 : cd 188 785 = some (1, 0, 0, 0, 0, []) := (kk188 785).trans rfl
set_option maxRecDepth 20000 in
theorem k188_786 : cd 188 786 = some (0, 3, 0, 0, 0, []) := (kk188 786).trans rfl
set_option maxRecDepth 20000 in
theorem k188_787 : cd 188 787 = some (4, 0, 0, 0, 1, []) := (kk188 787).trans rfl
set_option maxRecDepth 20000 in
theorem k188_788 : cd 188 788 = some (8, 0, 0, 0, 0, []) := (kk188 788).trans rfl
set_option maxRecDepth 20000 in
theorem k188_789 : cd 188 789 = some (57, 0, 0, 0, 0, []) := (kk188 789).trans rfl
set_option maxRecDepth 20000 in
theorem k188_790 : cd 188 790 = some (46, 106, 91, 0, 0, []) := (kk188 790).trans rfl
set_option maxRecDepth 20000 in
theorem k188_793 : cd 188 793 = some (1, 2, 0, 0, 0, []) := (kk188 793).trans rfl
set_option maxRecDepth 20000 in
theorem k188_794 : cd 188 794 = some (1, 0, 0, 0, 0, []) := (kk188 794).trans rfl
set_option maxRecDepth 20000 in
theorem k188_795 : cd 188 795 = some (0, 3, 0, 0, 0, []) := (kk188 795).trans rfl
set_option maxRecDepth 20000 in
theorem k188_796 : cd 188 796 = some (4, 0, 0, 0, 1, []) := (kk188 796).trans rfl
set_option maxRecDepth 20000 in
theorem k188_797 : cd 188 797 = some (8, 0, 0, 0, 0, []) := (kk188 797).trans rfl
set_option maxRecDepth 20000 in
theorem k188_798 : cd 188 798 = some (57, 0, 0, 0, 0, []) := (kk188 798).trans rfl
set_option maxRecDepth 20000 in
theorem k188_799 : cd 188 799 = some (46, 109, 176, 0, 0, []) := (kk188 799).trans rfl
set_option maxRecDepth 20000 in
theorem k188_802 : cd 188 802 = some (26, 998, 0, 0, 0, []) := (kk188 802).trans rfl
set_option maxRecDepth 20000 in
theorem k188_805 : cd 188 805 = some (4, 0, 0, 0, 0, []) := (kk188 805).trans rfl
set_option maxRecDepth 20000 in
theorem k188_806 : cd 188 806 = some (52, 2, 0, 0, 0, []) := (kk188 806).trans rfl
set_option maxRecDepth 20000 in
theorem k188_807 : cd 188 807 = some (1, 1, 0, 0, 0, []) := (kk188 807).trans rfl
set_option maxRecDepth 20000 in
theorem k188_808 : cd 188 808 = some (1, 0, 0, 0, 0, []) := (kk188 808).trans rfl
set_option maxRecDepth 20000 in
theorem k188_809 : cd 188 809 = some (0, 3, 0, 0, 0, []) := (kk188 809).trans rfl
set_option maxRecDepth 20000 in
theorem k188_810 : cd 188 810 = some (4, 0, 0, 0, 1, []) := (kk188 810).trans rfl
set_option maxRecDepth 20000 in
theorem k188_811 : cd 188 811 = some (8, 0, 0, 0, 0, []) := (kk188 811).trans rfl
set_option maxRecDepth 20000 in
theorem k188_812 : cd 188 812 = some (57, 0, 0, 0, 0, []) := (kk188 812).trans rfl
set_option maxRecDepth 20000 in
theorem k188_813 : cd 188 813 = some (1, 0, 0, 0, 0, []) := (kk188 813).trans rfl
set_option maxRecDepth 20000 in
theorem k188_814 : cd 188 814 = some (0, 3, 0, 0, 0, []) := (kk188 814).trans rfl
set_option maxRecDepth 20000 in
theorem k188_815 : cd 188 815 = some (4, 0, 0, 0, 2, []) := (kk188 815).trans rfl
set_option maxRecDepth 20000 in
theorem k188_816 : cd 188 816 = some (8, 0, 0, 0, 0, []) := (kk188 816).trans rfl
set_option maxRecDepth 20000 in
theorem k188_817 : cd 188 817 = some (57, 0, 0, 0, 0, []) := (kk188 817).trans rfl
set_option maxRecDepth 20000 in
theorem k188_818 : cd 188 818 = some (46, 110, 92, 0, 0, []) := (kk188 818).trans rfl
set_option maxRecDepth 20000 in
theorem k188_821 : cd 188 821 = some (1, 2, 0, 0, 0, []) := (kk188 821).trans rfl
set_option maxRecDepth 20000 in
theorem k188_822 : cd 188 822 = some (1, 0, 0, 0, 0, []) := (kk188 822).trans rfl
set_option maxRecDepth 20000 in
theorem k188_823 : cd 188 823 = some (0, 3, 0, 0, 0, []) := (kk188 823).trans rfl
set_option maxRecDepth 20000 in
theorem k188_824 : cd 188 824 = some (4, 0, 0, 0, 1, []) := (kk188 824).trans rfl
set_option maxRecDepth 20000 in
theorem k188_825 : cd 188 825 = some (8, 0, 0, 0, 0, []) := (kk188 825).trans rfl
set_option maxRecDepth 20000 in
theorem k188_826 : cd 188 826 = some (57, 0, 0, 0, 0, []) := (kk188 826).trans rfl
set_option maxRecDepth 20000 in
theorem k188_827 : cd 188 827 = some (1, 0, 0, 0, 0, []) := (kk188 827).trans rfl
set_option maxRecDepth 20000 in
theorem k188_828 : cd 188 828 = some (0, 3, 0, 0, 0, []) := (kk188 828).trans rfl
set_option maxRecDepth 20000 in
theorem k188_829 : cd 188 829 = some (4, 0, 0, 0, 2, []) := (kk188 829).trans rfl
set_option maxRecDepth 20000 in
theorem k188_830 : cd 188 830 = some (8, 0, 0, 0, 0, []) := (kk188 830).trans rfl
set_option maxRecDepth 20000 in
theorem k188_831 : cd 188 831 = some (57, 0, 0, 0, 0, []) := (kk188 831).trans rfl
set_option maxRecDepth 20000 in
theorem k188_832 : cd 188 832 = some (46, 113, 177, 0, 0, []) := (kk188 832).trans rfl
set_option maxRecDepth 20000 in
theorem k188_835 : cd 188 835 = some (26, 998, 0, 0, 0, []) := (kk188 835).trans rfl
set_option maxRecDepth 20000 in
theorem k188_838 : cd 188 838 = some (4, 0, 0, 0, 0, []) := (kk188 838).trans rfl
set_option maxRecDepth 20000 in
theorem k188_839 : cd 188 839 = some (52, 2, 0, 0, 0, []) := (kk188 839).trans rfl
set_option maxRecDepth 20000 in
theorem k188_840 : cd 188 840 = some (1, 1, 0, 0, 0, []) := (kk188 840).trans rfl
set_option maxRecDepth 20000 in
theorem k188_841 : cd 188 841 = some (1, 0, 0, 0, 0, []) := (kk188 841).trans rfl
set_option maxRecDepth 20000 in
theorem k188_842 : cd 188 842 = some (0, 3, 0, 0, 0, []) := (kk188 842).trans rfl
set_option maxRecDepth 20000 in
theorem k188_843 : cd 188 843 = some (4, 0, 0, 0, 1, []) := (kk188 843).trans rfl
set_option maxRecDepth 20000 in
theorem k188_844 : cd 188 844 = some (8, 0, 0, 0, 0, []) := (kk188 844).trans rfl
set_option maxRecDepth 20000 in
theorem k188_845 : cd 188 845 = some (57, 0, 0, 0, 0, []) := (kk188 845).trans rfl
set_option maxRecDepth 20000 in
theorem k188_846 : cd 188 846 = some (1, 0, 0, 0, 0, []) := (kk188 846).trans rfl
set_option maxRecDepth 20000 in
theorem k188_847 : cd 188 847 = some (0, 3, 0, 0, 0, []) := (kk188 847).trans rfl
set_option maxRecDepth 20000 in
theorem k188_848 : cd 188 848 = some (4, 0, 0, 0, 2, []) := (kk188 848).trans rfl
set_option maxRecDepth 20000 in
theorem k188_849 : cd 188 849 = some (8, 0, 0, 0, 0, []) := (kk188 849).trans rfl
set_option maxRecDepth 20000 in
theorem k188_850 : cd 188 850 = some (57, 0, 0, 0, 0, []) := (kk188 850).trans rfl
set_option maxRecDepth 20000 in
theorem k188_851 : cd 188 851 = some (46, 114, 93, 0, 0, []) := (kk188 851).trans rfl
set_option maxRecDepth 20000 in
theorem k188_854 : cd 188 854 = some (1, 2, 0, 0, 0, []) := (kk188 854).trans rfl
set_option maxRecDepth 20000 in
theorem k188_855 : cd 188 855 = some (1, 0, 0, 0, 0, []) := (kk188 855).trans rfl
set_option maxRecDepth 20000 in
theorem k188_856 : cd 188 856 = some (0, 3, 0, 0, 0, []) := (kk188 856).trans rfl
set_option maxRecDepth 20000 in
theorem k188_857 : cd 188 857 = some (4, 0, 0, 0, 1, []) := (kk188 857).trans rfl
set_option maxRecDepth 20000 in
theorem k188_858 : cd 188 858 = some (8, 0, 0, 0, 0, []) := (kk188 858).trans rfl
set_option maxRecDepth 20000 in
theorem k188_859 : cd 188 859 = some (57, 0, 0, 0, 0, []) := (kk188 859).trans rfl
set_option maxRecDepth 20000 in
theorem k188_860 : cd 188 860 = some (1, 0, 0, 0, 0, []) := (kk188 860).trans rfl
set_option maxRecDepth 20000 in
theorem k188_861 : cd 188 861 = some (0, 3, 0, 0, 0, []) := (kk188 861).trans rfl
set_option maxRecDepth 20000 in
theorem k188_862 : cd 188 862 = some (4, 0, 0, 0, 2, []) := (kk188 862).trans rfl
set_option maxRecDepth 20000 in
theorem k188_863 : cd 188 863 = some (8, 0, 0, 0, 0, []) := (kk188 863).trans rfl
set_option maxRecDepth 20000 in
theorem k188_864 : cd 188 864 = some (57, 0, 0, 0, 0, []) := (kk188 864).trans rfl
set_option maxRecDepth 20000 in
theorem k188_865 : cd 188 865 = some (46, 117, 181, 0, 0, []) := (kk188 865).trans rfl
set_option maxRecDepth 20000 in
theorem k188_868 : cd 188 868 = some (26, 998, 0, 0, 0, []) := (kk188 868).trans rfl
set_option maxRecDepth 20000 in
theorem k188_871 : cd 188 871 = some (4, 0, 0, 0, 0, []) := (kk188 871).trans rfl
set_option maxRecDepth 20000 in
theorem k188_872 : cd 188 872 = some (52, 2, 0, 0, 0, []) := (kk188 872).trans rfl
set_option maxRecDepth 20000 in
theorem k188_873 : cd 188 873 = some (1, 1, 0, 0, 0, []) := (kk188 873).trans rfl
set_option maxRecDepth 20000 in
theorem k188_874 : cd 188 874 = some (1, 0, 0, 0, 0, []) := (kk188 874).trans rfl
set_option maxRecDepth 20000 in
theorem k188_875 : cd 188 875 = some (0, 3, 0, 0, 0, []) := (kk188 875).trans rfl
set_option maxRecDepth 20000 in
theorem k188_876 : cd 188 876 = some (4, 0, 0, 0, 1, []) := (kk188 876).trans rfl
set_option maxRecDepth 20000 in
theorem k188_877 : cd 188 877 = some (8, 0, 0, 0, 0, []) := (kk188 877).trans rfl
set_option maxRecDepth 20000 in
theorem k188_878 : cd 188 878 = some (57, 0, 0, 0, 0, []) := (kk188 878).trans rfl
set_option maxRecDepth 20000 in
theorem k188_879 : cd 188 879 = some (1, 0, 0, 0, 0, []) := (kk188 879).trans rfl
set_option maxRecDepth 20000 in
theorem k188_880 : cd 188 880 = some (0, 3, 0, 0, 0, []) := (kk188 880).trans rfl
set_option maxRecDepth 20000 in
theorem k188_881 : cd 188 881 = some (4, 0, 0, 0, 2, []) := (kk188 881).trans rfl
set_option maxRecDepth 20000 in
theorem k188_882 : cd 188 882 = some (8, 0, 0, 0, 0, []) := (kk188 882).trans rfl
set_option maxRecDepth 20000 in
theorem k188_883 : cd 188 883 = some (57, 0, 0, 0, 0, []) := (kk188 883).trans rfl
set_option maxRecDepth 20000 in
theorem k188_884 : cd 188 884 = some (1, 0, 0, 0, 0, []) := (kk188 884).trans rfl
set_option maxRecDepth 20000 in
theorem k188_885 : cd 188 885 = some (0, 3, 0, 0, 0, []) := (kk188 885).trans rfl
set_option maxRecDepth 20000 in
theorem k188_886 : cd 188 886 = some (4, 0, 0, 0, 3, []) := (kk188 886).trans rfl
set_option maxRecDepth 20000 in
theorem k188_887 : cd 188 887 = some (8, 0, 0, 0, 0, []) := (kk188 887).trans rfl
set_option maxRecDepth 20000 in
theorem k188_888 : cd 188 888 = some (57, 0, 0, 0, 0, []) := (kk188 888).trans rfl
set_option maxRecDepth 20000 in
theorem k188_889 : cd 188 889 = some (46, 118, 94, 0, 0, []) := (kk188 889).trans rfl
set_option maxRecDepth 20000 in
theorem k188_892 : cd 188 892 = some (1, 2, 0, 0, 0, []) := (kk188 892).trans rfl
set_option maxRecDepth 20000 in
theorem k188_893 : cd 188 893 = some (1, 0, 0, 0, 0, []) := (kk188 893).trans rfl
set_option maxRecDepth 20000 in
theorem k188_894 : cd 188 894 = some (0, 3, 0, 0, 0, []) := (kk188 894).trans rfl
set_option maxRecDepth 20000 in
theorem k188_895 : cd 188 895 = some (4, 0, 0, 0, 1, []) := (kk188 895).trans rfl
set_option maxRecDepth 20000 in
theorem k188_896 : cd 188 896 = some (8, 0, 0, 0, 0, []) := (kk188 896).trans rfl
set_option maxRecDepth 20000 in
theorem k188_897 : cd 188 897 = some (57, 0, 0, 0, 0, []) := (kk188 897).trans rfl
set_option maxRecDepth 20000 in
theorem k188_898 : cd 188 898 = some (1, 0, 0, 0, 0, []) := (kk188 898).trans rfl
set_option maxRecDepth 20000 in
theorem k188_899 : cd 188 899 = some (0, 3, 0, 0, 0, []) := (kk188 899).trans rfl
set_option maxRecDepth 20000 in
theorem k188_900 : cd 188 900 = some (4, 0, 0, 0, 2, []) := (kk188 900).trans rfl
set_option maxRecDepth 20000 in
theorem k188_901 : cd 188 901 = some (8, 0, 0, 0, 0, []) := (kk188 901).trans rfl
set_option maxRecDepth 20000 in
theorem k188_902 : cd 188 902 = some (57, 0, 0, 0, 0, []) := (kk188 902).trans rfl
set_option maxRecDepth 20000 in
theorem k188_903 : cd 188 903 = some (1, 0, 0, 0, 0, []) := (kk188 903).trans rfl
set_option maxRecDepth 20000 in
theorem k188_904 : cd 188 904 = some (0, 3, 0, 0, 0, []) := (kk188 904).trans rfl
set_option maxRecDepth 20000 in
theorem k188_905 : cd 188 905 = some (4, 0, 0, 0, 3, []) := (kk188 905).trans rfl
set_option maxRecDepth 20000 in
theorem k188_906 : cd 188 906 = some (8, 0, 0, 0, 0, []) := (kk188 906).trans rfl
set_option maxRecDepth 20000 in
theorem k188_907 : cd 188 907 = some (57, 0, 0, 0, 0, []) := (kk188 907).trans rfl
set_option maxRecDepth 20000 in
theorem k188_908 : cd 188 908 = some (46, 121, 182, 0, 0, []) := (kk188 908).trans rfl
set_option maxRecDepth 20000 in
theorem k188_911 : cd 188 911 = some (26, 998, 0, 0, 0, []) := (kk188 911).trans rfl
set_option maxRecDepth 20000 in
theorem k188_914 : cd 188 914 = some (4, 0, 0, 0, 0, []) := (kk188 914).trans rfl
set_option maxRecDepth 20000 in
theorem k188_915 : cd 188 915 = some (52, 2, 0, 0, 0, []) := (kk188 915).trans rfl
set_option maxRecDepth 20000 in
theorem k188_916 : cd 188 916 = some (1, 1, 0, 0, 0, []) := (kk188 916).trans rfl
set_option maxRecDepth 20000 in
theorem k188_917 : cd 188 917 = some (46, 122, 95, 0, 0, []) := (kk188 917).trans rfl
set_option maxRecDepth 20000 in
theorem k188_920 : cd 188 920 = some (1, 2, 0, 0, 0, []) := (kk188 920).trans rfl
set_option maxRecDepth 20000 in
theorem k188_921 : cd 188 921 = some (46, 125, 183, 0, 0, []) := (kk188 921).trans rfl
set_option maxRecDepth 20000 in
theorem k188_924 : cd 188 924 = some (26, 998, 0, 0, 0, []) := (kk188 924).trans rfl
set_option maxRecDepth 20000 in
theorem k188_927 : cd 188 927 = some (4, 0, 0, 0, 0, []) := (kk188 927).trans rfl
set_option maxRecDepth 20000 in
theorem k188_928 : cd 188 928 = some (52, 2, 0, 0, 0, []) := (kk188 928).trans rfl
set_option maxRecDepth 20000 in
theorem k188_929 : cd 188 929 = some (1, 1, 0, 0, 0, []) := (kk188 929).trans rfl
set_option maxRecDepth 20000 in
theorem k188_930 : cd 188 930 = some (1, 0, 0, 0, 0, []) := (kk188 930).trans rfl
set_option maxRecDepth 20000 in
theorem k188_931 : cd 188 931 = some (0, 3, 0, 0, 0, []) := (kk188 931).trans rfl
set_option maxRecDepth 20000 in
theorem k188_932 : cd 188 932 = some (4, 0, 0, 0, 1, []) := (kk188 932).trans rfl
set_option maxRecDepth 20000 in
theorem k188_933 : cd 188 933 = some (8, 0, 0, 0, 0, []) := (kk188 933).trans rfl
set_option maxRecDepth 20000 in
theorem k188_934 : cd 188 934 = some (57, 0, 0, 0, 0, []) := (kk188 934).trans rfl
set_option maxRecDepth 20000 in
theorem k188_935 : cd 188 935 = some (1, 0, 0, 0, 0, []) := (kk188 935).trans rfl
set_option maxRecDepth 20000 in
theorem k188_936 : cd 188 936 = some (0, 3, 0, 0, 0, []) := (kk188 936).trans rfl
set_option maxRecDepth 20000 in
theorem k188_937 : cd 188 937 = some (4, 0, 0, 0, 2, []) := (kk188 937).trans rfl
set_option maxRecDepth 20000 in
theorem k188_938 : cd 188 938 = some (8, 0, 0, 0, 0, []) := (kk188 938).trans rfl
set_option maxRecDepth 20000 in
theorem k188_939 : cd 188 939 = some (57, 0, 0, 0, 0, []) := (kk188 939).trans rfl
set_option maxRecDepth 20000 in
theorem k188_940 : cd 188 940 = some (46, 126, 96, 0, 0, []) := (kk188 940).trans rfl
set_option maxRecDepth 20000 in
theorem k188_943 : cd 188 943 = some (1, 2, 0, 0, 0, []) := (kk188 943).trans rfl
set_option maxRecDepth 20000 in
theorem k188_944 : cd 188 944 = some (1, 0, 0, 0, 0, []) := (kk188 944).trans rfl
set_option maxRecDepth 20000 in
theorem k188_945 : cd 188 945 = some (0, 3, 0, 0, 0, []) := (kk188 945).trans rfl
set_option maxRecDepth 20000 in
theorem k188_946 : cd 188 946 = some (4, 0, 0, 0, 1, []) := (kk188 946).trans rfl
set_option maxRecDepth 20000 in
theorem k188_947 : cd 188 947 = some (8, 0, 0, 0, 0, []) := (kk188 947).trans rfl
set_option maxRecDepth 20000 in
theorem k188_948 : cd 188 948 = some (57, 0, 0, 0, 0, []) := (kk188 948).trans rfl
set_option maxRecDepth 20000 in
theorem k188_949 : cd 188 949 = some (1, 0, 0, 0, 0, []) := (kk188 949).trans rfl
set_option maxRecDepth 20000 in
theorem k188_950 : cd 188 950 = some (0, 3, 0, 0, 0, []) := (kk188 950).trans rfl
set_option maxRecDepth 20000 in
theorem k188_951 : cd 188 951 = some (4, 0, 0, 0, 2, []) := (kk188 951).trans rfl
set_option maxRecDepth 20000 in
theorem k188_952 : cd 188 952 = some (8, 0, 0, 0, 0, []) := (kk188 952).trans rfl
set_option maxRecDepth 20000 in
theorem k188_953 : cd 188 953 = some (57, 0, 0, 0, 0, []) := (kk188 953).trans rfl
set_option maxRecDepth 20000 in
theorem k188_954 : cd 188 954 = some (46, 129, 184, 0, 0, []) := (kk188 954).trans rfl
set_option maxRecDepth 20000 in
theorem k188_957 : cd 188 957 = some (26, 998, 0, 0, 0, []) := (kk188 957).trans rfl
set_option maxRecDepth 20000 in
theorem k188_960 : cd 188 960 = some (4, 0, 0, 0, 0, []) := (kk188 960).trans rfl
set_option maxRecDepth 20000 in
theorem k188_961 : cd 188 961 = some (52, 2, 0, 0, 0, []) := (kk188 961).trans rfl
set_option maxRecDepth 20000 in
theorem k188_962 : cd 188 962 = some (1, 1, 0, 0, 0, []) := (kk188 962).trans rfl
set_option maxRecDepth 20000 in
theorem k188_963 : cd 188 963 = some (46, 130, 97, 0, 0, []) := (kk188 963).trans rfl
set_option maxRecDepth 20000 in
theorem k188_966 : cd 188 966 = some (1, 2, 0, 0, 0, []) := (kk188 966).trans rfl
set_option maxRecDepth 20000 in
theorem k188_967 : cd 188 967 = some (46, 133, 186, 0, 0, []) := (kk188 967).trans rfl
set_option maxRecDepth 20000 in
theorem k188_970 : cd 188 970 = some (26, 998, 0, 0, 0, []) := (kk188 970).trans rfl
set_option maxRecDepth 20000 in
theorem k188_973 : cd 188 973 = some (4, 0, 0, 0, 0, []) := (kk188 973).trans rfl
set_option maxRecDepth 20000 in
theorem k188_974 : cd 188 974 = some (52, 2, 0, 0, 0, []) := (kk188 974).trans rfl
set_option maxRecDepth 20000 in
theorem k188_975 : cd 188 975 = some (1, 1, 0, 0, 0, []) := (kk188 975).trans rfl
set_option maxRecDepth 20000 in
theorem k188_976 : cd 188 976 = some (1, 0, 0, 0, 0, []) := (kk188 976).trans rfl
set_option maxRecDepth 20000 in
theorem k188_977 : cd 188 977 = some (0, 3, 0, 0, 0, []) := (kk188 977).trans rfl
set_option maxRecDepth 20000 in
theorem k188_978 : cd 188 978 = some (4, 0, 0, 0, 1, []) := (kk188 978).trans rfl
set_option maxRecDepth 20000 in
theorem k188_979 : cd 188 979 = some (8, 0, 0, 0, 0, []) := (kk188 979).trans rfl
set_option maxRecDepth 20000 in
theorem k188_980 : cd 188 980 = some (57, 0, 0, 0, 0, []) := (kk188 980).trans rfl
set_option maxRecDepth 20000 in
theorem k188_981 : cd 188 981 = some (46, 134, 98, 0, 0, []) := (kk188 981).trans rfl
set_option maxRecDepth 20000 in
theorem k188_984 : cd 188 984 = some (1, 2, 0, 0, 0, []) := (kk188 984).trans rfl
set_option maxRecDepth 20000 in
theorem k188_985 : cd 188 985 = some (1, 0, 0, 0, 0, []) := (kk188 985).trans rfl
set_option maxRecDepth 20000 in
theorem k188_986 : cd 188 986 = some (0, 3, 0, 0, 0, []) := (kk188 986).trans rfl
set_option maxRecDepth 20000 in
theorem k188_987 : cd 188 987 = some (4, 0, 0, 0, 1, []) := (kk188 987).trans rfl
set_option maxRecDepth 20000 in
theorem k188_988 : cd 188 988 = some (8, 0, 0, 0, 0, []) := (kk188 988).trans rfl
set_option maxRecDepth 20000 in
theorem k188_989 : cd 188 989 = some (57, 0, 0, 0, 0, []) := (kk188 989).trans rfl
set_option maxRecDepth 20000 in
theorem k188_990 : cd 188 990 = some (46, 137, 187, 0, 0, []) := (kk188 990).trans rfl
set_option maxRecDepth 20000 in
theorem k188_993 : cd 188 993 = some (26, 998, 0, 0, 0, []) := (kk188 993).trans rfl
set_option maxRecDepth 20000 in
theorem k188_996 : cd 188 996 = some (4, 0, 0, 0, 0, []) := (kk188 996).trans rfl
set_option maxRecDepth 20000 in
theorem k188_997 : cd 188 997 = some (52, 2, 0, 0, 0, []) := (kk188 997).trans rfl
set_option maxRecDepth 20000 in
theorem k188_998 : cd 188 998 = some (13, 3, 0, 0, 5, []) := (kk188 998).trans rfl
set_option maxRecDepth 20000 in
theorem k188_1001 : cd 188 1001 = some (19, 18, 0, 0, 0, []) := (kk188 1001).trans rfl
set_option maxRecDepth 20000 in
theorem k188_1004 : cd 188 1004 = some (4, 0, 0, 0, 1, []) := (kk188 1004).trans rfl
set_option maxRecDepth 20000 in
theorem k188_1005 : cd 188 1005 = some (52, 2, 0, 0, 0, []) := (kk188 1005).trans rfl
