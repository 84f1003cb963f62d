/-! ===== LAW: one call after the other ===== -/
section L91
variable {X : Nat × (Int → Int)} {d : Nat} {sh : List (Nat × Nat)} {R : Nat → Nat → Option Nat} {I : Nat → Int → Int} {K H E HO S L B : Int} {ρ γ : Nat → Nat} {M : Nat} {A A1 A2 : AS} {u : Int} {tx : Int → Int} {len : Int} {n bc bs : Nat} {i : Int}
theorem lc0 (ih : LAWG X d n) (hX : X.1 ≤ 2560) (hi : 0 ≤ i ∧ i ≤ (X.1 : Int) - 5) (hn : (X.1 : Int) - i < 5 * ((n : Int) + 1 + 1)) (hW : LWI sh R I K H E HO S L B ρ γ M (A, A1, A2, u) tx len (n + 1) bc bs) : WP X (d + 10) 188 168 [.inr (some SCR), .inr (some 0), .inr (some 57), .inl i] [] (sh, R, I) bc bs (fun r _ => r = .inl 1) := by
  obtain ⟨hG, hM0, hBn, hMs⟩ := hW
  have hG : CG sh R I K H E HO S L B ρ γ M A A1 A2 u tx len := hG
  have hF := hG.cf
  have hL := hG.1
  have hM := hM0.1.1
  have t7 := (hG.2.2.2.1 7 (by decide) (by decide)).2
  refine w_aload (pc' := 169) k188_168 rfl rfl ?_
  refine w_aload (pc' := 170) k188_169 rfl rfl ?_
  refine w_iload (pc' := 171) k188_170 rfl rfl ?_
  refine w_c1 (pc' := 172) k188_171 rfl ?_
  refine w_iadd (pc' := 173) k188_172 rfl (by omega) ?_
  refine w_sld (pc' := 174) k188_173 rfl (by omega) ?_
  refine w_callI (pc' := 177) (as := [.inr (some 0), .inl _]) k188_174 rfl rfl (co_v rfl rfl (hL.1 0 (10, 12) rfl)) (by decide) (m69 hG (by omega)) (fun z_174 h_174 hq => ?_)
  obtain ⟨e9, R_1, I_1, ρ_1, rfl, i1, rf1, g1⟩ := hq
  obtain rfl := Sum.inl.inj e9
  have hM1 := hM0.kc (hM.rf rf1) i1
  refine w_aload (pc' := 178) k188_177 rfl rfl ?_
  refine w_aload (pc' := 179) k188_178 rfl rfl ?_
  refine w_iload (pc' := 180) k188_179 rfl rfl ?_
  refine w_c1 (pc' := 181) k188_180 rfl ?_
  refine w_iadd (pc' := 182) k188_181 rfl (by omega) ?_
  refine w_sld (pc' := 183) k188_182 rfl (by omega) ?_
  refine w_callI (pc' := 186) (as := [.inr (some 57), .inl _]) k188_183 rfl rfl (co_v rfl rfl (hM.1 57 (11, 30) rfl)) (by decide) (m125 hM1 (by omega)) (fun z_183 h_183 hq => ?_)
  obtain ⟨e8, I_2, rfl, i2, g2⟩ := hq
  obtain rfl := Sum.inl.inj e8
  refine w_ic_eq (pc' := 189) k188_186 rfl (fun c_186 => ?_) (fun c_186 => absurd c_186 (fun z9 => z9 rfl))
  refine w_iinc (pc' := 1001) (ls' := [_, _, _, _]) k188_998 rfl rfl (by omega) rfl ?_
  refine w_goto k188_1001 ?_
  exact ih _ _ _ _ K H E HO S L (B + 1) _ _ _ (A, A1, A2, u) (wrT tx len (X.2 (i + 1))) (wrL len (X.2 (i + 1))) _ _ ⟨CG.km g1 (fun a q => i2 a q), g2, by omega, hMs⟩ (by omega) (by omega)
theorem lc1 (ih : LAWG X d n) (hX : X.1 ≤ 2560) (hi : 0 ≤ i ∧ i ≤ (X.1 : Int) - 5) (hn : (X.1 : Int) - i < 5 * ((n : Int) + 1 + 1)) (hW : LWI sh R I K H E HO S L B ρ γ M (A, A1, A2, u) tx len (n + 1) bc bs) : WP X (d + 10) 188 191 [.inr (some SCR), .inr (some 0), .inr (some 57), .inl i] [] (sh, R, I) bc bs (fun r _ => r = .inl 1) := by
  obtain ⟨hG, hM0, hBn, hMs⟩ := hW
  have hG : CG sh R I K H E HO S L B ρ γ M A A1 A2 u tx len := hG
  have hF := hG.cf
  have hL := hG.1
  have hM := hM0.1.1
  have t7 := (hG.2.2.2.1 7 (by decide) (by decide)).2
  refine w_aload (pc' := 192) k188_191 rfl rfl ?_
  refine w_callI (pc' := 195) (as := [.inr (some 0)]) k188_192 rfl rfl (co_v rfl rfl (hL.1 0 (10, 12) rfl)) (by decide) (m70 hG (by omega)) (fun z_192 h_192 hq => ?_)
  obtain ⟨e9, R_1, I_1, ρ_1, rfl, i1, rf1, g1⟩ := hq
  obtain rfl := Sum.inl.inj e9
  have hM1 := hM0.kc (hM.rf rf1) i1
  refine w_aload (pc' := 196) k188_195 rfl rfl ?_
  refine w_callI (pc' := 199) (as := [.inr (some 57)]) k188_196 rfl rfl (co_v rfl rfl (hM.1 57 (11, 30) rfl)) (by decide) (m126 hM1 (by omega)) (fun z_196 h_196 hq => ?_)
  obtain ⟨e8, I_2, rfl, i2, g2⟩ := hq
  obtain rfl := Sum.inl.inj e8
  refine w_ic_eq (pc' := 202) k188_199 rfl (fun c_199 => ?_) (fun c_199 => absurd c_199 (fun z9 => z9 rfl))
  refine w_iinc (pc' := 1001) (ls' := [_, _, _, _]) k188_998 rfl rfl (by omega) rfl ?_
  refine w_goto k188_1001 ?_
  exact ih _ _ _ _ K H E HO S L (B + 1) _ _ _ (A, A1, A2, u) tx 0 _ _ ⟨CG.km g1 (fun a q => i2 a q), g2, by omega, hMs⟩ (by omega) (by omega)
theorem lc2 (ih : LAWG X d n) (hX : X.1 ≤ 2560) (hi : 0 ≤ i ∧ i ≤ (X.1 : Int) - 5) (hn : (X.1 : Int) - i < 5 * ((n : Int) + 1 + 1)) (hW : LWI sh R I K H E HO S L B ρ γ M (A, A1, A2, u) tx len (n + 1) bc bs) : WP X (d + 10) 188 204 [.inr (some SCR), .inr (some 0), .inr (some 57), .inl i] [] (sh, R, I) bc bs (fun r _ => r = .inl 1) := by
  obtain ⟨hG, hM0, hBn, hMs⟩ := hW
  have hG : CG sh R I K H E HO S L B ρ γ M A A1 A2 u tx len := hG
  have hF := hG.cf
  have hL := hG.1
  have hM := hM0.1.1
  have t7 := (hG.2.2.2.1 7 (by decide) (by decide)).2
  refine w_aload (pc' := 205) k188_204 rfl rfl ?_
  refine w_callI (pc' := 208) (as := [.inr (some 0)]) k188_205 rfl rfl (co_v rfl rfl (hL.1 0 (10, 12) rfl)) (by decide) (m71 hG (by omega)) (fun z_205 h_205 hq => ?_)
  obtain ⟨v9, stE9, e9, p9, I_1, rfl, i1, g1⟩ := hq
  obtain rfl := Sum.inl.inj e9
  have hM1 := hM0.kc hM i1
  refine w_aload (pc' := 209) k188_208 rfl rfl ?_
  refine w_callI (pc' := 212) (as := [.inr (some 57)]) k188_209 rfl rfl (co_v rfl rfl (hM.1 57 (11, 30) rfl)) (by decide) (m127 hM hM1.2.2.2) (fun z_209 h_209 hq => ?_)
  obtain ⟨v8, stE8, I_2, e8, rfl, sx, p8, _⟩ := hq
  obtain rfl := Sum.inl.inj e8
  obtain rfl := (readR_fn 300 300 p9 p8).1
  refine w_ic_eq (pc' := 215) k188_212 rfl (fun c_212 => ?_) (fun c_212 => absurd c_212 (fun z9 => z9 rfl))
  refine w_iinc (pc' := 1001) (ls' := [_, _, _, _]) k188_998 rfl rfl (by omega) rfl ?_
  refine w_goto k188_1001 ?_
  exact ih _ _ _ _ K H E HO S L (B + 1) _ _ _ (A, A1, A2, u) tx len _ _ ⟨g1.km (fun a q => sx.1 a (by omega) (by omega) (by omega)), (hM1.sx sx).mono (by omega) (by omega), by omega, hMs⟩ (by omega) (by omega)
theorem lc4 (ih : LAWG X d n) (hX : X.1 ≤ 2560) (hi : 0 ≤ i ∧ i ≤ (X.1 : Int) - 5) (hn : (X.1 : Int) - i < 5 * ((n : Int) + 1 + 1)) (hW : LWI sh R I K H E HO S L B ρ γ M (A, A1, A2, u) tx len (n + 1) bc bs) : WP X (d + 10) 188 230 [.inr (some SCR), .inr (some 0), .inr (some 57), .inl i] [] (sh, R, I) bc bs (fun r _ => r = .inl 1) := by
  obtain ⟨hG, hM0, hBn, hMs⟩ := hW
  have hG : CG sh R I K H E HO S L B ρ γ M A A1 A2 u tx len := hG
  have hF := hG.cf
  have hL := hG.1
  have hM := hM0.1.1
  have t7 := (hG.2.2.2.1 7 (by decide) (by decide)).2
  have hM1 := hM0
  have hG1 := hG
  have hMF1 : MF sh R I K H E HO S L B A := hM1.1
  refine w_aload (pc' := 231) k188_230 rfl rfl ?_
  refine w_aload (pc' := 232) k188_231 rfl rfl ?_
  refine w_iload (pc' := 233) k188_232 rfl rfl ?_
  refine w_c1 (pc' := 234) k188_233 rfl ?_
  refine w_iadd (pc' := 235) k188_234 rfl (by omega) ?_
  refine w_sld (pc' := 236) k188_235 rfl (by omega) ?_
  refine w_aload (pc' := 237) k188_236 rfl rfl ?_
  refine w_iload (pc' := 238) k188_237 rfl rfl ?_
  refine w_c1 (pc' := 239) k188_238 rfl ?_
  refine w_iadd (pc' := 240) k188_239 rfl (by omega) ?_
  refine w_sld (pc' := 241) k188_240 rfl (by omega) ?_
  refine w_aload (pc' := 242) k188_241 rfl rfl ?_
  refine w_iload (pc' := 243) k188_242 rfl rfl ?_
  refine w_c1 (pc' := 244) k188_243 rfl ?_
  refine w_iadd (pc' := 245) k188_244 rfl (by omega) ?_
  refine w_sld (pc' := 246) k188_245 rfl (by omega) ?_
  refine w_callE (pc' := 249) (as := [.inr (some 0), .inl _, .inl _, .inl _]) k188_246 rfl rfl (co_v rfl rfl (hL.1 0 (10, 12) rfl)) (by decide) (m73 hF) ?_
  refine w_aload (pc' := 250) k188_249 rfl rfl ?_
  refine w_aload (pc' := 251) k188_250 rfl rfl ?_
  refine w_iload (pc' := 252) k188_251 rfl rfl ?_
  refine w_c1 (pc' := 253) k188_252 rfl ?_
  refine w_iadd (pc' := 254) k188_253 rfl (by omega) ?_
  refine w_sld (pc' := 255) k188_254 rfl (by omega) ?_
  refine w_aload (pc' := 256) k188_255 rfl rfl ?_
  refine w_iload (pc' := 257) k188_256 rfl rfl ?_
  refine w_c1 (pc' := 258) k188_257 rfl ?_
  refine w_iadd (pc' := 259) k188_258 rfl (by omega) ?_
  refine w_sld (pc' := 260) k188_259 rfl (by omega) ?_
  refine w_aload (pc' := 261) k188_260 rfl rfl ?_
  refine w_iload (pc' := 262) k188_261 rfl rfl ?_
  refine w_c1 (pc' := 263) k188_262 rfl ?_
  refine w_iadd (pc' := 264) k188_263 rfl (by omega) ?_
  refine w_sld (pc' := 265) k188_264 rfl (by omega) ?_
  refine w_callE (pc' := 268) (as := [.inr (some 57), .inl _, .inl _, .inl _]) k188_265 rfl rfl (co_v rfl rfl (hM.1 57 (11, 30) rfl)) (by decide) (m144 hMF1) ?_
  refine w_ic_eq (pc' := 271) k188_268 rfl (fun c_268 => ?_) (fun c_268 => absurd c_268 (fun z9 => z9 rfl))
  refine w_iinc (pc' := 1001) (ls' := [_, _, _, _]) k188_998 rfl rfl (by omega) rfl ?_
  refine w_goto k188_1001 ?_
  exact ih _ _ _ _ K H E HO S L (B) _ _ _ (A, A1, A2, u) tx len _ _ ⟨hG1, hM1, by omega, hMs⟩ (by omega) (by omega)
theorem lc5 (ih : LAWG X d n) (hX : X.1 ≤ 2560) (hi : 0 ≤ i ∧ i ≤ (X.1 : Int) - 5) (hn : (X.1 : Int) - i < 5 * ((n : Int) + 1 + 1)) (hW : LWI sh R I K H E HO S L B ρ γ M (A, A1, A2, u) tx len (n + 1) bc bs) : WP X (d + 10) 188 273 [.inr (some SCR), .inr (some 0), .inr (some 57), .inl i] [] (sh, R, I) bc bs (fun r _ => r = .inl 1) := by
  obtain ⟨hG, hM0, hBn, hMs⟩ := hW
  have hG : CG sh R I K H E HO S L B ρ γ M A A1 A2 u tx len := hG
  have hF := hG.cf
  have hL := hG.1
  have hM := hM0.1.1
  have t7 := (hG.2.2.2.1 7 (by decide) (by decide)).2
  have hM1 := hM0
  have hG1 := hG
  have hMF1 : MF sh R I K H E HO S L B A := hM1.1
  refine w_aload (pc' := 274) k188_273 rfl rfl ?_
  refine w_aload (pc' := 275) k188_274 rfl rfl ?_
  refine w_iload (pc' := 276) k188_275 rfl rfl ?_
  refine w_c1 (pc' := 277) k188_276 rfl ?_
  refine w_iadd (pc' := 278) k188_277 rfl (by omega) ?_
  refine w_sld (pc' := 279) k188_278 rfl (by omega) ?_
  refine w_aload (pc' := 280) k188_279 rfl rfl ?_
  refine w_iload (pc' := 281) k188_280 rfl rfl ?_
  refine w_c1 (pc' := 282) k188_281 rfl ?_
  refine w_iadd (pc' := 283) k188_282 rfl (by omega) ?_
  refine w_sld (pc' := 284) k188_283 rfl (by omega) ?_
  refine w_callE (pc' := 287) (as := [.inr (some 0), .inl _, .inl _]) k188_284 rfl rfl (co_v rfl rfl (hL.1 0 (10, 12) rfl)) (by decide) (m74 hF t7) ?_
  refine w_aload (pc' := 288) k188_287 rfl rfl ?_
  refine w_aload (pc' := 289) k188_288 rfl rfl ?_
  refine w_iload (pc' := 290) k188_289 rfl rfl ?_
  refine w_c1 (pc' := 291) k188_290 rfl ?_
  refine w_iadd (pc' := 292) k188_291 rfl (by omega) ?_
  refine w_sld (pc' := 293) k188_292 rfl (by omega) ?_
  refine w_aload (pc' := 294) k188_293 rfl rfl ?_
  refine w_iload (pc' := 295) k188_294 rfl rfl ?_
  refine w_c1 (pc' := 296) k188_295 rfl ?_
  refine w_iadd (pc' := 297) k188_296 rfl (by omega) ?_
  refine w_sld (pc' := 298) k188_297 rfl (by omega) ?_
  refine w_callE (pc' := 301) (as := [.inr (some 57), .inl _, .inl _]) k188_298 rfl rfl (co_v rfl rfl (hM.1 57 (11, 30) rfl)) (by decide) (m145 hMF1) ?_
  refine w_ic_eq (pc' := 304) k188_301 rfl (fun c_301 => ?_) (fun c_301 => absurd c_301 (fun z9 => z9 rfl))
  refine w_iinc (pc' := 1001) (ls' := [_, _, _, _]) k188_998 rfl rfl (by omega) rfl ?_
  refine w_goto k188_1001 ?_
  exact ih _ _ _ _ K H E HO S L (B) _ _ _ (A, A1, A2, u) tx len _ _ ⟨hG1, hM1, by omega, hMs⟩ (by omega) (by omega)
theorem lc6 (ih : LAWG X d n) (hX : X.1 ≤ 2560) (hi : 0 ≤ i ∧ i ≤ (X.1 : Int) - 5) (hn : (X.1 : Int) - i < 5 * ((n : Int) + 1 + 1)) (hW : LWI sh R I K H E HO S L B ρ γ M (A, A1, A2, u) tx len (n + 1) bc bs) : WP X (d + 10) 188 306 [.inr (some SCR), .inr (some 0), .inr (some 57), .inl i] [] (sh, R, I) bc bs (fun r _ => r = .inl 1) := by
  obtain ⟨hG, hM0, hBn, hMs⟩ := hW
  have hG : CG sh R I K H E HO S L B ρ γ M A A1 A2 u tx len := hG
  have hF := hG.cf
  have hL := hG.1
  have hM := hM0.1.1
  have t7 := (hG.2.2.2.1 7 (by decide) (by decide)).2
  have hM1 := hM0
  have hG1 := hG
  have hMF1 : MF sh R I K H E HO S L B A := hM1.1
  refine w_aload (pc' := 307) k188_306 rfl rfl ?_
  refine w_aload (pc' := 308) k188_307 rfl rfl ?_
  refine w_iload (pc' := 309) k188_308 rfl rfl ?_
  refine w_c1 (pc' := 310) k188_309 rfl ?_
  refine w_iadd (pc' := 311) k188_310 rfl (by omega) ?_
  refine w_sld (pc' := 312) k188_311 rfl (by omega) ?_
  refine w_aload (pc' := 313) k188_312 rfl rfl ?_
  refine w_iload (pc' := 314) k188_313 rfl rfl ?_
  refine w_c1 (pc' := 315) k188_314 rfl ?_
  refine w_iadd (pc' := 316) k188_315 rfl (by omega) ?_
  refine w_sld (pc' := 317) k188_316 rfl (by omega) ?_
  refine w_callE (pc' := 320) (as := [.inr (some 0), .inl _, .inl _]) k188_317 rfl rfl (co_v rfl rfl (hL.1 0 (10, 12) rfl)) (by decide) (m75 hF t7) ?_
  refine w_aload (pc' := 321) k188_320 rfl rfl ?_
  refine w_aload (pc' := 322) k188_321 rfl rfl ?_
  refine w_iload (pc' := 323) k188_322 rfl rfl ?_
  refine w_c1 (pc' := 324) k188_323 rfl ?_
  refine w_iadd (pc' := 325) k188_324 rfl (by omega) ?_
  refine w_sld (pc' := 326) k188_325 rfl (by omega) ?_
  refine w_aload (pc' := 327) k188_326 rfl rfl ?_
  refine w_iload (pc' := 328) k188_327 rfl rfl ?_
  refine w_c1 (pc' := 329) k188_328 rfl ?_
  refine w_iadd (pc' := 330) k188_329 rfl (by omega) ?_
  refine w_sld (pc' := 331) k188_330 rfl (by omega) ?_
  refine w_callE (pc' := 334) (as := [.inr (some 57), .inl _, .inl _]) k188_331 rfl rfl (co_v rfl rfl (hM.1 57 (11, 30) rfl)) (by decide) (m146 hMF1) ?_
  refine w_ic_eq (pc' := 337) k188_334 rfl (fun c_334 => ?_) (fun c_334 => absurd c_334 (fun z9 => z9 rfl))
  refine w_iinc (pc' := 1001) (ls' := [_, _, _, _]) k188_998 rfl rfl (by omega) rfl ?_
  refine w_goto k188_1001 ?_
  exact ih _ _ _ _ K H E HO S L (B) _ _ _ (A, A1, A2, u) tx len _ _ ⟨hG1, hM1, by omega, hMs⟩ (by omega) (by omega)
theorem lc7 (ih : LAWG X d n) (hX : X.1 ≤ 2560) (hi : 0 ≤ i ∧ i ≤ (X.1 : Int) - 5) (hn : (X.1 : Int) - i < 5 * ((n : Int) + 1 + 1)) (hW : LWI sh R I K H E HO S L B ρ γ M (A, A1, A2, u) tx len (n + 1) bc bs) : WP X (d + 10) 188 339 [.inr (some SCR), .inr (some 0), .inr (some 57), .inl i] [] (sh, R, I) bc bs (fun r _ => r = .inl 1) := by
  obtain ⟨hG, hM0, hBn, hMs⟩ := hW
  have hG : CG sh R I K H E HO S L B ρ γ M A A1 A2 u tx len := hG
  have hF := hG.cf
  have hL := hG.1
  have hM := hM0.1.1
  have t7 := (hG.2.2.2.1 7 (by decide) (by decide)).2
  refine w_aload (pc' := 340) k188_339 rfl rfl ?_
  refine w_aload (pc' := 341) k188_340 rfl rfl ?_
  refine w_iload (pc' := 342) k188_341 rfl rfl ?_
  refine w_c1 (pc' := 343) k188_342 rfl ?_
  refine w_iadd (pc' := 344) k188_343 rfl (by omega) ?_
  refine w_sld (pc' := 345) k188_344 rfl (by omega) ?_
  refine w_aload (pc' := 346) k188_345 rfl rfl ?_
  refine w_iload (pc' := 347) k188_346 rfl rfl ?_
  refine w_c1 (pc' := 348) k188_347 rfl ?_
  refine w_iadd (pc' := 349) k188_348 rfl (by omega) ?_
  refine w_sld (pc' := 350) k188_349 rfl (by omega) ?_
  refine w_callI (pc' := 353) (as := [.inr (some 0), .inl _, .inl _]) k188_350 rfl rfl (co_v rfl rfl (hL.1 0 (10, 12) rfl)) (by decide) (m76 hG (by omega)) (fun z_350 h_350 hq => ?_)
  obtain ⟨e9, R_1, I_1, ρ_1, rfl, i1, rf1, g1⟩ := hq
  obtain rfl := Sum.inl.inj e9
  have hM1 := hM0.kc (hM.rf rf1) i1
  refine w_aload (pc' := 354) k188_353 rfl rfl ?_
  refine w_aload (pc' := 355) k188_354 rfl rfl ?_
  refine w_iload (pc' := 356) k188_355 rfl rfl ?_
  refine w_c1 (pc' := 357) k188_356 rfl ?_
  refine w_iadd (pc' := 358) k188_357 rfl (by omega) ?_
  refine w_sld (pc' := 359) k188_358 rfl (by omega) ?_
  refine w_aload (pc' := 360) k188_359 rfl rfl ?_
  refine w_iload (pc' := 361) k188_360 rfl rfl ?_
  refine w_c1 (pc' := 362) k188_361 rfl ?_
  refine w_iadd (pc' := 363) k188_362 rfl (by omega) ?_
  refine w_sld (pc' := 364) k188_363 rfl (by omega) ?_
  refine w_callI (pc' := 367) (as := [.inr (some 57), .inl _, .inl _]) k188_364 rfl rfl (co_v rfl rfl (hM.1 57 (11, 30) rfl)) (by decide) (m150 hM1 (by omega)) (fun z_364 h_364 hq => ?_)
  obtain ⟨e8, I_2, rfl, i2, g2⟩ := hq
  obtain rfl := Sum.inl.inj e8
  refine w_ic_eq (pc' := 370) k188_367 rfl (fun c_367 => ?_) (fun c_367 => absurd c_367 (fun z9 => z9 rfl))
  refine w_iinc (pc' := 1001) (ls' := [_, _, _, _]) k188_998 rfl rfl (by omega) rfl ?_
  refine w_goto k188_1001 ?_
  exact ih _ _ _ _ K H E HO S L (B + 1) _ _ _ (cutZ H E L (A, A1, A2, u) (X.2 (i + 1)) (X.2 (i + 2))) tx len _ _ ⟨CG.km g1 (fun a q => i2 a q), g2, by omega, hMs⟩ (by omega) (by omega)
theorem lc8 (ih : LAWG X d n) (hX : X.1 ≤ 2560) (hi : 0 ≤ i ∧ i ≤ (X.1 : Int) - 5) (hn : (X.1 : Int) - i < 5 * ((n : Int) + 1 + 1)) (hW : LWI sh R I K H E HO S L B ρ γ M (A, A1, A2, u) tx len (n + 1) bc bs) : WP X (d + 10) 188 372 [.inr (some SCR), .inr (some 0), .inr (some 57), .inl i] [] (sh, R, I) bc bs (fun r _ => r = .inl 1) := by
  obtain ⟨hG, hM0, hBn, hMs⟩ := hW
  have hG : CG sh R I K H E HO S L B ρ γ M A A1 A2 u tx len := hG
  have hF := hG.cf
  have hL := hG.1
  have hM := hM0.1.1
  have t7 := (hG.2.2.2.1 7 (by decide) (by decide)).2
  refine w_aload (pc' := 373) k188_372 rfl rfl ?_
  refine w_aload (pc' := 374) k188_373 rfl rfl ?_
  refine w_iload (pc' := 375) k188_374 rfl rfl ?_
  refine w_c1 (pc' := 376) k188_375 rfl ?_
  refine w_iadd (pc' := 377) k188_376 rfl (by omega) ?_
  refine w_sld (pc' := 378) k188_377 rfl (by omega) ?_
  refine w_callI (pc' := 381) (as := [.inr (some 0), .inl _]) k188_378 rfl rfl (co_v rfl rfl (hL.1 0 (10, 12) rfl)) (by decide) (m77 hG (by omega)) (fun z_378 h_378 hq => ?_)
  obtain ⟨e9, R_1, I_1, ρ_1, rfl, i1, rf1, g1⟩ := hq
  obtain rfl := Sum.inl.inj e9
  have hM1 := hM0.kc (hM.rf rf1) i1
  refine w_aload (pc' := 382) k188_381 rfl rfl ?_
  refine w_aload (pc' := 383) k188_382 rfl rfl ?_
  refine w_iload (pc' := 384) k188_383 rfl rfl ?_
  refine w_c1 (pc' := 385) k188_384 rfl ?_
  refine w_iadd (pc' := 386) k188_385 rfl (by omega) ?_
  refine w_sld (pc' := 387) k188_386 rfl (by omega) ?_
  refine w_callI (pc' := 390) (as := [.inr (some 57), .inl _]) k188_387 rfl rfl (co_v rfl rfl (hM.1 57 (11, 30) rfl)) (by decide) (m152 hM1 (by omega)) (fun z_387 h_387 hq => ?_)
  obtain ⟨e8, I_2, rfl, i2, g2⟩ := hq
  obtain rfl := Sum.inl.inj e8
  refine w_ic_eq (pc' := 393) k188_390 rfl (fun c_390 => ?_) (fun c_390 => absurd c_390 (fun z9 => z9 rfl))
  refine w_iinc (pc' := 1001) (ls' := [_, _, _, _]) k188_998 rfl rfl (by omega) rfl ?_
  refine w_goto k188_1001 ?_
  exact ih _ _ _ _ K H E HO S L (B + 1) _ _ _ (if 0 ≤ X.2 (i + 1) ∧ X.2 (i + 1) < S then tlZ H E L (A, A1, A2, u) (X.2 (i + 1)) 0 else (A, A1, A2, u)) tx len _ _ ⟨CG.km g1 (fun a q => i2 a q), g2, by omega, hMs⟩ (by omega) (by omega)
theorem lc9 (ih : LAWG X d n) (hX : X.1 ≤ 2560) (hi : 0 ≤ i ∧ i ≤ (X.1 : Int) - 5) (hn : (X.1 : Int) - i < 5 * ((n : Int) + 1 + 1)) (hW : LWI sh R I K H E HO S L B ρ γ M (A, A1, A2, u) tx len (n + 1) bc bs) : WP X (d + 10) 188 395 [.inr (some SCR), .inr (some 0), .inr (some 57), .inl i] [] (sh, R, I) bc bs (fun r _ => r = .inl 1) := by
  obtain ⟨hG, hM0, hBn, hMs⟩ := hW
  have hG : CG sh R I K H E HO S L B ρ γ M A A1 A2 u tx len := hG
  have hF := hG.cf
  have hL := hG.1
  have hM := hM0.1.1
  have t7 := (hG.2.2.2.1 7 (by decide) (by decide)).2
  refine w_aload (pc' := 396) k188_395 rfl rfl ?_
  refine w_aload (pc' := 397) k188_396 rfl rfl ?_
  refine w_iload (pc' := 398) k188_397 rfl rfl ?_
  refine w_c1 (pc' := 399) k188_398 rfl ?_
  refine w_iadd (pc' := 400) k188_399 rfl (by omega) ?_
  refine w_sld (pc' := 401) k188_400 rfl (by omega) ?_
  refine w_callI (pc' := 404) (as := [.inr (some 0), .inl _]) k188_401 rfl rfl (co_v rfl rfl (hL.1 0 (10, 12) rfl)) (by decide) (m78 hG (by omega)) (fun z_401 h_401 hq => ?_)
  obtain ⟨e9, R_1, I_1, ρ_1, rfl, i1, rf1, g1⟩ := hq
  obtain rfl := Sum.inl.inj e9
  have hM1 := hM0.kc (hM.rf rf1) i1
  refine w_aload (pc' := 405) k188_404 rfl rfl ?_
  refine w_aload (pc' := 406) k188_405 rfl rfl ?_
  refine w_iload (pc' := 407) k188_406 rfl rfl ?_
  refine w_c1 (pc' := 408) k188_407 rfl ?_
  refine w_iadd (pc' := 409) k188_408 rfl (by omega) ?_
  refine w_sld (pc' := 410) k188_409 rfl (by omega) ?_
  refine w_callI (pc' := 413) (as := [.inr (some 57), .inl _]) k188_410 rfl rfl (co_v rfl rfl (hM.1 57 (11, 30) rfl)) (by decide) (m153 hM1 (by omega)) (fun z_410 h_410 hq => ?_)
  obtain ⟨e8, I_2, rfl, i2, g2⟩ := hq
  obtain rfl := Sum.inl.inj e8
  refine w_ic_eq (pc' := 416) k188_413 rfl (fun c_413 => ?_) (fun c_413 => absurd c_413 (fun z9 => z9 rfl))
  refine w_iinc (pc' := 1001) (ls' := [_, _, _, _]) k188_998 rfl rfl (by omega) rfl ?_
  refine w_goto k188_1001 ?_
  exact ih _ _ _ _ K H E HO S L (B + 1) _ _ _ (if 0 ≤ X.2 (i + 1) ∧ X.2 (i + 1) < S then tlZ H E L (A, A1, A2, u) (X.2 (i + 1)) 1 else (A, A1, A2, u)) tx len _ _ ⟨CG.km g1 (fun a q => i2 a q), g2, by omega, hMs⟩ (by omega) (by omega)
theorem lc10 (ih : LAWG X d n) (hX : X.1 ≤ 2560) (hi : 0 ≤ i ∧ i ≤ (X.1 : Int) - 5) (hn : (X.1 : Int) - i < 5 * ((n : Int) + 1 + 1)) (hW : LWI sh R I K H E HO S L B ρ γ M (A, A1, A2, u) tx len (n + 1) bc bs) : WP X (d + 10) 188 418 [.inr (some SCR), .inr (some 0), .inr (some 57), .inl i] [] (sh, R, I) bc bs (fun r _ => r = .inl 1) := by
  obtain ⟨hG, hM0, hBn, hMs⟩ := hW
  have hG : CG sh R I K H E HO S L B ρ γ M A A1 A2 u tx len := hG
  have hF := hG.cf
  have hL := hG.1
  have hM := hM0.1.1
  have t7 := (hG.2.2.2.1 7 (by decide) (by decide)).2
  refine w_aload (pc' := 419) k188_418 rfl rfl ?_
  refine w_aload (pc' := 420) k188_419 rfl rfl ?_
  refine w_iload (pc' := 421) k188_420 rfl rfl ?_
  refine w_c1 (pc' := 422) k188_421 rfl ?_
  refine w_iadd (pc' := 423) k188_422 rfl (by omega) ?_
  refine w_sld (pc' := 424) k188_423 rfl (by omega) ?_
  refine w_callI (pc' := 427) (as := [.inr (some 0), .inl _]) k188_424 rfl rfl (co_v rfl rfl (hL.1 0 (10, 12) rfl)) (by decide) (m79 hG (by omega)) (fun z_424 h_424 hq => ?_)
  obtain ⟨e9, R_1, I_1, ρ_1, rfl, i1, rf1, g1⟩ := hq
  obtain rfl := Sum.inl.inj e9
  have hM1 := hM0.kc (hM.rf rf1) i1
  refine w_aload (pc' := 428) k188_427 rfl rfl ?_
  refine w_aload (pc' := 429) k188_428 rfl rfl ?_
  refine w_iload (pc' := 430) k188_429 rfl rfl ?_
  refine w_c1 (pc' := 431) k188_430 rfl ?_
  refine w_iadd (pc' := 432) k188_431 rfl (by omega) ?_
  refine w_sld (pc' := 433) k188_432 rfl (by omega) ?_
  refine w_callI (pc' := 436) (as := [.inr (some 57), .inl _]) k188_433 rfl rfl (co_v rfl rfl (hM.1 57 (11, 30) rfl)) (by decide) (m155 hM1 (by omega)) (fun z_433 h_433 hq => ?_)
  obtain ⟨e8, I_2, rfl, i2, g2⟩ := hq
  obtain rfl := Sum.inl.inj e8
  refine w_ic_eq (pc' := 439) k188_436 rfl (fun c_436 => ?_) (fun c_436 => absurd c_436 (fun z9 => z9 rfl))
  refine w_iinc (pc' := 1001) (ls' := [_, _, _, _]) k188_998 rfl rfl (by omega) rfl ?_
  refine w_goto k188_1001 ?_
  exact ih _ _ _ _ K H E HO S L (B + 1) _ _ _ (if 1 ≤ X.2 (i + 1) ∧ X.2 (i + 1) ≤ 9 then tickZ H E S L (A, A1, A2, u) (X.2 (i + 1)).toNat else (A, A1, A2, u)) tx len _ _ ⟨CG.km g1 (fun a q => i2 a q), g2, by omega, hMs⟩ (by omega) (by omega)
theorem lc11 (ih : LAWG X d n) (hX : X.1 ≤ 2560) (hi : 0 ≤ i ∧ i ≤ (X.1 : Int) - 5) (hn : (X.1 : Int) - i < 5 * ((n : Int) + 1 + 1)) (hW : LWI sh R I K H E HO S L B ρ γ M (A, A1, A2, u) tx len (n + 1) bc bs) : WP X (d + 10) 188 441 [.inr (some SCR), .inr (some 0), .inr (some 57), .inl i] [] (sh, R, I) bc bs (fun r _ => r = .inl 1) := by
  obtain ⟨hG, hM0, hBn, hMs⟩ := hW
  have hG : CG sh R I K H E HO S L B ρ γ M A A1 A2 u tx len := hG
  have hF := hG.cf
  have hL := hG.1
  have hM := hM0.1.1
  have t7 := (hG.2.2.2.1 7 (by decide) (by decide)).2
  have hM1 := hM0
  have hG1 := hG
  have hMF1 : MF sh R I K H E HO S L B A := hM1.1
  refine w_aload (pc' := 442) k188_441 rfl rfl ?_
  refine w_aload (pc' := 443) k188_442 rfl rfl ?_
  refine w_iload (pc' := 444) k188_443 rfl rfl ?_
  refine w_c1 (pc' := 445) k188_444 rfl ?_
  refine w_iadd (pc' := 446) k188_445 rfl (by omega) ?_
  refine w_sld (pc' := 447) k188_446 rfl (by omega) ?_
  refine w_aload (pc' := 448) k188_447 rfl rfl ?_
  refine w_iload (pc' := 449) k188_448 rfl rfl ?_
  refine w_c1 (pc' := 450) k188_449 rfl ?_
  refine w_iadd (pc' := 451) k188_450 rfl (by omega) ?_
  refine w_sld (pc' := 452) k188_451 rfl (by omega) ?_
  refine w_callE (pc' := 455) (as := [.inr (some 0), .inl _, .inl _]) k188_452 rfl rfl (co_v rfl rfl (hL.1 0 (10, 12) rfl)) (by decide) (m80 hF t7) ?_
  refine w_aload (pc' := 456) k188_455 rfl rfl ?_
  refine w_aload (pc' := 457) k188_456 rfl rfl ?_
  refine w_iload (pc' := 458) k188_457 rfl rfl ?_
  refine w_c1 (pc' := 459) k188_458 rfl ?_
  refine w_iadd (pc' := 460) k188_459 rfl (by omega) ?_
  refine w_sld (pc' := 461) k188_460 rfl (by omega) ?_
  refine w_aload (pc' := 462) k188_461 rfl rfl ?_
  refine w_iload (pc' := 463) k188_462 rfl rfl ?_
  refine w_c1 (pc' := 464) k188_463 rfl ?_
  refine w_iadd (pc' := 465) k188_464 rfl (by omega) ?_
  refine w_sld (pc' := 466) k188_465 rfl (by omega) ?_
  refine w_callE (pc' := 469) (as := [.inr (some 57), .inl _, .inl _]) k188_466 rfl rfl (co_v rfl rfl (hM.1 57 (11, 30) rfl)) (by decide) (m156 hMF1) ?_
  refine w_ic_eq (pc' := 472) k188_469 rfl (fun c_469 => ?_) (fun c_469 => absurd c_469 (fun z9 => z9 rfl))
  refine w_iinc (pc' := 1001) (ls' := [_, _, _, _]) k188_998 rfl rfl (by omega) rfl ?_
  refine w_goto k188_1001 ?_
  exact ih _ _ _ _ K H E HO S L (B) _ _ _ (A, A1, A2, u) tx len _ _ ⟨hG1, hM1, by omega, hMs⟩ (by omega) (by omega)
theorem lc12 (ih : LAWG X d n) (hX : X.1 ≤ 2560) (hi : 0 ≤ i ∧ i ≤ (X.1 : Int) - 5) (hn : (X.1 : Int) - i < 5 * ((n : Int) + 1 + 1)) (hW : LWI sh R I K H E HO S L B ρ γ M (A, A1, A2, u) tx len (n + 1) bc bs) : WP X (d + 10) 188 474 [.inr (some SCR), .inr (some 0), .inr (some 57), .inl i] [] (sh, R, I) bc bs (fun r _ => r = .inl 1) := by
  obtain ⟨hG, hM0, hBn, hMs⟩ := hW
  have hG : CG sh R I K H E HO S L B ρ γ M A A1 A2 u tx len := hG
  have hF := hG.cf
  have hL := hG.1
  have hM := hM0.1.1
  have t7 := (hG.2.2.2.1 7 (by decide) (by decide)).2
  have hM1 := hM0
  have hG1 := hG
  have hMF1 : MF sh R I K H E HO S L B A := hM1.1
  refine w_aload (pc' := 475) k188_474 rfl rfl ?_
  refine w_callE (pc' := 478) (as := [.inr (some 0)]) k188_475 rfl rfl (co_v rfl rfl (hL.1 0 (10, 12) rfl)) (by decide) (m81 hF t7) ?_
  refine w_aload (pc' := 479) k188_478 rfl rfl ?_
  refine w_callE (pc' := 482) (as := [.inr (some 57)]) k188_479 rfl rfl (co_v rfl rfl (hM.1 57 (11, 30) rfl)) (by decide) (m157 hMF1) ?_
  refine w_ic_eq (pc' := 485) k188_482 rfl (fun c_482 => ?_) (fun c_482 => absurd c_482 (fun z9 => z9 rfl))
  refine w_iinc (pc' := 1001) (ls' := [_, _, _, _]) k188_998 rfl rfl (by omega) rfl ?_
  refine w_goto k188_1001 ?_
  exact ih _ _ _ _ K H E HO S L (B) _ _ _ (A, A1, A2, u) tx len _ _ ⟨hG1, hM1, by omega, hMs⟩ (by omega) (by omega)
theorem lc13 (ih : LAWG X d n) (hX : X.1 ≤ 2560) (hi : 0 ≤ i ∧ i ≤ (X.1 : Int) - 5) (hn : (X.1 : Int) - i < 5 * ((n : Int) + 1 + 1)) (hW : LWI sh R I K H E HO S L B ρ γ M (A, A1, A2, u) tx len (n + 1) bc bs) : WP X (d + 10) 188 487 [.inr (some SCR), .inr (some 0), .inr (some 57), .inl i] [] (sh, R, I) bc bs (fun r _ => r = .inl 1) := by
  obtain ⟨hG, hM0, hBn, hMs⟩ := hW
  have hG : CG sh R I K H E HO S L B ρ γ M A A1 A2 u tx len := hG
  have hF := hG.cf
  have hL := hG.1
  have hM := hM0.1.1
  have t7 := (hG.2.2.2.1 7 (by decide) (by decide)).2
  refine w_aload (pc' := 488) k188_487 rfl rfl ?_
  refine w_callI (pc' := 491) (as := [.inr (some 0)]) k188_488 rfl rfl (co_v rfl rfl (hL.1 0 (10, 12) rfl)) (by decide) (m82 hG (by omega)) (fun z_488 h_488 hq => ?_)
  obtain ⟨e9, R_1, I_1, ρ_1, rfl, i1, rf1, g1⟩ := hq
  obtain rfl := Sum.inl.inj e9
  have hM1 := hM0.kc (hM.rf rf1) i1
  refine w_aload (pc' := 492) k188_491 rfl rfl ?_
  refine w_callI (pc' := 495) (as := [.inr (some 57)]) k188_492 rfl rfl (co_v rfl rfl (hM.1 57 (11, 30) rfl)) (by decide) (m148 hM1 (by omega)) (fun z_492 h_492 hq => ?_)
  obtain ⟨e8, I_2, rfl, i2, g2⟩ := hq
  obtain rfl := Sum.inl.inj e8
  refine w_ic_eq (pc' := 498) k188_495 rfl (fun c_495 => ?_) (fun c_495 => absurd c_495 (fun z9 => z9 rfl))
  refine w_iinc (pc' := 1001) (ls' := [_, _, _, _]) k188_998 rfl rfl (by omega) rfl ?_
  refine w_goto k188_1001 ?_
  exact ih _ _ _ _ K H E HO S L (B + 1) _ _ _ (undZ (A, A1, A2, u)) tx len _ _ ⟨CG.km g1 (fun a q => i2 a q), g2, by omega, hMs⟩ (by omega) (by omega)
theorem lc14 (ih : LAWG X d n) (hX : X.1 ≤ 2560) (hi : 0 ≤ i ∧ i ≤ (X.1 : Int) - 5) (hn : (X.1 : Int) - i < 5 * ((n : Int) + 1 + 1)) (hW : LWI sh R I K H E HO S L B ρ γ M (A, A1, A2, u) tx len (n + 1) bc bs) : WP X (d + 10) 188 500 [.inr (some SCR), .inr (some 0), .inr (some 57), .inl i] [] (sh, R, I) bc bs (fun r _ => r = .inl 1) := by
  obtain ⟨hG, hM0, hBn, hMs⟩ := hW
  have hG : CG sh R I K H E HO S L B ρ γ M A A1 A2 u tx len := hG
  have hF := hG.cf
  have hL := hG.1
  have hM := hM0.1.1
  have t7 := (hG.2.2.2.1 7 (by decide) (by decide)).2
  have hM1 := hM0
  have hG1 := hG
  have hMF1 : MF sh R I K H E HO S L B A := hM1.1
  refine w_aload (pc' := 501) k188_500 rfl rfl ?_
  refine w_aload (pc' := 502) k188_501 rfl rfl ?_
  refine w_iload (pc' := 503) k188_502 rfl rfl ?_
  refine w_c1 (pc' := 504) k188_503 rfl ?_
  refine w_iadd (pc' := 505) k188_504 rfl (by omega) ?_
  refine w_sld (pc' := 506) k188_505 rfl (by omega) ?_
  refine w_aload (pc' := 507) k188_506 rfl rfl ?_
  refine w_iload (pc' := 508) k188_507 rfl rfl ?_
  refine w_c1 (pc' := 509) k188_508 rfl ?_
  refine w_iadd (pc' := 510) k188_509 rfl (by omega) ?_
  refine w_sld (pc' := 511) k188_510 rfl (by omega) ?_
  refine w_aload (pc' := 512) k188_511 rfl rfl ?_
  refine w_iload (pc' := 513) k188_512 rfl rfl ?_
  refine w_c1 (pc' := 514) k188_513 rfl ?_
  refine w_iadd (pc' := 515) k188_514 rfl (by omega) ?_
  refine w_sld (pc' := 516) k188_515 rfl (by omega) ?_
  refine w_callE (pc' := 519) (as := [.inr (some 0), .inl _, .inl _, .inl _]) k188_516 rfl rfl (co_v rfl rfl (hL.1 0 (10, 12) rfl)) (by decide) (m83 hF t7) ?_
  refine w_aload (pc' := 520) k188_519 rfl rfl ?_
  refine w_aload (pc' := 521) k188_520 rfl rfl ?_
  refine w_iload (pc' := 522) k188_521 rfl rfl ?_
  refine w_c1 (pc' := 523) k188_522 rfl ?_
  refine w_iadd (pc' := 524) k188_523 rfl (by omega) ?_
  refine w_sld (pc' := 525) k188_524 rfl (by omega) ?_
  refine w_aload (pc' := 526) k188_525 rfl rfl ?_
  refine w_iload (pc' := 527) k188_526 rfl rfl ?_
  refine w_c1 (pc' := 528) k188_527 rfl ?_
  refine w_iadd (pc' := 529) k188_528 rfl (by omega) ?_
  refine w_sld (pc' := 530) k188_529 rfl (by omega) ?_
  refine w_aload (pc' := 531) k188_530 rfl rfl ?_
  refine w_iload (pc' := 532) k188_531 rfl rfl ?_
  refine w_c1 (pc' := 533) k188_532 rfl ?_
  refine w_iadd (pc' := 534) k188_533 rfl (by omega) ?_
  refine w_sld (pc' := 535) k188_534 rfl (by omega) ?_
  refine w_callE (pc' := 538) (as := [.inr (some 57), .inl _, .inl _, .inl _]) k188_535 rfl rfl (co_v rfl rfl (hM.1 57 (11, 30) rfl)) (by decide) (m162 hMF1) ?_
  refine w_ic_eq (pc' := 541) k188_538 rfl (fun c_538 => ?_) (fun c_538 => absurd c_538 (fun z9 => z9 rfl))
  refine w_iinc (pc' := 1001) (ls' := [_, _, _, _]) k188_998 rfl rfl (by omega) rfl ?_
  refine w_goto k188_1001 ?_
  exact ih _ _ _ _ K H E HO S L (B) _ _ _ (A, A1, A2, u) tx len _ _ ⟨hG1, hM1, by omega, hMs⟩ (by omega) (by omega)
theorem lc15 (ih : LAWG X d n) (hX : X.1 ≤ 2560) (hi : 0 ≤ i ∧ i ≤ (X.1 : Int) - 5) (hn : (X.1 : Int) - i < 5 * ((n : Int) + 1 + 1)) (hW : LWI sh R I K H E HO S L B ρ γ M (A, A1, A2, u) tx len (n + 1) bc bs) : WP X (d + 10) 188 543 [.inr (some SCR), .inr (some 0), .inr (some 57), .inl i] [] (sh, R, I) bc bs (fun r _ => r = .inl 1) := by
  obtain ⟨hG, hM0, hBn, hMs⟩ := hW
  have hG : CG sh R I K H E HO S L B ρ γ M A A1 A2 u tx len := hG
  have hF := hG.cf
  have hL := hG.1
  have hM := hM0.1.1
  have t7 := (hG.2.2.2.1 7 (by decide) (by decide)).2
  refine w_aload (pc' := 544) k188_543 rfl rfl ?_
  refine w_aload (pc' := 545) k188_544 rfl rfl ?_
  refine w_iload (pc' := 546) k188_545 rfl rfl ?_
  refine w_c1 (pc' := 547) k188_546 rfl ?_
  refine w_iadd (pc' := 548) k188_547 rfl (by omega) ?_
  refine w_sld (pc' := 549) k188_548 rfl (by omega) ?_
  refine w_aload (pc' := 550) k188_549 rfl rfl ?_
  refine w_iload (pc' := 551) k188_550 rfl rfl ?_
  refine w_c1 (pc' := 552) k188_551 rfl ?_
  refine w_iadd (pc' := 553) k188_552 rfl (by omega) ?_
  refine w_sld (pc' := 554) k188_553 rfl (by omega) ?_
  refine w_aload (pc' := 555) k188_554 rfl rfl ?_
  refine w_iload (pc' := 556) k188_555 rfl rfl ?_
  refine w_c1 (pc' := 557) k188_556 rfl ?_
  refine w_iadd (pc' := 558) k188_557 rfl (by omega) ?_
  refine w_sld (pc' := 559) k188_558 rfl (by omega) ?_
  refine w_aload (pc' := 560) k188_559 rfl rfl ?_
  refine w_iload (pc' := 561) k188_560 rfl rfl ?_
  refine w_c1 (pc' := 562) k188_561 rfl ?_
  refine w_iadd (pc' := 563) k188_562 rfl (by omega) ?_
  refine w_sld (pc' := 564) k188_563 rfl (by omega) ?_
  refine w_callI (pc' := 567) (as := [.inr (some 0), .inl _, .inl _, .inl _, .inl _]) k188_564 rfl rfl (co_v rfl rfl (hL.1 0 (10, 12) rfl)) (by decide) (m84 hF t7) (fun z_564 h_564 hq => ?_)
  obtain ⟨e9, I_1, rfl, s1⟩ := hq
  obtain rfl := Sum.inl.inj e9
  have hG1 := hG.scr s1
  have hM1 := hM0.kc hM (fun a q1 q2 => s1 a (by omega))
  have hMF1 : MF sh R I_1 K H E HO S L B A := hM1.1
  refine w_aload (pc' := 568) k188_567 rfl rfl ?_
  refine w_aload (pc' := 569) k188_568 rfl rfl ?_
  refine w_iload (pc' := 570) k188_569 rfl rfl ?_
  refine w_c1 (pc' := 571) k188_570 rfl ?_
  refine w_iadd (pc' := 572) k188_571 rfl (by omega) ?_
  refine w_sld (pc' := 573) k188_572 rfl (by omega) ?_
  refine w_aload (pc' := 574) k188_573 rfl rfl ?_
  refine w_iload (pc' := 575) k188_574 rfl rfl ?_
  refine w_c1 (pc' := 576) k188_575 rfl ?_
  refine w_iadd (pc' := 577) k188_576 rfl (by omega) ?_
  refine w_sld (pc' := 578) k188_577 rfl (by omega) ?_
  refine w_aload (pc' := 579) k188_578 rfl rfl ?_
  refine w_iload (pc' := 580) k188_579 rfl rfl ?_
  refine w_c1 (pc' := 581) k188_580 rfl ?_
  refine w_iadd (pc' := 582) k188_581 rfl (by omega) ?_
  refine w_sld (pc' := 583) k188_582 rfl (by omega) ?_
  refine w_aload (pc' := 584) k188_583 rfl rfl ?_
  refine w_iload (pc' := 585) k188_584 rfl rfl ?_
  refine w_c1 (pc' := 586) k188_585 rfl ?_
  refine w_iadd (pc' := 587) k188_586 rfl (by omega) ?_
  refine w_sld (pc' := 588) k188_587 rfl (by omega) ?_
  refine w_callI (pc' := 591) (as := [.inr (some 57), .inl _, .inl _, .inl _, .inl _]) k188_588 rfl rfl (co_v rfl rfl (hM.1 57 (11, 30) rfl)) (by decide) (m165 hMF1) (fun z_588 h_588 hq => ?_)
  obtain ⟨e8, I_2, rfl, m1, m2⟩ := hq
  obtain rfl := Sum.inl.inj e8
  refine w_ic_eq (pc' := 594) k188_591 rfl (fun c_591 => ?_) (fun c_591 => absurd c_591 (fun z9 => z9 rfl))
  refine w_iinc (pc' := 1001) (ls' := [_, _, _, _]) k188_998 rfl rfl (by omega) rfl ?_
  refine w_goto k188_1001 ?_
  exact ih _ _ _ _ K H E HO S L (B) _ _ _ (A, A1, A2, u) tx len _ _ ⟨hG1.km (fun a q => m1 a (Or.inl q)), hM1.qm m1 m2, by omega, hMs⟩ (by omega) (by omega)
theorem lc16 (ih : LAWG X d n) (hX : X.1 ≤ 2560) (hi : 0 ≤ i ∧ i ≤ (X.1 : Int) - 5) (hn : (X.1 : Int) - i < 5 * ((n : Int) + 1 + 1)) (hW : LWI sh R I K H E HO S L B ρ γ M (A, A1, A2, u) tx len (n + 1) bc bs) : WP X (d + 10) 188 596 [.inr (some SCR), .inr (some 0), .inr (some 57), .inl i] [] (sh, R, I) bc bs (fun r _ => r = .inl 1) := by
  obtain ⟨hG, hM0, hBn, hMs⟩ := hW
  have hG : CG sh R I K H E HO S L B ρ γ M A A1 A2 u tx len := hG
  have hF := hG.cf
  have hL := hG.1
  have hM := hM0.1.1
  have t7 := (hG.2.2.2.1 7 (by decide) (by decide)).2
  refine w_aload (pc' := 597) k188_596 rfl rfl ?_
  refine w_aload (pc' := 598) k188_597 rfl rfl ?_
  refine w_iload (pc' := 599) k188_598 rfl rfl ?_
  refine w_c1 (pc' := 600) k188_599 rfl ?_
  refine w_iadd (pc' := 601) k188_600 rfl (by omega) ?_
  refine w_sld (pc' := 602) k188_601 rfl (by omega) ?_
  refine w_aload (pc' := 603) k188_602 rfl rfl ?_
  refine w_iload (pc' := 604) k188_603 rfl rfl ?_
  refine w_c1 (pc' := 605) k188_604 rfl ?_
  refine w_iadd (pc' := 606) k188_605 rfl (by omega) ?_
  refine w_sld (pc' := 607) k188_606 rfl (by omega) ?_
  refine w_aload (pc' := 608) k188_607 rfl rfl ?_
  refine w_iload (pc' := 609) k188_608 rfl rfl ?_
  refine w_c1 (pc' := 610) k188_609 rfl ?_
  refine w_iadd (pc' := 611) k188_610 rfl (by omega) ?_
  refine w_sld (pc' := 612) k188_611 rfl (by omega) ?_
  refine w_callI (pc' := 615) (as := [.inr (some 0), .inl _, .inl _, .inl _]) k188_612 rfl rfl (co_v rfl rfl (hL.1 0 (10, 12) rfl)) (by decide) (m85 hF t7) (fun z_612 h_612 hq => ?_)
  obtain ⟨e9, I_1, rfl, s1⟩ := hq
  obtain rfl := Sum.inl.inj e9
  have hG1 := hG.scr s1
  have hM1 := hM0.kc hM (fun a q1 q2 => s1 a (by omega))
  have hMF1 : MF sh R I_1 K H E HO S L B A := hM1.1
  refine w_aload (pc' := 616) k188_615 rfl rfl ?_
  refine w_aload (pc' := 617) k188_616 rfl rfl ?_
  refine w_iload (pc' := 618) k188_617 rfl rfl ?_
  refine w_c1 (pc' := 619) k188_618 rfl ?_
  refine w_iadd (pc' := 620) k188_619 rfl (by omega) ?_
  refine w_sld (pc' := 621) k188_620 rfl (by omega) ?_
  refine w_aload (pc' := 622) k188_621 rfl rfl ?_
  refine w_iload (pc' := 623) k188_622 rfl rfl ?_
  refine w_c1 (pc' := 624) k188_623 rfl ?_
  refine w_iadd (pc' := 625) k188_624 rfl (by omega) ?_
  refine w_sld (pc' := 626) k188_625 rfl (by omega) ?_
  refine w_aload (pc' := 627) k188_626 rfl rfl ?_
  refine w_iload (pc' := 628) k188_627 rfl rfl ?_
  refine w_c1 (pc' := 629) k188_628 rfl ?_
  refine w_iadd (pc' := 630) k188_629 rfl (by omega) ?_
  refine w_sld (pc' := 631) k188_630 rfl (by omega) ?_
  refine w_callI (pc' := 634) (as := [.inr (some 57), .inl _, .inl _, .inl _]) k188_631 rfl rfl (co_v rfl rfl (hM.1 57 (11, 30) rfl)) (by decide) (m166 hMF1) (fun z_631 h_631 hq => ?_)
  obtain ⟨e8, I_2, rfl, m1, m2⟩ := hq
  obtain rfl := Sum.inl.inj e8
  refine w_ic_eq (pc' := 637) k188_634 rfl (fun c_634 => ?_) (fun c_634 => absurd c_634 (fun z9 => z9 rfl))
  refine w_iinc (pc' := 1001) (ls' := [_, _, _, _]) k188_998 rfl rfl (by omega) rfl ?_
  refine w_goto k188_1001 ?_
  exact ih _ _ _ _ K H E HO S L (B) _ _ _ (A, A1, A2, u) tx len _ _ ⟨hG1.km (fun a q => m1 a (Or.inl q)), hM1.qm m1 m2, by omega, hMs⟩ (by omega) (by omega)
theorem lc17 (ih : LAWG X d n) (hX : X.1 ≤ 2560) (hi : 0 ≤ i ∧ i ≤ (X.1 : Int) - 5) (hn : (X.1 : Int) - i < 5 * ((n : Int) + 1 + 1)) (hW : LWI sh R I K H E HO S L B ρ γ M (A, A1, A2, u) tx len (n + 1) bc bs) : WP X (d + 10) 188 639 [.inr (some SCR), .inr (some 0), .inr (some 57), .inl i] [] (sh, R, I) bc bs (fun r _ => r = .inl 1) := by
  obtain ⟨hG, hM0, hBn, hMs⟩ := hW
  have hG : CG sh R I K H E HO S L B ρ γ M A A1 A2 u tx len := hG
  have hF := hG.cf
  have hL := hG.1
  have hM := hM0.1.1
  have t7 := (hG.2.2.2.1 7 (by decide) (by decide)).2
  have hM1 := hM0
  have hG1 := hG
  have hMF1 : MF sh R I K H E HO S L B A := hM1.1
  refine w_aload (pc' := 640) k188_639 rfl rfl ?_
  refine w_aload (pc' := 641) k188_640 rfl rfl ?_
  refine w_iload (pc' := 642) k188_641 rfl rfl ?_
  refine w_c1 (pc' := 643) k188_642 rfl ?_
  refine w_iadd (pc' := 644) k188_643 rfl (by omega) ?_
  refine w_sld (pc' := 645) k188_644 rfl (by omega) ?_
  refine w_aload (pc' := 646) k188_645 rfl rfl ?_
  refine w_iload (pc' := 647) k188_646 rfl rfl ?_
  refine w_c1 (pc' := 648) k188_647 rfl ?_
  refine w_iadd (pc' := 649) k188_648 rfl (by omega) ?_
  refine w_sld (pc' := 650) k188_649 rfl (by omega) ?_
  refine w_callE (pc' := 653) (as := [.inr (some 0), .inl _, .inl _]) k188_650 rfl rfl (co_v rfl rfl (hL.1 0 (10, 12) rfl)) (by decide) (m86 hF t7) ?_
  refine w_aload (pc' := 654) k188_653 rfl rfl ?_
  refine w_aload (pc' := 655) k188_654 rfl rfl ?_
  refine w_iload (pc' := 656) k188_655 rfl rfl ?_
  refine w_c1 (pc' := 657) k188_656 rfl ?_
  refine w_iadd (pc' := 658) k188_657 rfl (by omega) ?_
  refine w_sld (pc' := 659) k188_658 rfl (by omega) ?_
  refine w_aload (pc' := 660) k188_659 rfl rfl ?_
  refine w_iload (pc' := 661) k188_660 rfl rfl ?_
  refine w_c1 (pc' := 662) k188_661 rfl ?_
  refine w_iadd (pc' := 663) k188_662 rfl (by omega) ?_
  refine w_sld (pc' := 664) k188_663 rfl (by omega) ?_
  refine w_callE (pc' := 667) (as := [.inr (some 57), .inl _, .inl _]) k188_664 rfl rfl (co_v rfl rfl (hM.1 57 (11, 30) rfl)) (by decide) (m168 hMF1) ?_
  refine w_ic_eq (pc' := 670) k188_667 rfl (fun c_667 => ?_) (fun c_667 => absurd c_667 (fun z9 => z9 rfl))
  refine w_iinc (pc' := 1001) (ls' := [_, _, _, _]) k188_998 rfl rfl (by omega) rfl ?_
  refine w_goto k188_1001 ?_
  exact ih _ _ _ _ K H E HO S L (B) _ _ _ (A, A1, A2, u) tx len _ _ ⟨hG1, hM1, by omega, hMs⟩ (by omega) (by omega)
theorem lc18 (ih : LAWG X d n) (hX : X.1 ≤ 2560) (hi : 0 ≤ i ∧ i ≤ (X.1 : Int) - 5) (hn : (X.1 : Int) - i < 5 * ((n : Int) + 1 + 1)) (hW : LWI sh R I K H E HO S L B ρ γ M (A, A1, A2, u) tx len (n + 1) bc bs) : WP X (d + 10) 188 672 [.inr (some SCR), .inr (some 0), .inr (some 57), .inl i] [] (sh, R, I) bc bs (fun r _ => r = .inl 1) := by
  obtain ⟨hG, hM0, hBn, hMs⟩ := hW
  have hG : CG sh R I K H E HO S L B ρ γ M A A1 A2 u tx len := hG
  have hF := hG.cf
  have hL := hG.1
  have hM := hM0.1.1
  have t7 := (hG.2.2.2.1 7 (by decide) (by decide)).2
  refine w_aload (pc' := 673) k188_672 rfl rfl ?_
  refine w_aload (pc' := 674) k188_673 rfl rfl ?_
  refine w_iload (pc' := 675) k188_674 rfl rfl ?_
  refine w_c1 (pc' := 676) k188_675 rfl ?_
  refine w_iadd (pc' := 677) k188_676 rfl (by omega) ?_
  refine w_sld (pc' := 678) k188_677 rfl (by omega) ?_
  refine w_callI (pc' := 681) (as := [.inr (some 0), .inl _]) k188_678 rfl rfl (co_v rfl rfl (hL.1 0 (10, 12) rfl)) (by decide) (m87 hF t7) (fun z_678 h_678 hq => ?_)
  obtain ⟨v9, e9, p9, I_1, rfl, s1⟩ := hq
  obtain rfl := Sum.inl.inj e9
  have hG1 := hG.scr s1
  have hM1 := hM0.kc hM (fun a q1 q2 => s1 a (by omega))
  have hMF1 : MF sh R I_1 K H E HO S L B A := hM1.1
  refine w_aload (pc' := 682) k188_681 rfl rfl ?_
  refine w_aload (pc' := 683) k188_682 rfl rfl ?_
  refine w_iload (pc' := 684) k188_683 rfl rfl ?_
  refine w_c1 (pc' := 685) k188_684 rfl ?_
  refine w_iadd (pc' := 686) k188_685 rfl (by omega) ?_
  refine w_sld (pc' := 687) k188_686 rfl (by omega) ?_
  refine w_callI (pc' := 690) (as := [.inr (some 57), .inl _]) k188_687 rfl rfl (co_v rfl rfl (hM.1 57 (11, 30) rfl)) (by decide) (m169 hMF1) (fun z_687 h_687 hq => ?_)
  obtain ⟨v8, e8, p8, I_2, rfl, sc⟩ := hq
  obtain rfl := Sum.inl.inj e8
  obtain rfl := pairR_fn p9 p8
  refine w_ic_eq (pc' := 693) k188_690 rfl (fun c_690 => ?_) (fun c_690 => absurd c_690 (fun z9 => z9 rfl))
  refine w_iinc (pc' := 1001) (ls' := [_, _, _, _]) k188_998 rfl rfl (by omega) rfl ?_
  refine w_goto k188_1001 ?_
  exact ih _ _ _ _ K H E HO S L (B) _ _ _ (A, A1, A2, u) tx len _ _ ⟨hG1.km (fun a q => sc.1 a (by omega) (by omega) (by omega)), hM1.sc sc, by omega, hMs⟩ (by omega) (by omega)
theorem lc19 (ih : LAWG X d n) (hX : X.1 ≤ 2560) (hi : 0 ≤ i ∧ i ≤ (X.1 : Int) - 5) (hn : (X.1 : Int) - i < 5 * ((n : Int) + 1 + 1)) (hW : LWI sh R I K H E HO S L B ρ γ M (A, A1, A2, u) tx len (n + 1) bc bs) : WP X (d + 10) 188 695 [.inr (some SCR), .inr (some 0), .inr (some 57), .inl i] [] (sh, R, I) bc bs (fun r _ => r = .inl 1) := by
  obtain ⟨hG, hM0, hBn, hMs⟩ := hW
  have hG : CG sh R I K H E HO S L B ρ γ M A A1 A2 u tx len := hG
  have hF := hG.cf
  have hL := hG.1
  have hM := hM0.1.1
  have t7 := (hG.2.2.2.1 7 (by decide) (by decide)).2
  have hM1 := hM0
  have hG1 := hG
  have hMF1 : MF sh R I K H E HO S L B A := hM1.1
  refine w_aload (pc' := 696) k188_695 rfl rfl ?_
  refine w_aload (pc' := 697) k188_696 rfl rfl ?_
  refine w_iload (pc' := 698) k188_697 rfl rfl ?_
  refine w_c1 (pc' := 699) k188_698 rfl ?_
  refine w_iadd (pc' := 700) k188_699 rfl (by omega) ?_
  refine w_sld (pc' := 701) k188_700 rfl (by omega) ?_
  refine w_callE (pc' := 704) (as := [.inr (some 0), .inl _]) k188_701 rfl rfl (co_v rfl rfl (hL.1 0 (10, 12) rfl)) (by decide) (m88 hF t7) ?_
  refine w_aload (pc' := 705) k188_704 rfl rfl ?_
  refine w_aload (pc' := 706) k188_705 rfl rfl ?_
  refine w_iload (pc' := 707) k188_706 rfl rfl ?_
  refine w_c1 (pc' := 708) k188_707 rfl ?_
  refine w_iadd (pc' := 709) k188_708 rfl (by omega) ?_
  refine w_sld (pc' := 710) k188_709 rfl (by omega) ?_
  refine w_callI (pc' := 713) (as := [.inr (some 57), .inl _]) k188_710 rfl rfl (co_v rfl rfl (hM.1 57 (11, 30) rfl)) (by decide) (m170 hMF1 (by omega)) (fun z_710 h_710 hq => ?_)
  obtain ⟨e8, I_2, rfl, m1, m2⟩ := hq
  obtain rfl := Sum.inl.inj e8
  refine w_ic_eq (pc' := 716) k188_713 rfl (fun c_713 => ?_) (fun c_713 => absurd c_713 (fun z9 => z9 rfl))
  refine w_iinc (pc' := 1001) (ls' := [_, _, _, _]) k188_998 rfl rfl (by omega) rfl ?_
  refine w_goto k188_1001 ?_
  exact ih _ _ _ _ K H E HO S L (B) _ _ _ (A, A1, A2, u) tx len _ _ ⟨hG1.km (fun a q => m1 a (Or.inl q)), hM1.qm m1 m2, by omega, hMs⟩ (by omega) (by omega)
theorem lc20 (ih : LAWG X d n) (hX : X.1 ≤ 2560) (hi : 0 ≤ i ∧ i ≤ (X.1 : Int) - 5) (hn : (X.1 : Int) - i < 5 * ((n : Int) + 1 + 1)) (hW : LWI sh R I K H E HO S L B ρ γ M (A, A1, A2, u) tx len (n + 1) bc bs) : WP X (d + 10) 188 718 [.inr (some SCR), .inr (some 0), .inr (some 57), .inl i] [] (sh, R, I) bc bs (fun r _ => r = .inl 1) := by
  obtain ⟨hG, hM0, hBn, hMs⟩ := hW
  have hG : CG sh R I K H E HO S L B ρ γ M A A1 A2 u tx len := hG
  have hF := hG.cf
  have hL := hG.1
  have hM := hM0.1.1
  have t7 := (hG.2.2.2.1 7 (by decide) (by decide)).2
  refine w_aload (pc' := 719) k188_718 rfl rfl ?_
  refine w_aload (pc' := 720) k188_719 rfl rfl ?_
  refine w_iload (pc' := 721) k188_720 rfl rfl ?_
  refine w_c1 (pc' := 722) k188_721 rfl ?_
  refine w_iadd (pc' := 723) k188_722 rfl (by omega) ?_
  refine w_sld (pc' := 724) k188_723 rfl (by omega) ?_
  refine w_callI (pc' := 727) (as := [.inr (some 0), .inl _]) k188_724 rfl rfl (co_v rfl rfl (hL.1 0 (10, 12) rfl)) (by decide) (m89 hF t7) (fun z_724 h_724 hq => ?_)
  obtain ⟨e9, I_1, rfl, s1⟩ := hq
  obtain rfl := Sum.inl.inj e9
  have hG1 := hG.scr s1
  have hM1 := hM0.kc hM (fun a q1 q2 => s1 a (by omega))
  have hMF1 : MF sh R I_1 K H E HO S L B A := hM1.1
  refine w_aload (pc' := 728) k188_727 rfl rfl ?_
  refine w_aload (pc' := 729) k188_728 rfl rfl ?_
  refine w_iload (pc' := 730) k188_729 rfl rfl ?_
  refine w_c1 (pc' := 731) k188_730 rfl ?_
  refine w_iadd (pc' := 732) k188_731 rfl (by omega) ?_
  refine w_sld (pc' := 733) k188_732 rfl (by omega) ?_
  refine w_callI (pc' := 736) (as := [.inr (some 57), .inl _]) k188_733 rfl rfl (co_v rfl rfl (hM.1 57 (11, 30) rfl)) (by decide) (m173 hMF1) (fun z_733 h_733 hq => ?_)
  obtain ⟨e8, I_2, rfl, m1, m2⟩ := hq
  obtain rfl := Sum.inl.inj e8
  refine w_ic_eq (pc' := 739) k188_736 rfl (fun c_736 => ?_) (fun c_736 => absurd c_736 (fun z9 => z9 rfl))
  refine w_iinc (pc' := 1001) (ls' := [_, _, _, _]) k188_998 rfl rfl (by omega) rfl ?_
  refine w_goto k188_1001 ?_
  exact ih _ _ _ _ K H E HO S L (B) _ _ _ (A, A1, A2, u) tx len _ _ ⟨hG1.km (fun a q => m1 a (Or.inl q)), hM1.qm m1 m2, by omega, hMs⟩ (by omega) (by omega)
theorem lc21 (ih : LAWG X d n) (hX : X.1 ≤ 2560) (hi : 0 ≤ i ∧ i ≤ (X.1 : Int) - 5) (hn : (X.1 : Int) - i < 5 * ((n : Int) + 1 + 1)) (hW : LWI sh R I K H E HO S L B ρ γ M (A, A1, A2, u) tx len (n + 1) bc bs) : WP X (d + 10) 188 741 [.inr (some SCR), .inr (some 0), .inr (some 57), .inl i] [] (sh, R, I) bc bs (fun r _ => r = .inl 1) := by
  obtain ⟨hG, hM0, hBn, hMs⟩ := hW
  have hG : CG sh R I K H E HO S L B ρ γ M A A1 A2 u tx len := hG
  have hF := hG.cf
  have hL := hG.1
  have hM := hM0.1.1
  have t7 := (hG.2.2.2.1 7 (by decide) (by decide)).2
  refine w_aload (pc' := 742) k188_741 rfl rfl ?_
  refine w_aload (pc' := 743) k188_742 rfl rfl ?_
  refine w_iload (pc' := 744) k188_743 rfl rfl ?_
  refine w_c1 (pc' := 745) k188_744 rfl ?_
  refine w_iadd (pc' := 746) k188_745 rfl (by omega) ?_
  refine w_sld (pc' := 747) k188_746 rfl (by omega) ?_
  refine w_aload (pc' := 748) k188_747 rfl rfl ?_
  refine w_iload (pc' := 749) k188_748 rfl rfl ?_
  refine w_c1 (pc' := 750) k188_749 rfl ?_
  refine w_iadd (pc' := 751) k188_750 rfl (by omega) ?_
  refine w_sld (pc' := 752) k188_751 rfl (by omega) ?_
  refine w_aload (pc' := 753) k188_752 rfl rfl ?_
  refine w_iload (pc' := 754) k188_753 rfl rfl ?_
  refine w_c1 (pc' := 755) k188_754 rfl ?_
  refine w_iadd (pc' := 756) k188_755 rfl (by omega) ?_
  refine w_sld (pc' := 757) k188_756 rfl (by omega) ?_
  refine w_callI (pc' := 760) (as := [.inr (some 0), .inl _, .inl _, .inl _]) k188_757 rfl rfl (co_v rfl rfl (hL.1 0 (10, 12) rfl)) (by decide) (m90 hG (by omega)) (fun z_757 h_757 hq => ?_)
  obtain ⟨e9, R_1, I_1, ρ_1, rfl, i1, rf1, g1⟩ := hq
  obtain rfl := Sum.inl.inj e9
  have hM1 := hM0.kc (hM.rf rf1) i1
  refine w_aload (pc' := 761) k188_760 rfl rfl ?_
  refine w_aload (pc' := 762) k188_761 rfl rfl ?_
  refine w_iload (pc' := 763) k188_762 rfl rfl ?_
  refine w_c1 (pc' := 764) k188_763 rfl ?_
  refine w_iadd (pc' := 765) k188_764 rfl (by omega) ?_
  refine w_sld (pc' := 766) k188_765 rfl (by omega) ?_
  refine w_aload (pc' := 767) k188_766 rfl rfl ?_
  refine w_iload (pc' := 768) k188_767 rfl rfl ?_
  refine w_c1 (pc' := 769) k188_768 rfl ?_
  refine w_iadd (pc' := 770) k188_769 rfl (by omega) ?_
  refine w_sld (pc' := 771) k188_770 rfl (by omega) ?_
  refine w_aload (pc' := 772) k188_771 rfl rfl ?_
  refine w_iload (pc' := 773) k188_772 rfl rfl ?_
  refine w_c1 (pc' := 774) k188_773 rfl ?_
  refine w_iadd (pc' := 775) k188_774 rfl (by omega) ?_
  refine w_sld (pc' := 776) k188_775 rfl (by omega) ?_
  refine w_callI (pc' := 779) (as := [.inr (some 57), .inl _, .inl _, .inl _]) k188_776 rfl rfl (co_v rfl rfl (hM.1 57 (11, 30) rfl)) (by decide) (m175 hM1 (by omega)) (fun z_776 h_776 hq => ?_)
  obtain ⟨e8, I_2, rfl, i2, g2⟩ := hq
  obtain rfl := Sum.inl.inj e8
  refine w_ic_eq (pc' := 782) k188_779 rfl (fun c_779 => ?_) (fun c_779 => absurd c_779 (fun z9 => z9 rfl))
  refine w_iinc (pc' := 1001) (ls' := [_, _, _, _]) k188_998 rfl rfl (by omega) rfl ?_
  refine w_goto k188_1001 ?_
  exact ih _ _ _ _ K H E HO S L (B + 1) _ _ _ (flowZ HO (A, A1, A2, u) (X.2 (i + 1)) (X.2 (i + 2)) (X.2 (i + 3))) tx len _ _ ⟨CG.km g1 (fun a q => i2 a q), g2, by omega, hMs⟩ (by omega) (by omega)
theorem lc22 (ih : LAWG X d n) (hX : X.1 ≤ 2560) (hi : 0 ≤ i ∧ i ≤ (X.1 : Int) - 5) (hn : (X.1 : Int) - i < 5 * ((n : Int) + 1 + 1)) (hW : LWI sh R I K H E HO S L B ρ γ M (A, A1, A2, u) tx len (n + 1) bc bs) : WP X (d + 10) 188 784 [.inr (some SCR), .inr (some 0), .inr (some 57), .inl i] [] (sh, R, I) bc bs (fun r _ => r = .inl 1) := by
  obtain ⟨hG, hM0, hBn, hMs⟩ := hW
  have hG : CG sh R I K H E HO S L B ρ γ M A A1 A2 u tx len := hG
  have hF := hG.cf
  have hL := hG.1
  have hM := hM0.1.1
  have t7 := (hG.2.2.2.1 7 (by decide) (by decide)).2
  refine w_aload (pc' := 785) k188_784 rfl rfl ?_
  refine w_aload (pc' := 786) k188_785 rfl rfl ?_
  refine w_iload (pc' := 787) k188_786 rfl rfl ?_
  refine w_c1 (pc' := 788) k188_787 rfl ?_
  refine w_iadd (pc' := 789) k188_788 rfl (by omega) ?_
  refine w_sld (pc' := 790) k188_789 rfl (by omega) ?_
  refine w_callI (pc' := 793) (as := [.inr (some 0), .inl _]) k188_790 rfl rfl (co_v rfl rfl (hL.1 0 (10, 12) rfl)) (by decide) (m91 hG (by omega)) (fun z_790 h_790 hq => ?_)
  obtain ⟨e9, R_1, I_1, ρ_1, rfl, i1, rf1, g1⟩ := hq
  obtain rfl := Sum.inl.inj e9
  have hM1 := hM0.kc (hM.rf rf1) i1
  refine w_aload (pc' := 794) k188_793 rfl rfl ?_
  refine w_aload (pc' := 795) k188_794 rfl rfl ?_
  refine w_iload (pc' := 796) k188_795 rfl rfl ?_
  refine w_c1 (pc' := 797) k188_796 rfl ?_
  refine w_iadd (pc' := 798) k188_797 rfl (by omega) ?_
  refine w_sld (pc' := 799) k188_798 rfl (by omega) ?_
  refine w_callI (pc' := 802) (as := [.inr (some 57), .inl _]) k188_799 rfl rfl (co_v rfl rfl (hM.1 57 (11, 30) rfl)) (by decide) (m176 hM1 (by omega)) (fun z_799 h_799 hq => ?_)
  obtain ⟨e8, I_2, rfl, i2, g2⟩ := hq
  obtain rfl := Sum.inl.inj e8
  refine w_ic_eq (pc' := 805) k188_802 rfl (fun c_802 => ?_) (fun c_802 => absurd c_802 (fun z9 => z9 rfl))
  refine w_iinc (pc' := 1001) (ls' := [_, _, _, _]) k188_998 rfl rfl (by omega) rfl ?_
  refine w_goto k188_1001 ?_
  exact ih _ _ _ _ K H E HO S L (B + 1) _ _ _ (dropZ (A, A1, A2, u) (X.2 (i + 1))) tx len _ _ ⟨CG.km g1 (fun a q => i2 a q), g2, by omega, hMs⟩ (by omega) (by omega)
theorem lc23 (ih : LAWG X d n) (hX : X.1 ≤ 2560) (hi : 0 ≤ i ∧ i ≤ (X.1 : Int) - 5) (hn : (X.1 : Int) - i < 5 * ((n : Int) + 1 + 1)) (hW : LWI sh R I K H E HO S L B ρ γ M (A, A1, A2, u) tx len (n + 1) bc bs) : WP X (d + 10) 188 807 [.inr (some SCR), .inr (some 0), .inr (some 57), .inl i] [] (sh, R, I) bc bs (fun r _ => r = .inl 1) := by
  obtain ⟨hG, hM0, hBn, hMs⟩ := hW
  have hG : CG sh R I K H E HO S L B ρ γ M A A1 A2 u tx len := hG
  have hF := hG.cf
  have hL := hG.1
  have hM := hM0.1.1
  have t7 := (hG.2.2.2.1 7 (by decide) (by decide)).2
  refine w_aload (pc' := 808) k188_807 rfl rfl ?_
  refine w_aload (pc' := 809) k188_808 rfl rfl ?_
  refine w_iload (pc' := 810) k188_809 rfl rfl ?_
  refine w_c1 (pc' := 811) k188_810 rfl ?_
  refine w_iadd (pc' := 812) k188_811 rfl (by omega) ?_
  refine w_sld (pc' := 813) k188_812 rfl (by omega) ?_
  refine w_aload (pc' := 814) k188_813 rfl rfl ?_
  refine w_iload (pc' := 815) k188_814 rfl rfl ?_
  refine w_c1 (pc' := 816) k188_815 rfl ?_
  refine w_iadd (pc' := 817) k188_816 rfl (by omega) ?_
  refine w_sld (pc' := 818) k188_817 rfl (by omega) ?_
  refine w_callI (pc' := 821) (as := [.inr (some 0), .inl _, .inl _]) k188_818 rfl rfl (co_v rfl rfl (hL.1 0 (10, 12) rfl)) (by decide) (m92 hG (by omega)) (fun z_818 h_818 hq => ?_)
  obtain ⟨e9, R_1, I_1, ρ_1, rfl, i1, rf1, g1⟩ := hq
  obtain rfl := Sum.inl.inj e9
  have hM1 := hM0.kc (hM.rf rf1) i1
  refine w_aload (pc' := 822) k188_821 rfl rfl ?_
  refine w_aload (pc' := 823) k188_822 rfl rfl ?_
  refine w_iload (pc' := 824) k188_823 rfl rfl ?_
  refine w_c1 (pc' := 825) k188_824 rfl ?_
  refine w_iadd (pc' := 826) k188_825 rfl (by omega) ?_
  refine w_sld (pc' := 827) k188_826 rfl (by omega) ?_
  refine w_aload (pc' := 828) k188_827 rfl rfl ?_
  refine w_iload (pc' := 829) k188_828 rfl rfl ?_
  refine w_c1 (pc' := 830) k188_829 rfl ?_
  refine w_iadd (pc' := 831) k188_830 rfl (by omega) ?_
  refine w_sld (pc' := 832) k188_831 rfl (by omega) ?_
  refine w_callI (pc' := 835) (as := [.inr (some 57), .inl _, .inl _]) k188_832 rfl rfl (co_v rfl rfl (hM.1 57 (11, 30) rfl)) (by decide) (m177 hM1 (by omega)) (fun z_832 h_832 hq => ?_)
  obtain ⟨e8, I_2, rfl, i2, g2⟩ := hq
  obtain rfl := Sum.inl.inj e8
  refine w_ic_eq (pc' := 838) k188_835 rfl (fun c_835 => ?_) (fun c_835 => absurd c_835 (fun z9 => z9 rfl))
  refine w_iinc (pc' := 1001) (ls' := [_, _, _, _]) k188_998 rfl rfl (by omega) rfl ?_
  refine w_goto k188_1001 ?_
  exact ih _ _ _ _ K H E HO S L (B + 1) _ _ _ (shifZ H (A, A1, A2, u) (X.2 (i + 1)) (X.2 (i + 2))) tx len _ _ ⟨CG.km g1 (fun a q => i2 a q), g2, by omega, hMs⟩ (by omega) (by omega)
theorem lc24 (ih : LAWG X d n) (hX : X.1 ≤ 2560) (hi : 0 ≤ i ∧ i ≤ (X.1 : Int) - 5) (hn : (X.1 : Int) - i < 5 * ((n : Int) + 1 + 1)) (hW : LWI sh R I K H E HO S L B ρ γ M (A, A1, A2, u) tx len (n + 1) bc bs) : WP X (d + 10) 188 840 [.inr (some SCR), .inr (some 0), .inr (some 57), .inl i] [] (sh, R, I) bc bs (fun r _ => r = .inl 1) := by
  obtain ⟨hG, hM0, hBn, hMs⟩ := hW
  have hG : CG sh R I K H E HO S L B ρ γ M A A1 A2 u tx len := hG
  have hF := hG.cf
  have hL := hG.1
  have hM := hM0.1.1
  have t7 := (hG.2.2.2.1 7 (by decide) (by decide)).2
  refine w_aload (pc' := 841) k188_840 rfl rfl ?_
  refine w_aload (pc' := 842) k188_841 rfl rfl ?_
  refine w_iload (pc' := 843) k188_842 rfl rfl ?_
  refine w_c1 (pc' := 844) k188_843 rfl ?_
  refine w_iadd (pc' := 845) k188_844 rfl (by omega) ?_
  refine w_sld (pc' := 846) k188_845 rfl (by omega) ?_
  refine w_aload (pc' := 847) k188_846 rfl rfl ?_
  refine w_iload (pc' := 848) k188_847 rfl rfl ?_
  refine w_c1 (pc' := 849) k188_848 rfl ?_
  refine w_iadd (pc' := 850) k188_849 rfl (by omega) ?_
  refine w_sld (pc' := 851) k188_850 rfl (by omega) ?_
  refine w_callI (pc' := 854) (as := [.inr (some 0), .inl _, .inl _]) k188_851 rfl rfl (co_v rfl rfl (hL.1 0 (10, 12) rfl)) (by decide) (m93 hF t7) (fun z_851 h_851 hq => ?_)
  obtain ⟨e9, I_1, rfl, s1⟩ := hq
  obtain rfl := Sum.inl.inj e9
  have hG1 := hG.scr s1
  have hM1 := hM0.kc hM (fun a q1 q2 => s1 a (by omega))
  have hMF1 : MF sh R I_1 K H E HO S L B A := hM1.1
  refine w_aload (pc' := 855) k188_854 rfl rfl ?_
  refine w_aload (pc' := 856) k188_855 rfl rfl ?_
  refine w_iload (pc' := 857) k188_856 rfl rfl ?_
  refine w_c1 (pc' := 858) k188_857 rfl ?_
  refine w_iadd (pc' := 859) k188_858 rfl (by omega) ?_
  refine w_sld (pc' := 860) k188_859 rfl (by omega) ?_
  refine w_aload (pc' := 861) k188_860 rfl rfl ?_
  refine w_iload (pc' := 862) k188_861 rfl rfl ?_
  refine w_c1 (pc' := 863) k188_862 rfl ?_
  refine w_iadd (pc' := 864) k188_863 rfl (by omega) ?_
  refine w_sld (pc' := 865) k188_864 rfl (by omega) ?_
  refine w_callI (pc' := 868) (as := [.inr (some 57), .inl _, .inl _]) k188_865 rfl rfl (co_v rfl rfl (hM.1 57 (11, 30) rfl)) (by decide) (m181 hMF1) (fun z_865 h_865 hq => ?_)
  obtain ⟨e8, I_2, rfl, m1, m2⟩ := hq
  obtain rfl := Sum.inl.inj e8
  refine w_ic_eq (pc' := 871) k188_868 rfl (fun c_868 => ?_) (fun c_868 => absurd c_868 (fun z9 => z9 rfl))
  refine w_iinc (pc' := 1001) (ls' := [_, _, _, _]) k188_998 rfl rfl (by omega) rfl ?_
  refine w_goto k188_1001 ?_
  exact ih _ _ _ _ K H E HO S L (B) _ _ _ (A, A1, A2, u) tx len _ _ ⟨hG1.km (fun a q => m1 a (Or.inl q)), hM1.qm m1 m2, by omega, hMs⟩ (by omega) (by omega)
theorem lc25 (ih : LAWG X d n) (hX : X.1 ≤ 2560) (hi : 0 ≤ i ∧ i ≤ (X.1 : Int) - 5) (hn : (X.1 : Int) - i < 5 * ((n : Int) + 1 + 1)) (hW : LWI sh R I K H E HO S L B ρ γ M (A, A1, A2, u) tx len (n + 1) bc bs) : WP X (d + 10) 188 873 [.inr (some SCR), .inr (some 0), .inr (some 57), .inl i] [] (sh, R, I) bc bs (fun r _ => r = .inl 1) := by
  obtain ⟨hG, hM0, hBn, hMs⟩ := hW
  have hG : CG sh R I K H E HO S L B ρ γ M A A1 A2 u tx len := hG
  have hF := hG.cf
  have hL := hG.1
  have hM := hM0.1.1
  have t7 := (hG.2.2.2.1 7 (by decide) (by decide)).2
  refine w_aload (pc' := 874) k188_873 rfl rfl ?_
  refine w_aload (pc' := 875) k188_874 rfl rfl ?_
  refine w_iload (pc' := 876) k188_875 rfl rfl ?_
  refine w_c1 (pc' := 877) k188_876 rfl ?_
  refine w_iadd (pc' := 878) k188_877 rfl (by omega) ?_
  refine w_sld (pc' := 879) k188_878 rfl (by omega) ?_
  refine w_aload (pc' := 880) k188_879 rfl rfl ?_
  refine w_iload (pc' := 881) k188_880 rfl rfl ?_
  refine w_c1 (pc' := 882) k188_881 rfl ?_
  refine w_iadd (pc' := 883) k188_882 rfl (by omega) ?_
  refine w_sld (pc' := 884) k188_883 rfl (by omega) ?_
  refine w_aload (pc' := 885) k188_884 rfl rfl ?_
  refine w_iload (pc' := 886) k188_885 rfl rfl ?_
  refine w_c1 (pc' := 887) k188_886 rfl ?_
  refine w_iadd (pc' := 888) k188_887 rfl (by omega) ?_
  refine w_sld (pc' := 889) k188_888 rfl (by omega) ?_
  refine w_callI (pc' := 892) (as := [.inr (some 0), .inl _, .inl _, .inl _]) k188_889 rfl rfl (co_v rfl rfl (hL.1 0 (10, 12) rfl)) (by decide) (m94 hF t7) (fun z_889 h_889 hq => ?_)
  obtain ⟨e9, I_1, rfl, s1⟩ := hq
  obtain rfl := Sum.inl.inj e9
  have hG1 := hG.scr s1
  have hM1 := hM0.kc hM (fun a q1 q2 => s1 a (by omega))
  have hMF1 : MF sh R I_1 K H E HO S L B A := hM1.1
  refine w_aload (pc' := 893) k188_892 rfl rfl ?_
  refine w_aload (pc' := 894) k188_893 rfl rfl ?_
  refine w_iload (pc' := 895) k188_894 rfl rfl ?_
  refine w_c1 (pc' := 896) k188_895 rfl ?_
  refine w_iadd (pc' := 897) k188_896 rfl (by omega) ?_
  refine w_sld (pc' := 898) k188_897 rfl (by omega) ?_
  refine w_aload (pc' := 899) k188_898 rfl rfl ?_
  refine w_iload (pc' := 900) k188_899 rfl rfl ?_
  refine w_c1 (pc' := 901) k188_900 rfl ?_
  refine w_iadd (pc' := 902) k188_901 rfl (by omega) ?_
  refine w_sld (pc' := 903) k188_902 rfl (by omega) ?_
  refine w_aload (pc' := 904) k188_903 rfl rfl ?_
  refine w_iload (pc' := 905) k188_904 rfl rfl ?_
  refine w_c1 (pc' := 906) k188_905 rfl ?_
  refine w_iadd (pc' := 907) k188_906 rfl (by omega) ?_
  refine w_sld (pc' := 908) k188_907 rfl (by omega) ?_
  refine w_callI (pc' := 911) (as := [.inr (some 57), .inl _, .inl _, .inl _]) k188_908 rfl rfl (co_v rfl rfl (hM.1 57 (11, 30) rfl)) (by decide) (m182 hMF1) (fun z_908 h_908 hq => ?_)
  obtain ⟨e8, I_2, rfl, m1, m2⟩ := hq
  obtain rfl := Sum.inl.inj e8
  refine w_ic_eq (pc' := 914) k188_911 rfl (fun c_911 => ?_) (fun c_911 => absurd c_911 (fun z9 => z9 rfl))
  refine w_iinc (pc' := 1001) (ls' := [_, _, _, _]) k188_998 rfl rfl (by omega) rfl ?_
  refine w_goto k188_1001 ?_
  exact ih _ _ _ _ K H E HO S L (B) _ _ _ (A, A1, A2, u) tx len _ _ ⟨hG1.km (fun a q => m1 a (Or.inl q)), hM1.qm m1 m2, by omega, hMs⟩ (by omega) (by omega)
theorem lc26 (ih : LAWG X d n) (hX : X.1 ≤ 2560) (hi : 0 ≤ i ∧ i ≤ (X.1 : Int) - 5) (hn : (X.1 : Int) - i < 5 * ((n : Int) + 1 + 1)) (hW : LWI sh R I K H E HO S L B ρ γ M (A, A1, A2, u) tx len (n + 1) bc bs) : WP X (d + 10) 188 916 [.inr (some SCR), .inr (some 0), .inr (some 57), .inl i] [] (sh, R, I) bc bs (fun r _ => r = .inl 1) := by
  obtain ⟨hG, hM0, hBn, hMs⟩ := hW
  have hG : CG sh R I K H E HO S L B ρ γ M A A1 A2 u tx len := hG
  have hF := hG.cf
  have hL := hG.1
  have hM := hM0.1.1
  have t7 := (hG.2.2.2.1 7 (by decide) (by decide)).2
  refine w_aload (pc' := 917) k188_916 rfl rfl ?_
  refine w_callI (pc' := 920) (as := [.inr (some 0)]) k188_917 rfl rfl (co_v rfl rfl (hL.1 0 (10, 12) rfl)) (by decide) (m95 hF t7) (fun z_917 h_917 hq => ?_)
  obtain ⟨e9, I_1, rfl, s1⟩ := hq
  obtain rfl := Sum.inl.inj e9
  have hG1 := hG.scr s1
  have hM1 := hM0.kc hM (fun a q1 q2 => s1 a (by omega))
  have hMF1 : MF sh R I_1 K H E HO S L B A := hM1.1
  refine w_aload (pc' := 921) k188_920 rfl rfl ?_
  refine w_callI (pc' := 924) (as := [.inr (some 57)]) k188_921 rfl rfl (co_v rfl rfl (hM.1 57 (11, 30) rfl)) (by decide) (m183 hMF1) (fun z_921 h_921 hq => ?_)
  obtain ⟨e8, I_2, rfl, m1, m2⟩ := hq
  obtain rfl := Sum.inl.inj e8
  refine w_ic_eq (pc' := 927) k188_924 rfl (fun c_924 => ?_) (fun c_924 => absurd c_924 (fun z9 => z9 rfl))
  refine w_iinc (pc' := 1001) (ls' := [_, _, _, _]) k188_998 rfl rfl (by omega) rfl ?_
  refine w_goto k188_1001 ?_
  exact ih _ _ _ _ K H E HO S L (B) _ _ _ (A, A1, A2, u) tx len _ _ ⟨hG1.km (fun a q => m1 a (Or.inl q)), hM1.qm m1 m2, by omega, hMs⟩ (by omega) (by omega)
theorem lc27 (ih : LAWG X d n) (hX : X.1 ≤ 2560) (hi : 0 ≤ i ∧ i ≤ (X.1 : Int) - 5) (hn : (X.1 : Int) - i < 5 * ((n : Int) + 1 + 1)) (hW : LWI sh R I K H E HO S L B ρ γ M (A, A1, A2, u) tx len (n + 1) bc bs) : WP X (d + 10) 188 929 [.inr (some SCR), .inr (some 0), .inr (some 57), .inl i] [] (sh, R, I) bc bs (fun r _ => r = .inl 1) := by
  obtain ⟨hG, hM0, hBn, hMs⟩ := hW
  have hG : CG sh R I K H E HO S L B ρ γ M A A1 A2 u tx len := hG
  have hF := hG.cf
  have hL := hG.1
  have hM := hM0.1.1
  have t7 := (hG.2.2.2.1 7 (by decide) (by decide)).2
  refine w_aload (pc' := 930) k188_929 rfl rfl ?_
  refine w_aload (pc' := 931) k188_930 rfl rfl ?_
  refine w_iload (pc' := 932) k188_931 rfl rfl ?_
  refine w_c1 (pc' := 933) k188_932 rfl ?_
  refine w_iadd (pc' := 934) k188_933 rfl (by omega) ?_
  refine w_sld (pc' := 935) k188_934 rfl (by omega) ?_
  refine w_aload (pc' := 936) k188_935 rfl rfl ?_
  refine w_iload (pc' := 937) k188_936 rfl rfl ?_
  refine w_c1 (pc' := 938) k188_937 rfl ?_
  refine w_iadd (pc' := 939) k188_938 rfl (by omega) ?_
  refine w_sld (pc' := 940) k188_939 rfl (by omega) ?_
  refine w_callI (pc' := 943) (as := [.inr (some 0), .inl _, .inl _]) k188_940 rfl rfl (co_v rfl rfl (hL.1 0 (10, 12) rfl)) (by decide) (m96 hF t7) (fun z_940 h_940 hq => ?_)
  obtain ⟨e9, I_1, rfl, s1⟩ := hq
  obtain rfl := Sum.inl.inj e9
  have hG1 := hG.scr s1
  have hM1 := hM0.kc hM (fun a q1 q2 => s1 a (by omega))
  have hMF1 : MF sh R I_1 K H E HO S L B A := hM1.1
  refine w_aload (pc' := 944) k188_943 rfl rfl ?_
  refine w_aload (pc' := 945) k188_944 rfl rfl ?_
  refine w_iload (pc' := 946) k188_945 rfl rfl ?_
  refine w_c1 (pc' := 947) k188_946 rfl ?_
  refine w_iadd (pc' := 948) k188_947 rfl (by omega) ?_
  refine w_sld (pc' := 949) k188_948 rfl (by omega) ?_
  refine w_aload (pc' := 950) k188_949 rfl rfl ?_
  refine w_iload (pc' := 951) k188_950 rfl rfl ?_
  refine w_c1 (pc' := 952) k188_951 rfl ?_
  refine w_iadd (pc' := 953) k188_952 rfl (by omega) ?_
  refine w_sld (pc' := 954) k188_953 rfl (by omega) ?_
  refine w_callI (pc' := 957) (as := [.inr (some 57), .inl _, .inl _]) k188_954 rfl rfl (co_v rfl rfl (hM.1 57 (11, 30) rfl)) (by decide) (m184 hMF1) (fun z_954 h_954 hq => ?_)
  obtain ⟨e8, I_2, rfl, m1, m2⟩ := hq
  obtain rfl := Sum.inl.inj e8
  refine w_ic_eq (pc' := 960) k188_957 rfl (fun c_957 => ?_) (fun c_957 => absurd c_957 (fun z9 => z9 rfl))
  refine w_iinc (pc' := 1001) (ls' := [_, _, _, _]) k188_998 rfl rfl (by omega) rfl ?_
  refine w_goto k188_1001 ?_
  exact ih _ _ _ _ K H E HO S L (B) _ _ _ (A, A1, A2, u) tx len _ _ ⟨hG1.km (fun a q => m1 a (Or.inl q)), hM1.qm m1 m2, by omega, hMs⟩ (by omega) (by omega)
theorem lc28 (ih : LAWG X d n) (hX : X.1 ≤ 2560) (hi : 0 ≤ i ∧ i ≤ (X.1 : Int) - 5) (hn : (X.1 : Int) - i < 5 * ((n : Int) + 1 + 1)) (hW : LWI sh R I K H E HO S L B ρ γ M (A, A1, A2, u) tx len (n + 1) bc bs) : WP X (d + 10) 188 962 [.inr (some SCR), .inr (some 0), .inr (some 57), .inl i] [] (sh, R, I) bc bs (fun r _ => r = .inl 1) := by
  obtain ⟨hG, hM0, hBn, hMs⟩ := hW
  have hG : CG sh R I K H E HO S L B ρ γ M A A1 A2 u tx len := hG
  have hF := hG.cf
  have hL := hG.1
  have hM := hM0.1.1
  have t7 := (hG.2.2.2.1 7 (by decide) (by decide)).2
  refine w_aload (pc' := 963) k188_962 rfl rfl ?_
  refine w_callI (pc' := 966) (as := [.inr (some 0)]) k188_963 rfl rfl (co_v rfl rfl (hL.1 0 (10, 12) rfl)) (by decide) (m97 hG (by omega)) (fun z_963 h_963 hq => ?_)
  obtain ⟨e9, R_1, I_1, ρ_1, rfl, i1, rf1, g1⟩ := hq
  obtain rfl := Sum.inl.inj e9
  have hM1 := hM0.kc (hM.rf rf1) i1
  refine w_aload (pc' := 967) k188_966 rfl rfl ?_
  refine w_callI (pc' := 970) (as := [.inr (some 57)]) k188_967 rfl rfl (co_v rfl rfl (hM.1 57 (11, 30) rfl)) (by decide) (m186 hM1 (by omega)) (fun z_967 h_967 hq => ?_)
  obtain ⟨e8, I_2, rfl, i2, g2⟩ := hq
  obtain rfl := Sum.inl.inj e8
  refine w_ic_eq (pc' := 973) k188_970 rfl (fun c_970 => ?_) (fun c_970 => absurd c_970 (fun z9 => z9 rfl))
  refine w_iinc (pc' := 1001) (ls' := [_, _, _, _]) k188_998 rfl rfl (by omega) rfl ?_
  refine w_goto k188_1001 ?_
  exact ih _ _ _ _ K H E HO S L (B + 1) _ _ _ (planZ H E (A, A1, A2, u)) tx len _ _ ⟨CG.km g1 (fun a q => i2 a q), g2, by omega, hMs⟩ (by omega) (by omega)
theorem lc29 (ih : LAWG X d n) (hX : X.1 ≤ 2560) (hi : 0 ≤ i ∧ i ≤ (X.1 : Int) - 5) (hn : (X.1 : Int) - i < 5 * ((n : Int) + 1 + 1)) (hW : LWI sh R I K H E HO S L B ρ γ M (A, A1, A2, u) tx len (n + 1) bc bs) : WP X (d + 10) 188 975 [.inr (some SCR), .inr (some 0), .inr (some 57), .inl i] [] (sh, R, I) bc bs (fun r _ => r = .inl 1) := by
  obtain ⟨hG, hM0, hBn, hMs⟩ := hW
  have hG : CG sh R I K H E HO S L B ρ γ M A A1 A2 u tx len := hG
  have hF := hG.cf
  have hL := hG.1
  have hM := hM0.1.1
  have t7 := (hG.2.2.2.1 7 (by decide) (by decide)).2
  have hM1 := hM0
  have hG1 := hG
  have hMF1 : MF sh R I K H E HO S L B A := hM1.1
  refine w_aload (pc' := 976) k188_975 rfl rfl ?_
  refine w_aload (pc' := 977) k188_976 rfl rfl ?_
  refine w_iload (pc' := 978) k188_977 rfl rfl ?_
  refine w_c1 (pc' := 979) k188_978 rfl ?_
  refine w_iadd (pc' := 980) k188_979 rfl (by omega) ?_
  refine w_sld (pc' := 981) k188_980 rfl (by omega) ?_
  refine w_callE (pc' := 984) (as := [.inr (some 0), .inl _]) k188_981 rfl rfl (co_v rfl rfl (hL.1 0 (10, 12) rfl)) (by decide) (m98 hF t7 hG.2.2.2.2.2.2.2.2.2.2.2.2.2.1.2 hG.2.2.2.2.2.2.2.2.2.2.2.2.2.2.1) ?_
  refine w_aload (pc' := 985) k188_984 rfl rfl ?_
  refine w_aload (pc' := 986) k188_985 rfl rfl ?_
  refine w_iload (pc' := 987) k188_986 rfl rfl ?_
  refine w_c1 (pc' := 988) k188_987 rfl ?_
  refine w_iadd (pc' := 989) k188_988 rfl (by omega) ?_
  refine w_sld (pc' := 990) k188_989 rfl (by omega) ?_
  refine w_callE (pc' := 993) (as := [.inr (some 57), .inl _]) k188_990 rfl rfl (co_v rfl rfl (hM.1 57 (11, 30) rfl)) (by decide) (m187 hMF1 hM1.2.1 hM1.2.2.2.1) ?_
  refine w_ic_eq (pc' := 996) k188_993 rfl (fun c_993 => ?_) (fun c_993 => absurd c_993 (fun z9 => z9 rfl))
  refine w_iinc (pc' := 1001) (ls' := [_, _, _, _]) k188_998 rfl rfl (by omega) rfl ?_
  refine w_goto k188_1001 ?_
  exact ih _ _ _ _ K H E HO S L (B) _ _ _ (A, A1, A2, u) tx len _ _ ⟨hG1, hM1, by omega, hMs⟩ (by omega) (by omega)
end L91
