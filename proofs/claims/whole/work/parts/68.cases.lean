/-! THE LAW: its twenty cases -/
section Cases
variable {p : Program} {l : Launch} {e : Env} {s : State} {m : MethodId} {b : Nat} {below : List Frame} {meth : Method} {c : Code} {D : va_G} {t : Tc} {L : Nat} {xs : Nat → Int32} {ρ1 ρ2 : Nat → Nat} {i : Int32} {σ1 σ2 : Mm}
theorem lc_0 (X : LLX p s m b meth c D t L xs) (h1 : vp_in (i + 1) L) (h2 : vp_in (i + 2) L) (h3 : vp_in (i + 3) L) (hB : BOTH σ1 σ2) (k : ∀ τ1 τ2 : Mm, BOTH τ1 τ2 → LJ p l e s m b below meth c D t ρ1 ρ2 i 648 [] τ1 τ2) : LJ p l e s m b below meth c D t ρ1 ρ2 i 128 [] σ1 σ2 := by
  obtain ⟨P, Q, hA, hQ, hPQ⟩ := p_type (xs (i + 1).toNatClampNeg) hB
  refine l_al1 X (pc := 128) dL_law_128 ?_
  refine l_arg X (pc := 129) (v := 1) dL_law_129 dL_law_130 dL_law_131 dL_law_132 dL_law_133 (by decide) h1 ?_
  refine l_callA X (pc := 134) dL_law_134 k_L_13 hA rfl (Nat.le_of_ble_eq_true rfl) (Nat.le_of_ble_eq_true rfl) rfl (Nat.le_of_ble_eq_true rfl) (fun r σ1' hr => ?_)
  refine l_al2 X (pc := 137) dL_law_137 ?_
  refine l_arg X (pc := 138) (v := 1) dL_law_138 dL_law_139 dL_law_140 dL_law_141 dL_law_142 (by decide) h1 ?_
  refine l_callB X (pc := 143) dL_law_143 k_L_17 hQ rfl (Nat.le_of_ble_eq_true rfl) (Nat.le_of_ble_eq_true rfl) rfl (Nat.le_of_ble_eq_true rfl) (fun r2 σ2' hr2 => ?_)
  obtain ⟨he, hb⟩ := hPQ r σ1' r2 σ2' hr hr2
  exact l_same X (pc := 146) (tgt := 648) dL_law_146 (by decide) he (k σ1' σ2' hb)
theorem lc_1 (X : LLX p s m b meth c D t L xs) (h1 : vp_in (i + 1) L) (h2 : vp_in (i + 2) L) (h3 : vp_in (i + 3) L) (hB : BOTH σ1 σ2) (k : ∀ τ1 τ2 : Mm, BOTH τ1 τ2 → LJ p l e s m b below meth c D t ρ1 ρ2 i 648 [] τ1 τ2) : LJ p l e s m b below meth c D t ρ1 ρ2 i 151 [] σ1 σ2 := by
  obtain ⟨P, Q, hA, hQ, hPQ⟩ := p_wipe hB
  refine l_al1 X (pc := 151) dL_law_151 ?_
  refine l_callA X (pc := 152) dL_law_152 k_L_18 hA rfl (Nat.le_of_ble_eq_true rfl) (Nat.le_of_ble_eq_true rfl) rfl (Nat.le_of_ble_eq_true rfl) (fun r σ1' hr => ?_)
  refine l_al2 X (pc := 155) dL_law_155 ?_
  refine l_callB X (pc := 156) dL_law_156 k_L_22 hQ rfl (Nat.le_of_ble_eq_true rfl) (Nat.le_of_ble_eq_true rfl) rfl (Nat.le_of_ble_eq_true rfl) (fun r2 σ2' hr2 => ?_)
  obtain ⟨he, hb⟩ := hPQ r σ1' r2 σ2' hr hr2
  exact l_same X (pc := 159) (tgt := 648) dL_law_159 (by decide) he (k σ1' σ2' hb)
theorem lc_2 (X : LLX p s m b meth c D t L xs) (h1 : vp_in (i + 1) L) (h2 : vp_in (i + 2) L) (h3 : vp_in (i + 3) L) (hB : BOTH σ1 σ2) (k : ∀ τ1 τ2 : Mm, BOTH τ1 τ2 → LJ p l e s m b below meth c D t ρ1 ρ2 i 648 [] τ1 τ2) : LJ p l e s m b below meth c D t ρ1 ρ2 i 164 [] σ1 σ2 := by
  obtain ⟨P, Q, hA, hQ, hPQ⟩ := p_machine (xs (i + 1).toNatClampNeg) hB
  refine l_al1 X (pc := 164) dL_law_164 ?_
  refine l_arg X (pc := 165) (v := 1) dL_law_165 dL_law_166 dL_law_167 dL_law_168 dL_law_169 (by decide) h1 ?_
  refine l_callA X (pc := 170) dL_law_170 k_L_23 hA rfl (Nat.le_of_ble_eq_true rfl) (Nat.le_of_ble_eq_true rfl) rfl (Nat.le_of_ble_eq_true rfl) (fun r σ1' hr => ?_)
  refine l_al2 X (pc := 173) dL_law_173 ?_
  refine l_arg X (pc := 174) (v := 1) dL_law_174 dL_law_175 dL_law_176 dL_law_177 dL_law_178 (by decide) h1 ?_
  refine l_callB X (pc := 179) dL_law_179 k_L_26 hQ rfl (Nat.le_of_ble_eq_true rfl) (Nat.le_of_ble_eq_true rfl) rfl (Nat.le_of_ble_eq_true rfl) (fun r2 σ2' hr2 => ?_)
  obtain ⟨he, hb⟩ := hPQ r σ1' r2 σ2' hr hr2
  exact l_same X (pc := 182) (tgt := 648) dL_law_182 (by decide) he (k σ1' σ2' hb)
theorem lc_3 (X : LLX p s m b meth c D t L xs) (h1 : vp_in (i + 1) L) (h2 : vp_in (i + 2) L) (h3 : vp_in (i + 3) L) (hB : BOTH σ1 σ2) (k : ∀ τ1 τ2 : Mm, BOTH τ1 τ2 → LJ p l e s m b below meth c D t ρ1 ρ2 i 648 [] τ1 τ2) : LJ p l e s m b below meth c D t ρ1 ρ2 i 187 [] σ1 σ2 := by
  obtain ⟨P, Q, hA, hQ, hPQ⟩ := p_drop hB
  refine l_al1 X (pc := 187) dL_law_187 ?_
  refine l_callA X (pc := 188) dL_law_188 k_L_27 hA rfl (Nat.le_of_ble_eq_true rfl) (Nat.le_of_ble_eq_true rfl) rfl (Nat.le_of_ble_eq_true rfl) (fun r σ1' hr => ?_)
  refine l_al2 X (pc := 191) dL_law_191 ?_
  refine l_callB X (pc := 192) dL_law_192 k_L_30 hQ rfl (Nat.le_of_ble_eq_true rfl) (Nat.le_of_ble_eq_true rfl) rfl (Nat.le_of_ble_eq_true rfl) (fun r2 σ2' hr2 => ?_)
  obtain ⟨he, hb⟩ := hPQ r σ1' r2 σ2' hr hr2
  exact l_same X (pc := 195) (tgt := 648) dL_law_195 (by decide) he (k σ1' σ2' hb)
theorem lc_4 (X : LLX p s m b meth c D t L xs) (h1 : vp_in (i + 1) L) (h2 : vp_in (i + 2) L) (h3 : vp_in (i + 3) L) (hB : BOTH σ1 σ2) (k : ∀ τ1 τ2 : Mm, BOTH τ1 τ2 → LJ p l e s m b below meth c D t ρ1 ρ2 i 648 [] τ1 τ2) : LJ p l e s m b below meth c D t ρ1 ρ2 i 200 [] σ1 σ2 := by
  obtain ⟨P, Q, hA, hQ, hPQ⟩ := p_free (xs (i + 1).toNatClampNeg) (xs (i + 2).toNatClampNeg) hB
  refine l_al1 X (pc := 200) dL_law_200 ?_
  refine l_arg X (pc := 201) (v := 1) dL_law_201 dL_law_202 dL_law_203 dL_law_204 dL_law_205 (by decide) h1 ?_
  refine l_arg X (pc := 206) (v := 2) dL_law_206 dL_law_207 dL_law_208 dL_law_209 dL_law_210 (by decide) h2 ?_
  refine l_callA X (pc := 211) dL_law_211 k_L_31 hA rfl (Nat.le_of_ble_eq_true rfl) (Nat.le_of_ble_eq_true rfl) rfl (Nat.le_of_ble_eq_true rfl) (fun r σ1' hr => ?_)
  refine l_al2 X (pc := 214) dL_law_214 ?_
  refine l_arg X (pc := 215) (v := 1) dL_law_215 dL_law_216 dL_law_217 dL_law_218 dL_law_219 (by decide) h1 ?_
  refine l_arg X (pc := 220) (v := 2) dL_law_220 dL_law_221 dL_law_222 dL_law_223 dL_law_224 (by decide) h2 ?_
  refine l_callB X (pc := 225) dL_law_225 k_L_35 hQ rfl (Nat.le_of_ble_eq_true rfl) (Nat.le_of_ble_eq_true rfl) rfl (Nat.le_of_ble_eq_true rfl) (fun r2 σ2' hr2 => ?_)
  obtain ⟨he, hb⟩ := hPQ r σ1' r2 σ2' hr hr2
  exact l_same X (pc := 228) (tgt := 648) dL_law_228 (by decide) he (k σ1' σ2' hb)
theorem lc_5 (X : LLX p s m b meth c D t L xs) (h1 : vp_in (i + 1) L) (h2 : vp_in (i + 2) L) (h3 : vp_in (i + 3) L) (hB : BOTH σ1 σ2) (k : ∀ τ1 τ2 : Mm, BOTH τ1 τ2 → LJ p l e s m b below meth c D t ρ1 ρ2 i 648 [] τ1 τ2) : LJ p l e s m b below meth c D t ρ1 ρ2 i 233 [] σ1 σ2 := by
  obtain ⟨P, Q, hA, hQ, hPQ⟩ := p_anew hB
  refine l_al1 X (pc := 233) dL_law_233 ?_
  refine l_callA X (pc := 234) dL_law_234 k_L_36 hA rfl (Nat.le_of_ble_eq_true rfl) (Nat.le_of_ble_eq_true rfl) rfl (Nat.le_of_ble_eq_true rfl) (fun r σ1' hr => ?_)
  refine l_al2 X (pc := 237) dL_law_237 ?_
  refine l_callB X (pc := 238) dL_law_238 k_L_39 hQ rfl (Nat.le_of_ble_eq_true rfl) (Nat.le_of_ble_eq_true rfl) rfl (Nat.le_of_ble_eq_true rfl) (fun r2 σ2' hr2 => ?_)
  obtain ⟨he, hb⟩ := hPQ r σ1' r2 σ2' hr hr2
  exact l_same X (pc := 241) (tgt := 648) dL_law_241 (by decide) he (k σ1' σ2' hb)
theorem lc_6 (X : LLX p s m b meth c D t L xs) (h1 : vp_in (i + 1) L) (h2 : vp_in (i + 2) L) (h3 : vp_in (i + 3) L) (hB : BOTH σ1 σ2) (k : ∀ τ1 τ2 : Mm, BOTH τ1 τ2 → LJ p l e s m b below meth c D t ρ1 ρ2 i 648 [] τ1 τ2) : LJ p l e s m b below meth c D t ρ1 ρ2 i 246 [] σ1 σ2 := by
  obtain ⟨P, Q, hA, hQ, hPQ⟩ := p_ofMachine (xs (i + 1).toNatClampNeg) (xs (i + 2).toNatClampNeg) hB
  refine l_al1 X (pc := 246) dL_law_246 ?_
  refine l_arg X (pc := 247) (v := 1) dL_law_247 dL_law_248 dL_law_249 dL_law_250 dL_law_251 (by decide) h1 ?_
  refine l_arg X (pc := 252) (v := 2) dL_law_252 dL_law_253 dL_law_254 dL_law_255 dL_law_256 (by decide) h2 ?_
  refine l_callA X (pc := 257) dL_law_257 k_L_40 hA rfl (Nat.le_of_ble_eq_true rfl) (Nat.le_of_ble_eq_true rfl) rfl (Nat.le_of_ble_eq_true rfl) (fun r σ1' hr => ?_)
  refine l_al2 X (pc := 260) dL_law_260 ?_
  refine l_arg X (pc := 261) (v := 1) dL_law_261 dL_law_262 dL_law_263 dL_law_264 dL_law_265 (by decide) h1 ?_
  refine l_arg X (pc := 266) (v := 2) dL_law_266 dL_law_267 dL_law_268 dL_law_269 dL_law_270 (by decide) h2 ?_
  refine l_callB X (pc := 271) dL_law_271 k_L_43 hQ rfl (Nat.le_of_ble_eq_true rfl) (Nat.le_of_ble_eq_true rfl) rfl (Nat.le_of_ble_eq_true rfl) (fun r2 σ2' hr2 => ?_)
  obtain ⟨he, hb⟩ := hPQ r σ1' r2 σ2' hr hr2
  exact l_same X (pc := 274) (tgt := 648) dL_law_274 (by decide) he (k σ1' σ2' hb)
theorem lc_7 (X : LLX p s m b meth c D t L xs) (h1 : vp_in (i + 1) L) (h2 : vp_in (i + 2) L) (h3 : vp_in (i + 3) L) (hB : BOTH σ1 σ2) (k : ∀ τ1 τ2 : Mm, BOTH τ1 τ2 → LJ p l e s m b below meth c D t ρ1 ρ2 i 648 [] τ1 τ2) : LJ p l e s m b below meth c D t ρ1 ρ2 i 279 [] σ1 σ2 := by
  obtain ⟨P, Q, hA, hQ, hPQ⟩ := p_step (xs (i + 1).toNatClampNeg) (xs (i + 2).toNatClampNeg) (xs (i + 3).toNatClampNeg) hB
  refine l_al1 X (pc := 279) dL_law_279 ?_
  refine l_arg X (pc := 280) (v := 1) dL_law_280 dL_law_281 dL_law_282 dL_law_283 dL_law_284 (by decide) h1 ?_
  refine l_arg X (pc := 285) (v := 2) dL_law_285 dL_law_286 dL_law_287 dL_law_288 dL_law_289 (by decide) h2 ?_
  refine l_arg X (pc := 290) (v := 3) dL_law_290 dL_law_291 dL_law_292 dL_law_293 dL_law_294 (by decide) h3 ?_
  refine l_callA X (pc := 295) dL_law_295 k_L_44 hA rfl (Nat.le_of_ble_eq_true rfl) (Nat.le_of_ble_eq_true rfl) rfl (Nat.le_of_ble_eq_true rfl) (fun r σ1' hr => ?_)
  refine l_al2 X (pc := 298) dL_law_298 ?_
  refine l_arg X (pc := 299) (v := 1) dL_law_299 dL_law_300 dL_law_301 dL_law_302 dL_law_303 (by decide) h1 ?_
  refine l_arg X (pc := 304) (v := 2) dL_law_304 dL_law_305 dL_law_306 dL_law_307 dL_law_308 (by decide) h2 ?_
  refine l_arg X (pc := 309) (v := 3) dL_law_309 dL_law_310 dL_law_311 dL_law_312 dL_law_313 (by decide) h3 ?_
  refine l_callB X (pc := 314) dL_law_314 k_L_48 hQ rfl (Nat.le_of_ble_eq_true rfl) (Nat.le_of_ble_eq_true rfl) rfl (Nat.le_of_ble_eq_true rfl) (fun r2 σ2' hr2 => ?_)
  obtain ⟨he, hb⟩ := hPQ r σ1' r2 σ2' hr hr2
  exact l_same X (pc := 317) (tgt := 648) dL_law_317 (by decide) he (k σ1' σ2' hb)
theorem lc_8 (X : LLX p s m b meth c D t L xs) (h1 : vp_in (i + 1) L) (h2 : vp_in (i + 2) L) (h3 : vp_in (i + 3) L) (hB : BOTH σ1 σ2) (k : ∀ τ1 τ2 : Mm, BOTH τ1 τ2 → LJ p l e s m b below meth c D t ρ1 ρ2 i 648 [] τ1 τ2) : LJ p l e s m b below meth c D t ρ1 ρ2 i 322 [] σ1 σ2 := by
  obtain ⟨P, Q, hA, hQ, hPQ⟩ := p_stateOf (xs (i + 1).toNatClampNeg) (xs (i + 2).toNatClampNeg) hB
  refine l_al1 X (pc := 322) dL_law_322 ?_
  refine l_arg X (pc := 323) (v := 1) dL_law_323 dL_law_324 dL_law_325 dL_law_326 dL_law_327 (by decide) h1 ?_
  refine l_arg X (pc := 328) (v := 2) dL_law_328 dL_law_329 dL_law_330 dL_law_331 dL_law_332 (by decide) h2 ?_
  refine l_callA X (pc := 333) dL_law_333 k_L_49 hA rfl (Nat.le_of_ble_eq_true rfl) (Nat.le_of_ble_eq_true rfl) rfl (Nat.le_of_ble_eq_true rfl) (fun r σ1' hr => ?_)
  refine l_al2 X (pc := 336) dL_law_336 ?_
  refine l_arg X (pc := 337) (v := 1) dL_law_337 dL_law_338 dL_law_339 dL_law_340 dL_law_341 (by decide) h1 ?_
  refine l_arg X (pc := 342) (v := 2) dL_law_342 dL_law_343 dL_law_344 dL_law_345 dL_law_346 (by decide) h2 ?_
  refine l_callB X (pc := 347) dL_law_347 k_L_52 hQ rfl (Nat.le_of_ble_eq_true rfl) (Nat.le_of_ble_eq_true rfl) rfl (Nat.le_of_ble_eq_true rfl) (fun r2 σ2' hr2 => ?_)
  obtain ⟨he, hb⟩ := hPQ r σ1' r2 σ2' hr hr2
  exact l_same X (pc := 350) (tgt := 648) dL_law_350 (by decide) he (k σ1' σ2' hb)
theorem lc_9 (X : LLX p s m b meth c D t L xs) (h1 : vp_in (i + 1) L) (h2 : vp_in (i + 2) L) (h3 : vp_in (i + 3) L) (hB : BOTH σ1 σ2) (k : ∀ τ1 τ2 : Mm, BOTH τ1 τ2 → LJ p l e s m b below meth c D t ρ1 ρ2 i 648 [] τ1 τ2) : LJ p l e s m b below meth c D t ρ1 ρ2 i 355 [] σ1 σ2 := by
  obtain ⟨P, Q, hA, hQ, hPQ⟩ := p_leads (xs (i + 1).toNatClampNeg) (xs (i + 2).toNatClampNeg) hB
  refine l_al1 X (pc := 355) dL_law_355 ?_
  refine l_arg X (pc := 356) (v := 1) dL_law_356 dL_law_357 dL_law_358 dL_law_359 dL_law_360 (by decide) h1 ?_
  refine l_arg X (pc := 361) (v := 2) dL_law_361 dL_law_362 dL_law_363 dL_law_364 dL_law_365 (by decide) h2 ?_
  refine l_callA X (pc := 366) dL_law_366 k_L_53 hA rfl (Nat.le_of_ble_eq_true rfl) (Nat.le_of_ble_eq_true rfl) rfl (Nat.le_of_ble_eq_true rfl) (fun r σ1' hr => ?_)
  refine l_al2 X (pc := 369) dL_law_369 ?_
  refine l_arg X (pc := 370) (v := 1) dL_law_370 dL_law_371 dL_law_372 dL_law_373 dL_law_374 (by decide) h1 ?_
  refine l_arg X (pc := 375) (v := 2) dL_law_375 dL_law_376 dL_law_377 dL_law_378 dL_law_379 (by decide) h2 ?_
  refine l_callB X (pc := 380) dL_law_380 k_L_56 hQ rfl (Nat.le_of_ble_eq_true rfl) (Nat.le_of_ble_eq_true rfl) rfl (Nat.le_of_ble_eq_true rfl) (fun r2 σ2' hr2 => ?_)
  obtain ⟨he, hb⟩ := hPQ r σ1' r2 σ2' hr hr2
  exact l_same X (pc := 383) (tgt := 648) dL_law_383 (by decide) he (k σ1' σ2' hb)
theorem lc_10 (X : LLX p s m b meth c D t L xs) (h1 : vp_in (i + 1) L) (h2 : vp_in (i + 2) L) (h3 : vp_in (i + 3) L) (hB : BOTH σ1 σ2) (k : ∀ τ1 τ2 : Mm, BOTH τ1 τ2 → LJ p l e s m b below meth c D t ρ1 ρ2 i 648 [] τ1 τ2) : LJ p l e s m b below meth c D t ρ1 ρ2 i 388 [] σ1 σ2 := by
  obtain ⟨P, Q, hA, hQ, hPQ⟩ := p_joint (xs (i + 1).toNatClampNeg) (xs (i + 2).toNatClampNeg) hB
  refine l_al1 X (pc := 388) dL_law_388 ?_
  refine l_arg X (pc := 389) (v := 1) dL_law_389 dL_law_390 dL_law_391 dL_law_392 dL_law_393 (by decide) h1 ?_
  refine l_arg X (pc := 394) (v := 2) dL_law_394 dL_law_395 dL_law_396 dL_law_397 dL_law_398 (by decide) h2 ?_
  refine l_callA X (pc := 399) dL_law_399 k_L_57 hA rfl (Nat.le_of_ble_eq_true rfl) (Nat.le_of_ble_eq_true rfl) rfl (Nat.le_of_ble_eq_true rfl) (fun r σ1' hr => ?_)
  refine l_al2 X (pc := 402) dL_law_402 ?_
  refine l_arg X (pc := 403) (v := 1) dL_law_403 dL_law_404 dL_law_405 dL_law_406 dL_law_407 (by decide) h1 ?_
  refine l_arg X (pc := 408) (v := 2) dL_law_408 dL_law_409 dL_law_410 dL_law_411 dL_law_412 (by decide) h2 ?_
  refine l_callB X (pc := 413) dL_law_413 k_L_60 hQ rfl (Nat.le_of_ble_eq_true rfl) (Nat.le_of_ble_eq_true rfl) rfl (Nat.le_of_ble_eq_true rfl) (fun r2 σ2' hr2 => ?_)
  obtain ⟨he, hb⟩ := hPQ r σ1' r2 σ2' hr hr2
  exact l_same X (pc := 416) (tgt := 648) dL_law_416 (by decide) he (k σ1' σ2' hb)
theorem lc_11 (X : LLX p s m b meth c D t L xs) (h1 : vp_in (i + 1) L) (h2 : vp_in (i + 2) L) (h3 : vp_in (i + 3) L) (hB : BOTH σ1 σ2) (k : ∀ τ1 τ2 : Mm, BOTH τ1 τ2 → LJ p l e s m b below meth c D t ρ1 ρ2 i 648 [] τ1 τ2) : LJ p l e s m b below meth c D t ρ1 ρ2 i 421 [] σ1 σ2 := by
  obtain ⟨P, Q, hA, hQ, hPQ⟩ := p_why (xs (i + 1).toNatClampNeg) (xs (i + 2).toNatClampNeg) (xs (i + 3).toNatClampNeg) hB
  refine l_al1 X (pc := 421) dL_law_421 ?_
  refine l_arg X (pc := 422) (v := 1) dL_law_422 dL_law_423 dL_law_424 dL_law_425 dL_law_426 (by decide) h1 ?_
  refine l_arg X (pc := 427) (v := 2) dL_law_427 dL_law_428 dL_law_429 dL_law_430 dL_law_431 (by decide) h2 ?_
  refine l_arg X (pc := 432) (v := 3) dL_law_432 dL_law_433 dL_law_434 dL_law_435 dL_law_436 (by decide) h3 ?_
  refine l_callA X (pc := 437) dL_law_437 k_L_61 hA rfl (Nat.le_of_ble_eq_true rfl) (Nat.le_of_ble_eq_true rfl) rfl (Nat.le_of_ble_eq_true rfl) (fun r σ1' hr => ?_)
  refine l_al2 X (pc := 440) dL_law_440 ?_
  refine l_arg X (pc := 441) (v := 1) dL_law_441 dL_law_442 dL_law_443 dL_law_444 dL_law_445 (by decide) h1 ?_
  refine l_arg X (pc := 446) (v := 2) dL_law_446 dL_law_447 dL_law_448 dL_law_449 dL_law_450 (by decide) h2 ?_
  refine l_arg X (pc := 451) (v := 3) dL_law_451 dL_law_452 dL_law_453 dL_law_454 dL_law_455 (by decide) h3 ?_
  refine l_callB X (pc := 456) dL_law_456 k_L_64 hQ rfl (Nat.le_of_ble_eq_true rfl) (Nat.le_of_ble_eq_true rfl) rfl (Nat.le_of_ble_eq_true rfl) (fun r2 σ2' hr2 => ?_)
  obtain ⟨he, hb⟩ := hPQ r σ1' r2 σ2' hr hr2
  exact l_same X (pc := 459) (tgt := 648) dL_law_459 (by decide) he (k σ1' σ2' hb)
theorem lc_12 (X : LLX p s m b meth c D t L xs) (h1 : vp_in (i + 1) L) (h2 : vp_in (i + 2) L) (h3 : vp_in (i + 3) L) (hB : BOTH σ1 σ2) (k : ∀ τ1 τ2 : Mm, BOTH τ1 τ2 → LJ p l e s m b below meth c D t ρ1 ρ2 i 648 [] τ1 τ2) : LJ p l e s m b below meth c D t ρ1 ρ2 i 464 [] σ1 σ2 := by
  obtain ⟨P, Q, hA, hQ, hPQ⟩ := p_wave (xs (i + 1).toNatClampNeg) hB
  refine l_al1 X (pc := 464) dL_law_464 ?_
  refine l_arg X (pc := 465) (v := 1) dL_law_465 dL_law_466 dL_law_467 dL_law_468 dL_law_469 (by decide) h1 ?_
  refine l_callA X (pc := 470) dL_law_470 k_L_65 hA rfl (Nat.le_of_ble_eq_true rfl) (Nat.le_of_ble_eq_true rfl) rfl (Nat.le_of_ble_eq_true rfl) (fun r σ1' hr => ?_)
  refine l_al2 X (pc := 473) dL_law_473 ?_
  refine l_arg X (pc := 474) (v := 1) dL_law_474 dL_law_475 dL_law_476 dL_law_477 dL_law_478 (by decide) h1 ?_
  refine l_callB X (pc := 479) dL_law_479 k_L_68 hQ rfl (Nat.le_of_ble_eq_true rfl) (Nat.le_of_ble_eq_true rfl) rfl (Nat.le_of_ble_eq_true rfl) (fun r2 σ2' hr2 => ?_)
  obtain ⟨he, hb⟩ := hPQ r σ1' r2 σ2' hr hr2
  exact l_same X (pc := 482) (tgt := 648) dL_law_482 (by decide) he (k σ1' σ2' hb)
theorem lc_13 (X : LLX p s m b meth c D t L xs) (h1 : vp_in (i + 1) L) (h2 : vp_in (i + 2) L) (h3 : vp_in (i + 3) L) (hB : BOTH σ1 σ2) (k : ∀ τ1 τ2 : Mm, BOTH τ1 τ2 → LJ p l e s m b below meth c D t ρ1 ρ2 i 648 [] τ1 τ2) : LJ p l e s m b below meth c D t ρ1 ρ2 i 487 [] σ1 σ2 := by
  obtain ⟨P, Q, hA, hQ, hPQ⟩ := p_some (xs (i + 1).toNatClampNeg) (xs (i + 2).toNatClampNeg) hB
  refine l_al1 X (pc := 487) dL_law_487 ?_
  refine l_arg X (pc := 488) (v := 1) dL_law_488 dL_law_489 dL_law_490 dL_law_491 dL_law_492 (by decide) h1 ?_
  refine l_arg X (pc := 493) (v := 2) dL_law_493 dL_law_494 dL_law_495 dL_law_496 dL_law_497 (by decide) h2 ?_
  refine l_callA X (pc := 498) dL_law_498 k_L_69 hA rfl (Nat.le_of_ble_eq_true rfl) (Nat.le_of_ble_eq_true rfl) rfl (Nat.le_of_ble_eq_true rfl) (fun r σ1' hr => ?_)
  refine l_al2 X (pc := 501) dL_law_501 ?_
  refine l_arg X (pc := 502) (v := 1) dL_law_502 dL_law_503 dL_law_504 dL_law_505 dL_law_506 (by decide) h1 ?_
  refine l_arg X (pc := 507) (v := 2) dL_law_507 dL_law_508 dL_law_509 dL_law_510 dL_law_511 (by decide) h2 ?_
  refine l_callB X (pc := 512) dL_law_512 k_L_72 hQ rfl (Nat.le_of_ble_eq_true rfl) (Nat.le_of_ble_eq_true rfl) rfl (Nat.le_of_ble_eq_true rfl) (fun r2 σ2' hr2 => ?_)
  obtain ⟨he, hb⟩ := hPQ r σ1' r2 σ2' hr hr2
  exact l_same X (pc := 515) (tgt := 648) dL_law_515 (by decide) he (k σ1' σ2' hb)
theorem lc_14 (X : LLX p s m b meth c D t L xs) (h1 : vp_in (i + 1) L) (h2 : vp_in (i + 2) L) (h3 : vp_in (i + 3) L) (hB : BOTH σ1 σ2) (k : ∀ τ1 τ2 : Mm, BOTH τ1 τ2 → LJ p l e s m b below meth c D t ρ1 ρ2 i 648 [] τ1 τ2) : LJ p l e s m b below meth c D t ρ1 ρ2 i 520 [] σ1 σ2 := by
  obtain ⟨P, Q, hA, hQ, hPQ⟩ := p_go (xs (i + 1).toNatClampNeg) hB
  refine l_al1 X (pc := 520) dL_law_520 ?_
  refine l_arg X (pc := 521) (v := 1) dL_law_521 dL_law_522 dL_law_523 dL_law_524 dL_law_525 (by decide) h1 ?_
  refine l_callA X (pc := 526) dL_law_526 k_L_73 hA rfl (Nat.le_of_ble_eq_true rfl) (Nat.le_of_ble_eq_true rfl) rfl (Nat.le_of_ble_eq_true rfl) (fun r σ1' hr => ?_)
  refine l_al2 X (pc := 529) dL_law_529 ?_
  refine l_arg X (pc := 530) (v := 1) dL_law_530 dL_law_531 dL_law_532 dL_law_533 dL_law_534 (by decide) h1 ?_
  refine l_callB X (pc := 535) dL_law_535 k_L_76 hQ rfl (Nat.le_of_ble_eq_true rfl) (Nat.le_of_ble_eq_true rfl) rfl (Nat.le_of_ble_eq_true rfl) (fun r2 σ2' hr2 => ?_)
  obtain ⟨he, hb⟩ := hPQ r σ1' r2 σ2' hr hr2
  exact l_same X (pc := 538) (tgt := 648) dL_law_538 (by decide) he (k σ1' σ2' hb)
theorem lc_15 (X : LLX p s m b meth c D t L xs) (h1 : vp_in (i + 1) L) (h2 : vp_in (i + 2) L) (h3 : vp_in (i + 3) L) (hB : BOTH σ1 σ2) (k : ∀ τ1 τ2 : Mm, BOTH τ1 τ2 → LJ p l e s m b below meth c D t ρ1 ρ2 i 648 [] τ1 τ2) : LJ p l e s m b below meth c D t ρ1 ρ2 i 543 [] σ1 σ2 := by
  obtain ⟨P, Q, hA, hQ, hPQ⟩ := p_back hB
  refine l_al1 X (pc := 543) dL_law_543 ?_
  refine l_callA X (pc := 544) dL_law_544 k_L_77 hA rfl (Nat.le_of_ble_eq_true rfl) (Nat.le_of_ble_eq_true rfl) rfl (Nat.le_of_ble_eq_true rfl) (fun r σ1' hr => ?_)
  refine l_al2 X (pc := 547) dL_law_547 ?_
  refine l_callB X (pc := 548) dL_law_548 k_L_80 hQ rfl (Nat.le_of_ble_eq_true rfl) (Nat.le_of_ble_eq_true rfl) rfl (Nat.le_of_ble_eq_true rfl) (fun r2 σ2' hr2 => ?_)
  obtain ⟨he, hb⟩ := hPQ r σ1' r2 σ2' hr hr2
  exact l_same X (pc := 551) (tgt := 648) dL_law_551 (by decide) he (k σ1' σ2' hb)
theorem lc_16 (X : LLX p s m b meth c D t L xs) (h1 : vp_in (i + 1) L) (h2 : vp_in (i + 2) L) (h3 : vp_in (i + 3) L) (hB : BOTH σ1 σ2) (k : ∀ τ1 τ2 : Mm, BOTH τ1 τ2 → LJ p l e s m b below meth c D t ρ1 ρ2 i 648 [] τ1 τ2) : LJ p l e s m b below meth c D t ρ1 ρ2 i 556 [] σ1 σ2 := by
  obtain ⟨P, Q, hA, hQ, hPQ⟩ := p_at hB
  refine l_al1 X (pc := 556) dL_law_556 ?_
  refine l_callA X (pc := 557) dL_law_557 k_L_81 hA rfl (Nat.le_of_ble_eq_true rfl) (Nat.le_of_ble_eq_true rfl) rfl (Nat.le_of_ble_eq_true rfl) (fun r σ1' hr => ?_)
  refine l_al2 X (pc := 560) dL_law_560 ?_
  refine l_callB X (pc := 561) dL_law_561 k_L_84 hQ rfl (Nat.le_of_ble_eq_true rfl) (Nat.le_of_ble_eq_true rfl) rfl (Nat.le_of_ble_eq_true rfl) (fun r2 σ2' hr2 => ?_)
  obtain ⟨he, hb⟩ := hPQ r σ1' r2 σ2' hr hr2
  exact l_same X (pc := 564) (tgt := 648) dL_law_564 (by decide) he (k σ1' σ2' hb)
theorem lc_17 (X : LLX p s m b meth c D t L xs) (h1 : vp_in (i + 1) L) (h2 : vp_in (i + 2) L) (h3 : vp_in (i + 3) L) (hB : BOTH σ1 σ2) (k : ∀ τ1 τ2 : Mm, BOTH τ1 τ2 → LJ p l e s m b below meth c D t ρ1 ρ2 i 648 [] τ1 τ2) : LJ p l e s m b below meth c D t ρ1 ρ2 i 569 [] σ1 σ2 := by
  obtain ⟨P, Q, hA, hQ, hPQ⟩ := p_finish (xs (i + 1).toNatClampNeg) hB
  refine l_al1 X (pc := 569) dL_law_569 ?_
  refine l_arg X (pc := 570) (v := 1) dL_law_570 dL_law_571 dL_law_572 dL_law_573 dL_law_574 (by decide) h1 ?_
  refine l_callA X (pc := 575) dL_law_575 k_L_85 hA rfl (Nat.le_of_ble_eq_true rfl) (Nat.le_of_ble_eq_true rfl) rfl (Nat.le_of_ble_eq_true rfl) (fun r σ1' hr => ?_)
  refine l_al2 X (pc := 578) dL_law_578 ?_
  refine l_arg X (pc := 579) (v := 1) dL_law_579 dL_law_580 dL_law_581 dL_law_582 dL_law_583 (by decide) h1 ?_
  refine l_callB X (pc := 584) dL_law_584 k_L_88 hQ rfl (Nat.le_of_ble_eq_true rfl) (Nat.le_of_ble_eq_true rfl) rfl (Nat.le_of_ble_eq_true rfl) (fun r2 σ2' hr2 => ?_)
  obtain ⟨he, hb⟩ := hPQ r σ1' r2 σ2' hr hr2
  exact l_same X (pc := 587) (tgt := 648) dL_law_587 (by decide) he (k σ1' σ2' hb)
theorem lc_18 (X : LLX p s m b meth c D t L xs) (h1 : vp_in (i + 1) L) (h2 : vp_in (i + 2) L) (h3 : vp_in (i + 3) L) (hB : BOTH σ1 σ2) (k : ∀ τ1 τ2 : Mm, BOTH τ1 τ2 → LJ p l e s m b below meth c D t ρ1 ρ2 i 648 [] τ1 τ2) : LJ p l e s m b below meth c D t ρ1 ρ2 i 592 [] σ1 σ2 := by
  obtain ⟨P, Q, hA, hQ, hPQ⟩ := p_word (xs (i + 1).toNatClampNeg) (xs (i + 2).toNatClampNeg) hB
  refine l_al1 X (pc := 592) dL_law_592 ?_
  refine l_arg X (pc := 593) (v := 1) dL_law_593 dL_law_594 dL_law_595 dL_law_596 dL_law_597 (by decide) h1 ?_
  refine l_arg X (pc := 598) (v := 2) dL_law_598 dL_law_599 dL_law_600 dL_law_601 dL_law_602 (by decide) h2 ?_
  refine l_callA X (pc := 603) dL_law_603 k_L_89 hA rfl (Nat.le_of_ble_eq_true rfl) (Nat.le_of_ble_eq_true rfl) rfl (Nat.le_of_ble_eq_true rfl) (fun r σ1' hr => ?_)
  refine l_al2 X (pc := 606) dL_law_606 ?_
  refine l_arg X (pc := 607) (v := 1) dL_law_607 dL_law_608 dL_law_609 dL_law_610 dL_law_611 (by decide) h1 ?_
  refine l_arg X (pc := 612) (v := 2) dL_law_612 dL_law_613 dL_law_614 dL_law_615 dL_law_616 (by decide) h2 ?_
  refine l_callB X (pc := 617) dL_law_617 k_L_92 hQ rfl (Nat.le_of_ble_eq_true rfl) (Nat.le_of_ble_eq_true rfl) rfl (Nat.le_of_ble_eq_true rfl) (fun r2 σ2' hr2 => ?_)
  obtain ⟨he, hb⟩ := hPQ r σ1' r2 σ2' hr hr2
  exact l_same X (pc := 620) (tgt := 648) dL_law_620 (by decide) he (k σ1' σ2' hb)
theorem lc_19 (X : LLX p s m b meth c D t L xs) (h1 : vp_in (i + 1) L) (h2 : vp_in (i + 2) L) (h3 : vp_in (i + 3) L) (hB : BOTH σ1 σ2) (k : ∀ τ1 τ2 : Mm, BOTH τ1 τ2 → LJ p l e s m b below meth c D t ρ1 ρ2 i 648 [] τ1 τ2) : LJ p l e s m b below meth c D t ρ1 ρ2 i 625 [] σ1 σ2 := by
  obtain ⟨P, Q, hA, hQ, hPQ⟩ := p_many (xs (i + 1).toNatClampNeg) hB
  refine l_al1 X (pc := 625) dL_law_625 ?_
  refine l_arg X (pc := 626) (v := 1) dL_law_626 dL_law_627 dL_law_628 dL_law_629 dL_law_630 (by decide) h1 ?_
  refine l_callA X (pc := 631) dL_law_631 k_L_93 hA rfl (Nat.le_of_ble_eq_true rfl) (Nat.le_of_ble_eq_true rfl) rfl (Nat.le_of_ble_eq_true rfl) (fun r σ1' hr => ?_)
  refine l_al2 X (pc := 634) dL_law_634 ?_
  refine l_arg X (pc := 635) (v := 1) dL_law_635 dL_law_636 dL_law_637 dL_law_638 dL_law_639 (by decide) h1 ?_
  refine l_callB X (pc := 640) dL_law_640 k_L_96 hQ rfl (Nat.le_of_ble_eq_true rfl) (Nat.le_of_ble_eq_true rfl) rfl (Nat.le_of_ble_eq_true rfl) (fun r2 σ2' hr2 => ?_)
  obtain ⟨he, hb⟩ := hPQ r σ1' r2 σ2' hr hr2
  exact l_same X (pc := 643) (tgt := 648) dL_law_643 (by decide) he (k σ1' σ2' hb)
/-- one turn of the loop: the call that script[i] names -/
theorem l_turn (X : LLX p s m b meth c D t L xs) (h0 : vp_in i L) (h1 : vp_in (i + 1) L) (h2 : vp_in (i + 2) L) (h3 : vp_in (i + 3) L) (hB : BOTH σ1 σ2) (k : ∀ τ1 τ2 : Mm, BOTH τ1 τ2 → LJ p l e s m b below meth c D t ρ1 ρ2 i 648 [] τ1 τ2) : LJ p l e s m b below meth c D t ρ1 ρ2 i 26 [] σ1 σ2 := by
  refine l_al0 X (pc := 26) dL_law_26 ?_
  refine l_il3 X (pc := 27) dL_law_27 ?_
  refine l_sld X (pc := 28) h0 dL_law_28 ?_
  refine l_bipush X (pc := 29) (v := 31) dL_law_29 (by decide) ?_
  refine l_iand X (pc := 31) dL_law_31 ?_
  generalize xs i.toNatClampNeg &&& 31 = x
  by_cases ho : x.toInt < 0 ∨ 19 < x.toInt
  · exact l_tout X (pc := 32) (tgt := 648) dL_law_32 ho (by decide) (k σ1 σ2 hB)
  · have hx : ∃ j : Nat, j ≤ 19 ∧ x = nI j := nI_of2 (M := 19) (n := 19) rfl (fun q => ho (Or.inl (by rw [Int32.lt_iff_toInt_lt] at q; exact q))) (by rw [Int32.le_iff_toInt_le]; exact Int.not_lt.mp (fun q => ho (Or.inr q)))
    obtain ⟨j, hj, rfl⟩ := hx
    clear ho
    rcases (show j = 0 ∨ j = 1 ∨ j = 2 ∨ j = 3 ∨ j = 4 ∨ j = 5 ∨ j = 6 ∨ j = 7 ∨ j = 8 ∨ j = 9 ∨ j = 10 ∨ j = 11 ∨ j = 12 ∨ j = 13 ∨ j = 14 ∨ j = 15 ∨ j = 16 ∨ j = 17 ∨ j = 18 ∨ j = 19 by omega) with rfl | rfl | rfl | rfl | rfl | rfl | rfl | rfl | rfl | rfl | rfl | rfl | rfl | rfl | rfl | rfl | rfl | rfl | rfl | rfl
    · exact l_tin X (pc := 32) (off := 96) (tgt := 128) dL_law_32 (by decide +kernel) (by decide +kernel) (by decide +kernel) (by decide) (lc_0 X h1 h2 h3 hB k)
    · exact l_tin X (pc := 32) (off := 119) (tgt := 151) dL_law_32 (by decide +kernel) (by decide +kernel) (by decide +kernel) (by decide) (lc_1 X h1 h2 h3 hB k)
    · exact l_tin X (pc := 32) (off := 132) (tgt := 164) dL_law_32 (by decide +kernel) (by decide +kernel) (by decide +kernel) (by decide) (lc_2 X h1 h2 h3 hB k)
    · exact l_tin X (pc := 32) (off := 155) (tgt := 187) dL_law_32 (by decide +kernel) (by decide +kernel) (by decide +kernel) (by decide) (lc_3 X h1 h2 h3 hB k)
    · exact l_tin X (pc := 32) (off := 168) (tgt := 200) dL_law_32 (by decide +kernel) (by decide +kernel) (by decide +kernel) (by decide) (lc_4 X h1 h2 h3 hB k)
    · exact l_tin X (pc := 32) (off := 201) (tgt := 233) dL_law_32 (by decide +kernel) (by decide +kernel) (by decide +kernel) (by decide) (lc_5 X h1 h2 h3 hB k)
    · exact l_tin X (pc := 32) (off := 214) (tgt := 246) dL_law_32 (by decide +kernel) (by decide +kernel) (by decide +kernel) (by decide) (lc_6 X h1 h2 h3 hB k)
    · exact l_tin X (pc := 32) (off := 247) (tgt := 279) dL_law_32 (by decide +kernel) (by decide +kernel) (by decide +kernel) (by decide) (lc_7 X h1 h2 h3 hB k)
    · exact l_tin X (pc := 32) (off := 290) (tgt := 322) dL_law_32 (by decide +kernel) (by decide +kernel) (by decide +kernel) (by decide) (lc_8 X h1 h2 h3 hB k)
    · exact l_tin X (pc := 32) (off := 323) (tgt := 355) dL_law_32 (by decide +kernel) (by decide +kernel) (by decide +kernel) (by decide) (lc_9 X h1 h2 h3 hB k)
    · exact l_tin X (pc := 32) (off := 356) (tgt := 388) dL_law_32 (by decide +kernel) (by decide +kernel) (by decide +kernel) (by decide) (lc_10 X h1 h2 h3 hB k)
    · exact l_tin X (pc := 32) (off := 389) (tgt := 421) dL_law_32 (by decide +kernel) (by decide +kernel) (by decide +kernel) (by decide) (lc_11 X h1 h2 h3 hB k)
    · exact l_tin X (pc := 32) (off := 432) (tgt := 464) dL_law_32 (by decide +kernel) (by decide +kernel) (by decide +kernel) (by decide) (lc_12 X h1 h2 h3 hB k)
    · exact l_tin X (pc := 32) (off := 455) (tgt := 487) dL_law_32 (by decide +kernel) (by decide +kernel) (by decide +kernel) (by decide) (lc_13 X h1 h2 h3 hB k)
    · exact l_tin X (pc := 32) (off := 488) (tgt := 520) dL_law_32 (by decide +kernel) (by decide +kernel) (by decide +kernel) (by decide) (lc_14 X h1 h2 h3 hB k)
    · exact l_tin X (pc := 32) (off := 511) (tgt := 543) dL_law_32 (by decide +kernel) (by decide +kernel) (by decide +kernel) (by decide) (lc_15 X h1 h2 h3 hB k)
    · exact l_tin X (pc := 32) (off := 524) (tgt := 556) dL_law_32 (by decide +kernel) (by decide +kernel) (by decide +kernel) (by decide) (lc_16 X h1 h2 h3 hB k)
    · exact l_tin X (pc := 32) (off := 537) (tgt := 569) dL_law_32 (by decide +kernel) (by decide +kernel) (by decide +kernel) (by decide) (lc_17 X h1 h2 h3 hB k)
    · exact l_tin X (pc := 32) (off := 560) (tgt := 592) dL_law_32 (by decide +kernel) (by decide +kernel) (by decide +kernel) (by decide) (lc_18 X h1 h2 h3 hB k)
    · exact l_tin X (pc := 32) (off := 593) (tgt := 625) dL_law_32 (by decide +kernel) (by decide +kernel) (by decide +kernel) (by decide) (lc_19 X h1 h2 h3 hB k)
end Cases
