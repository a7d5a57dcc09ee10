/-! THE LAW: its cases and its loop -/
theorem lw_case_0 {p : Program} {l : Launch} {e : Env} {s : State} {m : MethodId} {below : List Frame} {meth : Method} {c : Code} {b L : Nat} {xs : Nat → Int32} {D : va_G} {ca : gm_Ar} {j t : Nat} {T S : gm_Mem} (C0 : lw_At p s m meth c b L xs) (hK : va_K D vwCl (gm_Ty ca) s) (hL0 : L ≤ 2048) (ht : t < 512) (hI : LI t T S) (hj : j + 3 < L) (K : ∀ T2 S2, LI (t + 1) T2 S2 → lw_go p l e s m below meth c b D ca 803 [] j T2 S2) : lw_go p l e s m below meth c b D ca 148 [] j T S := by
  obtain ⟨r, m2, S2, r1, r2, hI2⟩ := l_configure ht hI (xs (j + 1)) (xs (j + 2)) (xs (j + 3))
  refine lg_aload1 C0 dL_law_148 ?_
  refine lg_arg C0 1 dL_law_149 dL_law_150 dL_law_151 dL_law_152 dL_law_153 (by decide) (by omega) hL0 ?_
  refine lg_arg C0 2 dL_law_154 dL_law_155 dL_law_156 dL_law_157 dL_law_158 (by decide) (by omega) hL0 ?_
  refine lg_arg C0 3 dL_law_159 dL_law_160 dL_law_161 dL_law_162 dL_law_163 (by decide) (by omega) hL0 ?_
  refine lg_callC C0 hK [xs (j + 1), xs (j + 2), xs (j + 3)] (rest := []) dL_law_164 llL_13 mvX10_configure rfl rfl rfl (Nat.le_of_ble_eq_true rfl) (by decide) rfl r2 ?_
  refine lg_aload2 C0 dL_law_167 ?_
  refine lg_arg C0 1 dL_law_168 dL_law_169 dL_law_170 dL_law_171 dL_law_172 (by decide) (by omega) hL0 ?_
  refine lg_arg C0 2 dL_law_173 dL_law_174 dL_law_175 dL_law_176 dL_law_177 (by decide) (by omega) hL0 ?_
  refine lg_arg C0 3 dL_law_178 dL_law_179 dL_law_180 dL_law_181 dL_law_182 (by decide) (by omega) hL0 ?_
  refine lg_callM C0 hK [xs (j + 1), xs (j + 2), xs (j + 3)] (rest := [.int r]) dL_law_183 llL_17 mvX11_configure rfl rfl rfl (Nat.le_of_ble_eq_true rfl) (by decide) rfl r1 ?_
  exact lg_icmpeq C0 (tgt := 803) dL_law_186 (by decide) (K m2 S2 hI2)
theorem lw_case_1 {p : Program} {l : Launch} {e : Env} {s : State} {m : MethodId} {below : List Frame} {meth : Method} {c : Code} {b L : Nat} {xs : Nat → Int32} {D : va_G} {ca : gm_Ar} {j t : Nat} {T S : gm_Mem} (C0 : lw_At p s m meth c b L xs) (hK : va_K D vwCl (gm_Ty ca) s) (hL0 : L ≤ 2048) (ht : t < 512) (hI : LI t T S) (hj : j + 3 < L) (K : ∀ T2 S2, LI (t + 1) T2 S2 → lw_go p l e s m below meth c b D ca 803 [] j T2 S2) : lw_go p l e s m below meth c b D ca 191 [] j T S := by
  obtain ⟨r, m2, S2, r1, r2, hI2⟩ := l_connect ht hI (xs (j + 1))
  refine lg_aload1 C0 dL_law_191 ?_
  refine lg_arg C0 1 dL_law_192 dL_law_193 dL_law_194 dL_law_195 dL_law_196 (by decide) (by omega) hL0 ?_
  refine lg_callC C0 hK [xs (j + 1)] (rest := []) dL_law_197 llL_18 mvX10_connect rfl rfl rfl (Nat.le_of_ble_eq_true rfl) (by decide) rfl r2 ?_
  refine lg_aload2 C0 dL_law_200 ?_
  refine lg_arg C0 1 dL_law_201 dL_law_202 dL_law_203 dL_law_204 dL_law_205 (by decide) (by omega) hL0 ?_
  refine lg_callM C0 hK [xs (j + 1)] (rest := [.int r]) dL_law_206 llL_22 mvX11_connect rfl rfl rfl (Nat.le_of_ble_eq_true rfl) (by decide) rfl r1 ?_
  exact lg_icmpeq C0 (tgt := 803) dL_law_209 (by decide) (K m2 S2 hI2)
theorem lw_case_2 {p : Program} {l : Launch} {e : Env} {s : State} {m : MethodId} {below : List Frame} {meth : Method} {c : Code} {b L : Nat} {xs : Nat → Int32} {D : va_G} {ca : gm_Ar} {j t : Nat} {T S : gm_Mem} (C0 : lw_At p s m meth c b L xs) (hK : va_K D vwCl (gm_Ty ca) s) (hL0 : L ≤ 2048) (ht : t < 512) (hI : LI t T S) (hj : j + 3 < L) (K : ∀ T2 S2, LI (t + 1) T2 S2 → lw_go p l e s m below meth c b D ca 803 [] j T2 S2) : lw_go p l e s m below meth c b D ca 214 [] j T S := by
  obtain ⟨r, m2, S2, r1, r2, hI2⟩ := l_resume ht hI (xs (j + 1))
  refine lg_aload1 C0 dL_law_214 ?_
  refine lg_arg C0 1 dL_law_215 dL_law_216 dL_law_217 dL_law_218 dL_law_219 (by decide) (by omega) hL0 ?_
  refine lg_callC C0 hK [xs (j + 1)] (rest := []) dL_law_220 llL_23 mvX10_resume rfl rfl rfl (Nat.le_of_ble_eq_true rfl) (by decide) rfl r2 ?_
  refine lg_aload2 C0 dL_law_223 ?_
  refine lg_arg C0 1 dL_law_224 dL_law_225 dL_law_226 dL_law_227 dL_law_228 (by decide) (by omega) hL0 ?_
  refine lg_callM C0 hK [xs (j + 1)] (rest := [.int r]) dL_law_229 llL_26 mvX11_resume rfl rfl rfl (Nat.le_of_ble_eq_true rfl) (by decide) rfl r1 ?_
  exact lg_icmpeq C0 (tgt := 803) dL_law_232 (by decide) (K m2 S2 hI2)
theorem lw_case_3 {p : Program} {l : Launch} {e : Env} {s : State} {m : MethodId} {below : List Frame} {meth : Method} {c : Code} {b L : Nat} {xs : Nat → Int32} {D : va_G} {ca : gm_Ar} {j t : Nat} {T S : gm_Mem} (C0 : lw_At p s m meth c b L xs) (hK : va_K D vwCl (gm_Ty ca) s) (hL0 : L ≤ 2048) (ht : t < 512) (hI : LI t T S) (hj : j + 3 < L) (K : ∀ T2 S2, LI (t + 1) T2 S2 → lw_go p l e s m below meth c b D ca 803 [] j T2 S2) : lw_go p l e s m below meth c b D ca 237 [] j T S := by
  obtain ⟨r, m2, S2, r1, r2, hI2⟩ := l_disconnect ht hI 
  refine lg_aload1 C0 dL_law_237 ?_
  refine lg_callC C0 hK [] (rest := []) dL_law_238 llL_27 mvX10_disconnect rfl rfl rfl (Nat.le_of_ble_eq_true rfl) (by decide) rfl r2 ?_
  refine lg_aload2 C0 dL_law_241 ?_
  refine lg_callM C0 hK [] (rest := [.int r]) dL_law_242 llL_31 mvX11_disconnect rfl rfl rfl (Nat.le_of_ble_eq_true rfl) (by decide) rfl r1 ?_
  exact lg_icmpeq C0 (tgt := 803) dL_law_245 (by decide) (K m2 S2 hI2)
theorem lw_case_4 {p : Program} {l : Launch} {e : Env} {s : State} {m : MethodId} {below : List Frame} {meth : Method} {c : Code} {b L : Nat} {xs : Nat → Int32} {D : va_G} {ca : gm_Ar} {j t : Nat} {T S : gm_Mem} (C0 : lw_At p s m meth c b L xs) (hK : va_K D vwCl (gm_Ty ca) s) (hL0 : L ≤ 2048) (ht : t < 512) (hI : LI t T S) (hj : j + 3 < L) (K : ∀ T2 S2, LI (t + 1) T2 S2 → lw_go p l e s m below meth c b D ca 803 [] j T2 S2) : lw_go p l e s m below meth c b D ca 250 [] j T S := by
  obtain ⟨r, m2, S2, r1, r2, hI2⟩ := l_send ht hI (xs (j + 1)) (xs (j + 2))
  refine lg_aload1 C0 dL_law_250 ?_
  refine lg_arg C0 1 dL_law_251 dL_law_252 dL_law_253 dL_law_254 dL_law_255 (by decide) (by omega) hL0 ?_
  refine lg_arg C0 2 dL_law_256 dL_law_257 dL_law_258 dL_law_259 dL_law_260 (by decide) (by omega) hL0 ?_
  refine lg_callC C0 hK [xs (j + 1), xs (j + 2)] (rest := []) dL_law_261 llL_32 mvX10_send rfl rfl rfl (Nat.le_of_ble_eq_true rfl) (by decide) rfl r2 ?_
  refine lg_aload2 C0 dL_law_264 ?_
  refine lg_arg C0 1 dL_law_265 dL_law_266 dL_law_267 dL_law_268 dL_law_269 (by decide) (by omega) hL0 ?_
  refine lg_arg C0 2 dL_law_270 dL_law_271 dL_law_272 dL_law_273 dL_law_274 (by decide) (by omega) hL0 ?_
  refine lg_callM C0 hK [xs (j + 1), xs (j + 2)] (rest := [.int r]) dL_law_275 llL_36 mvX11_send rfl rfl rfl (Nat.le_of_ble_eq_true rfl) (by decide) rfl r1 ?_
  exact lg_icmpeq C0 (tgt := 803) dL_law_278 (by decide) (K m2 S2 hI2)
theorem lw_case_5 {p : Program} {l : Launch} {e : Env} {s : State} {m : MethodId} {below : List Frame} {meth : Method} {c : Code} {b L : Nat} {xs : Nat → Int32} {D : va_G} {ca : gm_Ar} {j t : Nat} {T S : gm_Mem} (C0 : lw_At p s m meth c b L xs) (hK : va_K D vwCl (gm_Ty ca) s) (hL0 : L ≤ 2048) (ht : t < 512) (hI : LI t T S) (hj : j + 3 < L) (K : ∀ T2 S2, LI (t + 1) T2 S2 → lw_go p l e s m below meth c b D ca 803 [] j T2 S2) : lw_go p l e s m below meth c b D ca 283 [] j T S := by
  obtain ⟨r, m2, S2, r1, r2, hI2⟩ := l_close ht hI (xs (j + 1))
  refine lg_aload1 C0 dL_law_283 ?_
  refine lg_arg C0 1 dL_law_284 dL_law_285 dL_law_286 dL_law_287 dL_law_288 (by decide) (by omega) hL0 ?_
  refine lg_callC C0 hK [xs (j + 1)] (rest := []) dL_law_289 llL_37 mvX10_close rfl rfl rfl (Nat.le_of_ble_eq_true rfl) (by decide) rfl r2 ?_
  refine lg_aload2 C0 dL_law_292 ?_
  refine lg_arg C0 1 dL_law_293 dL_law_294 dL_law_295 dL_law_296 dL_law_297 (by decide) (by omega) hL0 ?_
  refine lg_callM C0 hK [xs (j + 1)] (rest := [.int r]) dL_law_298 llL_40 mvX11_close rfl rfl rfl (Nat.le_of_ble_eq_true rfl) (by decide) rfl r1 ?_
  exact lg_icmpeq C0 (tgt := 803) dL_law_301 (by decide) (K m2 S2 hI2)
theorem lw_case_6 {p : Program} {l : Launch} {e : Env} {s : State} {m : MethodId} {below : List Frame} {meth : Method} {c : Code} {b L : Nat} {xs : Nat → Int32} {D : va_G} {ca : gm_Ar} {j t : Nat} {T S : gm_Mem} (C0 : lw_At p s m meth c b L xs) (hK : va_K D vwCl (gm_Ty ca) s) (hL0 : L ≤ 2048) (ht : t < 512) (hI : LI t T S) (hj : j + 3 < L) (K : ∀ T2 S2, LI (t + 1) T2 S2 → lw_go p l e s m below meth c b D ca 803 [] j T2 S2) : lw_go p l e s m below meth c b D ca 306 [] j T S := by
  obtain ⟨r, m2, S2, r1, r2, hI2⟩ := l_deliver ht hI (xs (j + 1))
  refine lg_aload1 C0 dL_law_306 ?_
  refine lg_arg C0 1 dL_law_307 dL_law_308 dL_law_309 dL_law_310 dL_law_311 (by decide) (by omega) hL0 ?_
  refine lg_callC C0 hK [xs (j + 1)] (rest := []) dL_law_312 llL_41 mvX10_deliver rfl rfl rfl (Nat.le_of_ble_eq_true rfl) (by decide) rfl r2 ?_
  refine lg_aload2 C0 dL_law_315 ?_
  refine lg_arg C0 1 dL_law_316 dL_law_317 dL_law_318 dL_law_319 dL_law_320 (by decide) (by omega) hL0 ?_
  refine lg_callM C0 hK [xs (j + 1)] (rest := [.int r]) dL_law_321 llL_44 mvX11_deliver rfl rfl rfl (Nat.le_of_ble_eq_true rfl) (by decide) rfl r1 ?_
  exact lg_icmpeq C0 (tgt := 803) dL_law_324 (by decide) (K m2 S2 hI2)
theorem lw_case_7 {p : Program} {l : Launch} {e : Env} {s : State} {m : MethodId} {below : List Frame} {meth : Method} {c : Code} {b L : Nat} {xs : Nat → Int32} {D : va_G} {ca : gm_Ar} {j t : Nat} {T S : gm_Mem} (C0 : lw_At p s m meth c b L xs) (hK : va_K D vwCl (gm_Ty ca) s) (hL0 : L ≤ 2048) (ht : t < 512) (hI : LI t T S) (hj : j + 3 < L) (K : ∀ T2 S2, LI (t + 1) T2 S2 → lw_go p l e s m below meth c b D ca 803 [] j T2 S2) : lw_go p l e s m below meth c b D ca 329 [] j T S := by
  obtain ⟨r, m2, S2, r1, r2, hI2⟩ := l_foresee ht hI (xs (j + 1))
  refine lg_aload1 C0 dL_law_329 ?_
  refine lg_arg C0 1 dL_law_330 dL_law_331 dL_law_332 dL_law_333 dL_law_334 (by decide) (by omega) hL0 ?_
  refine lg_callC C0 hK [xs (j + 1)] (rest := []) dL_law_335 llL_45 mvX10_foresee rfl rfl rfl (Nat.le_of_ble_eq_true rfl) (by decide) rfl r2 ?_
  refine lg_aload2 C0 dL_law_338 ?_
  refine lg_arg C0 1 dL_law_339 dL_law_340 dL_law_341 dL_law_342 dL_law_343 (by decide) (by omega) hL0 ?_
  refine lg_callM C0 hK [xs (j + 1)] (rest := [.int r]) dL_law_344 llL_48 mvX11_foresee rfl rfl rfl (Nat.le_of_ble_eq_true rfl) (by decide) rfl r1 ?_
  exact lg_icmpeq C0 (tgt := 803) dL_law_347 (by decide) (K m2 S2 hI2)
theorem lw_case_8 {p : Program} {l : Launch} {e : Env} {s : State} {m : MethodId} {below : List Frame} {meth : Method} {c : Code} {b L : Nat} {xs : Nat → Int32} {D : va_G} {ca : gm_Ar} {j t : Nat} {T S : gm_Mem} (C0 : lw_At p s m meth c b L xs) (hK : va_K D vwCl (gm_Ty ca) s) (hL0 : L ≤ 2048) (ht : t < 512) (hI : LI t T S) (hj : j + 3 < L) (K : ∀ T2 S2, LI (t + 1) T2 S2 → lw_go p l e s m below meth c b D ca 803 [] j T2 S2) : lw_go p l e s m below meth c b D ca 352 [] j T S := by
  obtain ⟨r, m2, S2, r1, r2, hI2⟩ := l_drop ht hI (xs (j + 1))
  refine lg_aload1 C0 dL_law_352 ?_
  refine lg_arg C0 1 dL_law_353 dL_law_354 dL_law_355 dL_law_356 dL_law_357 (by decide) (by omega) hL0 ?_
  refine lg_callC C0 hK [xs (j + 1)] (rest := []) dL_law_358 llL_49 mvX10_drop rfl rfl rfl (Nat.le_of_ble_eq_true rfl) (by decide) rfl r2 ?_
  refine lg_aload2 C0 dL_law_361 ?_
  refine lg_arg C0 1 dL_law_362 dL_law_363 dL_law_364 dL_law_365 dL_law_366 (by decide) (by omega) hL0 ?_
  refine lg_callM C0 hK [xs (j + 1)] (rest := [.int r]) dL_law_367 llL_52 mvX11_drop rfl rfl rfl (Nat.le_of_ble_eq_true rfl) (by decide) rfl r1 ?_
  exact lg_icmpeq C0 (tgt := 803) dL_law_370 (by decide) (K m2 S2 hI2)
theorem lw_case_9 {p : Program} {l : Launch} {e : Env} {s : State} {m : MethodId} {below : List Frame} {meth : Method} {c : Code} {b L : Nat} {xs : Nat → Int32} {D : va_G} {ca : gm_Ar} {j t : Nat} {T S : gm_Mem} (C0 : lw_At p s m meth c b L xs) (hK : va_K D vwCl (gm_Ty ca) s) (hL0 : L ≤ 2048) (ht : t < 512) (hI : LI t T S) (hj : j + 3 < L) (K : ∀ T2 S2, LI (t + 1) T2 S2 → lw_go p l e s m below meth c b D ca 803 [] j T2 S2) : lw_go p l e s m below meth c b D ca 375 [] j T S := by
  obtain ⟨r, m2, S2, r1, r2, hI2⟩ := l_repeat ht hI (xs (j + 1))
  refine lg_aload1 C0 dL_law_375 ?_
  refine lg_arg C0 1 dL_law_376 dL_law_377 dL_law_378 dL_law_379 dL_law_380 (by decide) (by omega) hL0 ?_
  refine lg_callC C0 hK [xs (j + 1)] (rest := []) dL_law_381 llL_53 mvX10_repeat rfl rfl rfl (Nat.le_of_ble_eq_true rfl) (by decide) rfl r2 ?_
  refine lg_aload2 C0 dL_law_384 ?_
  refine lg_arg C0 1 dL_law_385 dL_law_386 dL_law_387 dL_law_388 dL_law_389 (by decide) (by omega) hL0 ?_
  refine lg_callM C0 hK [xs (j + 1)] (rest := [.int r]) dL_law_390 llL_56 mvX11_repeat rfl rfl rfl (Nat.le_of_ble_eq_true rfl) (by decide) rfl r1 ?_
  exact lg_icmpeq C0 (tgt := 803) dL_law_393 (by decide) (K m2 S2 hI2)
theorem lw_case_10 {p : Program} {l : Launch} {e : Env} {s : State} {m : MethodId} {below : List Frame} {meth : Method} {c : Code} {b L : Nat} {xs : Nat → Int32} {D : va_G} {ca : gm_Ar} {j t : Nat} {T S : gm_Mem} (C0 : lw_At p s m meth c b L xs) (hK : va_K D vwCl (gm_Ty ca) s) (hL0 : L ≤ 2048) (ht : t < 512) (hI : LI t T S) (hj : j + 3 < L) (K : ∀ T2 S2, LI (t + 1) T2 S2 → lw_go p l e s m below meth c b D ca 803 [] j T2 S2) : lw_go p l e s m below meth c b D ca 398 [] j T S := by
  obtain ⟨r, m2, S2, r1, r2, hI2⟩ := l_alter ht hI (xs (j + 1)) (xs (j + 2))
  refine lg_aload1 C0 dL_law_398 ?_
  refine lg_arg C0 1 dL_law_399 dL_law_400 dL_law_401 dL_law_402 dL_law_403 (by decide) (by omega) hL0 ?_
  refine lg_arg C0 2 dL_law_404 dL_law_405 dL_law_406 dL_law_407 dL_law_408 (by decide) (by omega) hL0 ?_
  refine lg_callC C0 hK [xs (j + 1), xs (j + 2)] (rest := []) dL_law_409 llL_57 mvX10_alter rfl rfl rfl (Nat.le_of_ble_eq_true rfl) (by decide) rfl r2 ?_
  refine lg_aload2 C0 dL_law_412 ?_
  refine lg_arg C0 1 dL_law_413 dL_law_414 dL_law_415 dL_law_416 dL_law_417 (by decide) (by omega) hL0 ?_
  refine lg_arg C0 2 dL_law_418 dL_law_419 dL_law_420 dL_law_421 dL_law_422 (by decide) (by omega) hL0 ?_
  refine lg_callM C0 hK [xs (j + 1), xs (j + 2)] (rest := [.int r]) dL_law_423 llL_60 mvX11_alter rfl rfl rfl (Nat.le_of_ble_eq_true rfl) (by decide) rfl r1 ?_
  exact lg_icmpeq C0 (tgt := 803) dL_law_426 (by decide) (K m2 S2 hI2)
theorem lw_case_11 {p : Program} {l : Launch} {e : Env} {s : State} {m : MethodId} {below : List Frame} {meth : Method} {c : Code} {b L : Nat} {xs : Nat → Int32} {D : va_G} {ca : gm_Ar} {j t : Nat} {T S : gm_Mem} (C0 : lw_At p s m meth c b L xs) (hK : va_K D vwCl (gm_Ty ca) s) (hL0 : L ≤ 2048) (ht : t < 512) (hI : LI t T S) (hj : j + 3 < L) (K : ∀ T2 S2, LI (t + 1) T2 S2 → lw_go p l e s m below meth c b D ca 803 [] j T2 S2) : lw_go p l e s m below meth c b D ca 431 [] j T S := by
  obtain ⟨r, m2, S2, r1, r2, hI2⟩ := l_tickC ht hI (xs (j + 1))
  refine lg_aload1 C0 dL_law_431 ?_
  refine lg_arg C0 1 dL_law_432 dL_law_433 dL_law_434 dL_law_435 dL_law_436 (by decide) (by omega) hL0 ?_
  refine lg_callC C0 hK [xs (j + 1)] (rest := []) dL_law_437 llL_61 mvX10_tick rfl rfl rfl (Nat.le_of_ble_eq_true rfl) (by decide) rfl r2 ?_
  refine lg_aload2 C0 dL_law_440 ?_
  refine lg_arg C0 1 dL_law_441 dL_law_442 dL_law_443 dL_law_444 dL_law_445 (by decide) (by omega) hL0 ?_
  refine lg_callM C0 hK [xs (j + 1)] (rest := [.int r]) dL_law_446 llL_64 mvX11_tick rfl rfl rfl (Nat.le_of_ble_eq_true rfl) (by decide) rfl r1 ?_
  exact lg_icmpeq C0 (tgt := 803) dL_law_449 (by decide) (K m2 S2 hI2)
theorem lw_case_12 {p : Program} {l : Launch} {e : Env} {s : State} {m : MethodId} {below : List Frame} {meth : Method} {c : Code} {b L : Nat} {xs : Nat → Int32} {D : va_G} {ca : gm_Ar} {j t : Nat} {T S : gm_Mem} (C0 : lw_At p s m meth c b L xs) (hK : va_K D vwCl (gm_Ty ca) s) (hL0 : L ≤ 2048) (ht : t < 512) (hI : LI t T S) (hj : j + 3 < L) (K : ∀ T2 S2, LI (t + 1) T2 S2 → lw_go p l e s m below meth c b D ca 803 [] j T2 S2) : lw_go p l e s m below meth c b D ca 454 [] j T S := by
  obtain ⟨r, m2, S2, r1, r2, hI2⟩ := l_packet ht hI (xs (j + 1)) (xs (j + 2))
  refine lg_aload1 C0 dL_law_454 ?_
  refine lg_arg C0 1 dL_law_455 dL_law_456 dL_law_457 dL_law_458 dL_law_459 (by decide) (by omega) hL0 ?_
  refine lg_arg C0 2 dL_law_460 dL_law_461 dL_law_462 dL_law_463 dL_law_464 (by decide) (by omega) hL0 ?_
  refine lg_callC C0 hK [xs (j + 1), xs (j + 2)] (rest := []) dL_law_465 llL_65 mvX10_packet rfl rfl rfl (Nat.le_of_ble_eq_true rfl) (by decide) rfl r2 ?_
  refine lg_aload2 C0 dL_law_468 ?_
  refine lg_arg C0 1 dL_law_469 dL_law_470 dL_law_471 dL_law_472 dL_law_473 (by decide) (by omega) hL0 ?_
  refine lg_arg C0 2 dL_law_474 dL_law_475 dL_law_476 dL_law_477 dL_law_478 (by decide) (by omega) hL0 ?_
  refine lg_callM C0 hK [xs (j + 1), xs (j + 2)] (rest := [.int r]) dL_law_479 llL_68 mvX11_packet rfl rfl rfl (Nat.le_of_ble_eq_true rfl) (by decide) rfl r1 ?_
  exact lg_icmpeq C0 (tgt := 803) dL_law_482 (by decide) (K m2 S2 hI2)
theorem lw_case_13 {p : Program} {l : Launch} {e : Env} {s : State} {m : MethodId} {below : List Frame} {meth : Method} {c : Code} {b L : Nat} {xs : Nat → Int32} {D : va_G} {ca : gm_Ar} {j t : Nat} {T S : gm_Mem} (C0 : lw_At p s m meth c b L xs) (hK : va_K D vwCl (gm_Ty ca) s) (hL0 : L ≤ 2048) (ht : t < 512) (hI : LI t T S) (hj : j + 3 < L) (K : ∀ T2 S2, LI (t + 1) T2 S2 → lw_go p l e s m below meth c b D ca 803 [] j T2 S2) : lw_go p l e s m below meth c b D ca 487 [] j T S := by
  obtain ⟨r, m2, S2, r1, r2, hI2⟩ := l_endpoint ht hI (xs (j + 1)) (xs (j + 2))
  refine lg_aload1 C0 dL_law_487 ?_
  refine lg_arg C0 1 dL_law_488 dL_law_489 dL_law_490 dL_law_491 dL_law_492 (by decide) (by omega) hL0 ?_
  refine lg_arg C0 2 dL_law_493 dL_law_494 dL_law_495 dL_law_496 dL_law_497 (by decide) (by omega) hL0 ?_
  refine lg_callC C0 hK [xs (j + 1), xs (j + 2)] (rest := []) dL_law_498 llL_69 mvX10_endpoint rfl rfl rfl (Nat.le_of_ble_eq_true rfl) (by decide) rfl r2 ?_
  refine lg_aload2 C0 dL_law_501 ?_
  refine lg_arg C0 1 dL_law_502 dL_law_503 dL_law_504 dL_law_505 dL_law_506 (by decide) (by omega) hL0 ?_
  refine lg_arg C0 2 dL_law_507 dL_law_508 dL_law_509 dL_law_510 dL_law_511 (by decide) (by omega) hL0 ?_
  refine lg_callM C0 hK [xs (j + 1), xs (j + 2)] (rest := [.int r]) dL_law_512 llL_72 mvX11_endpoint rfl rfl rfl (Nat.le_of_ble_eq_true rfl) (by decide) rfl r1 ?_
  exact lg_icmpeq C0 (tgt := 803) dL_law_515 (by decide) (K m2 S2 hI2)
theorem lw_case_14 {p : Program} {l : Launch} {e : Env} {s : State} {m : MethodId} {below : List Frame} {meth : Method} {c : Code} {b L : Nat} {xs : Nat → Int32} {D : va_G} {ca : gm_Ar} {j t : Nat} {T S : gm_Mem} (C0 : lw_At p s m meth c b L xs) (hK : va_K D vwCl (gm_Ty ca) s) (hL0 : L ≤ 2048) (ht : t < 512) (hI : LI t T S) (hj : j + 3 < L) (K : ∀ T2 S2, LI (t + 1) T2 S2 → lw_go p l e s m below meth c b D ca 803 [] j T2 S2) : lw_go p l e s m below meth c b D ca 520 [] j T S := by
  obtain ⟨r, m2, S2, r1, r2, hI2⟩ := l_window ht hI (xs (j + 1)) (xs (j + 2))
  refine lg_aload1 C0 dL_law_520 ?_
  refine lg_arg C0 1 dL_law_521 dL_law_522 dL_law_523 dL_law_524 dL_law_525 (by decide) (by omega) hL0 ?_
  refine lg_arg C0 2 dL_law_526 dL_law_527 dL_law_528 dL_law_529 dL_law_530 (by decide) (by omega) hL0 ?_
  refine lg_callC C0 hK [xs (j + 1), xs (j + 2)] (rest := []) dL_law_531 llL_73 mvX10_window rfl rfl rfl (Nat.le_of_ble_eq_true rfl) (by decide) rfl r2 ?_
  refine lg_aload2 C0 dL_law_534 ?_
  refine lg_arg C0 1 dL_law_535 dL_law_536 dL_law_537 dL_law_538 dL_law_539 (by decide) (by omega) hL0 ?_
  refine lg_arg C0 2 dL_law_540 dL_law_541 dL_law_542 dL_law_543 dL_law_544 (by decide) (by omega) hL0 ?_
  refine lg_callM C0 hK [xs (j + 1), xs (j + 2)] (rest := [.int r]) dL_law_545 llL_76 mvX11_window rfl rfl rfl (Nat.le_of_ble_eq_true rfl) (by decide) rfl r1 ?_
  exact lg_icmpeq C0 (tgt := 803) dL_law_548 (by decide) (K m2 S2 hI2)
theorem lw_case_15 {p : Program} {l : Launch} {e : Env} {s : State} {m : MethodId} {below : List Frame} {meth : Method} {c : Code} {b L : Nat} {xs : Nat → Int32} {D : va_G} {ca : gm_Ar} {j t : Nat} {T S : gm_Mem} (C0 : lw_At p s m meth c b L xs) (hK : va_K D vwCl (gm_Ty ca) s) (hL0 : L ≤ 2048) (ht : t < 512) (hI : LI t T S) (hj : j + 3 < L) (K : ∀ T2 S2, LI (t + 1) T2 S2 → lw_go p l e s m below meth c b D ca 803 [] j T2 S2) : lw_go p l e s m below meth c b D ca 553 [] j T S := by
  obtain ⟨r, m2, S2, r1, r2, hI2⟩ := l_takenQ ht hI (xs (j + 1)) (xs (j + 2))
  refine lg_aload1 C0 dL_law_553 ?_
  refine lg_arg C0 1 dL_law_554 dL_law_555 dL_law_556 dL_law_557 dL_law_558 (by decide) (by omega) hL0 ?_
  refine lg_arg C0 2 dL_law_559 dL_law_560 dL_law_561 dL_law_562 dL_law_563 (by decide) (by omega) hL0 ?_
  refine lg_callC C0 hK [xs (j + 1), xs (j + 2)] (rest := []) dL_law_564 llL_77 mvX10_taken rfl rfl rfl (Nat.le_of_ble_eq_true rfl) (by decide) rfl r2 ?_
  refine lg_aload2 C0 dL_law_567 ?_
  refine lg_arg C0 1 dL_law_568 dL_law_569 dL_law_570 dL_law_571 dL_law_572 (by decide) (by omega) hL0 ?_
  refine lg_arg C0 2 dL_law_573 dL_law_574 dL_law_575 dL_law_576 dL_law_577 (by decide) (by omega) hL0 ?_
  refine lg_callM C0 hK [xs (j + 1), xs (j + 2)] (rest := [.int r]) dL_law_578 llL_80 mvX11_taken rfl rfl rfl (Nat.le_of_ble_eq_true rfl) (by decide) rfl r1 ?_
  exact lg_icmpeq C0 (tgt := 803) dL_law_581 (by decide) (K m2 S2 hI2)
theorem lw_case_16 {p : Program} {l : Launch} {e : Env} {s : State} {m : MethodId} {below : List Frame} {meth : Method} {c : Code} {b L : Nat} {xs : Nat → Int32} {D : va_G} {ca : gm_Ar} {j t : Nat} {T S : gm_Mem} (C0 : lw_At p s m meth c b L xs) (hK : va_K D vwCl (gm_Ty ca) s) (hL0 : L ≤ 2048) (ht : t < 512) (hI : LI t T S) (hj : j + 3 < L) (K : ∀ T2 S2, LI (t + 1) T2 S2 → lw_go p l e s m below meth c b D ca 803 [] j T2 S2) : lw_go p l e s m below meth c b D ca 586 [] j T S := by
  obtain ⟨r, m2, S2, r1, r2, hI2⟩ := l_kept ht hI (xs (j + 1)) (xs (j + 2)) (xs (j + 3))
  refine lg_aload1 C0 dL_law_586 ?_
  refine lg_arg C0 1 dL_law_587 dL_law_588 dL_law_589 dL_law_590 dL_law_591 (by decide) (by omega) hL0 ?_
  refine lg_arg C0 2 dL_law_592 dL_law_593 dL_law_594 dL_law_595 dL_law_596 (by decide) (by omega) hL0 ?_
  refine lg_arg C0 3 dL_law_597 dL_law_598 dL_law_599 dL_law_600 dL_law_601 (by decide) (by omega) hL0 ?_
  refine lg_callC C0 hK [xs (j + 1), xs (j + 2), xs (j + 3)] (rest := []) dL_law_602 llL_81 mvX10_kept rfl rfl rfl (Nat.le_of_ble_eq_true rfl) (by decide) rfl r2 ?_
  refine lg_aload2 C0 dL_law_605 ?_
  refine lg_arg C0 1 dL_law_606 dL_law_607 dL_law_608 dL_law_609 dL_law_610 (by decide) (by omega) hL0 ?_
  refine lg_arg C0 2 dL_law_611 dL_law_612 dL_law_613 dL_law_614 dL_law_615 (by decide) (by omega) hL0 ?_
  refine lg_arg C0 3 dL_law_616 dL_law_617 dL_law_618 dL_law_619 dL_law_620 (by decide) (by omega) hL0 ?_
  refine lg_callM C0 hK [xs (j + 1), xs (j + 2), xs (j + 3)] (rest := [.int r]) dL_law_621 llL_84 mvX11_kept rfl rfl rfl (Nat.le_of_ble_eq_true rfl) (by decide) rfl r1 ?_
  exact lg_icmpeq C0 (tgt := 803) dL_law_624 (by decide) (K m2 S2 hI2)
theorem lw_case_17 {p : Program} {l : Launch} {e : Env} {s : State} {m : MethodId} {below : List Frame} {meth : Method} {c : Code} {b L : Nat} {xs : Nat → Int32} {D : va_G} {ca : gm_Ar} {j t : Nat} {T S : gm_Mem} (C0 : lw_At p s m meth c b L xs) (hK : va_K D vwCl (gm_Ty ca) s) (hL0 : L ≤ 2048) (ht : t < 512) (hI : LI t T S) (hj : j + 3 < L) (K : ∀ T2 S2, LI (t + 1) T2 S2 → lw_go p l e s m below meth c b D ca 803 [] j T2 S2) : lw_go p l e s m below meth c b D ca 629 [] j T S := by
  obtain ⟨r, m2, S2, r1, r2, hI2⟩ := l_results ht hI (xs (j + 1)) (xs (j + 2))
  refine lg_aload1 C0 dL_law_629 ?_
  refine lg_arg C0 1 dL_law_630 dL_law_631 dL_law_632 dL_law_633 dL_law_634 (by decide) (by omega) hL0 ?_
  refine lg_arg C0 2 dL_law_635 dL_law_636 dL_law_637 dL_law_638 dL_law_639 (by decide) (by omega) hL0 ?_
  refine lg_callC C0 hK [xs (j + 1), xs (j + 2)] (rest := []) dL_law_640 llL_85 mvX10_results rfl rfl rfl (Nat.le_of_ble_eq_true rfl) (by decide) rfl r2 ?_
  refine lg_aload2 C0 dL_law_643 ?_
  refine lg_arg C0 1 dL_law_644 dL_law_645 dL_law_646 dL_law_647 dL_law_648 (by decide) (by omega) hL0 ?_
  refine lg_arg C0 2 dL_law_649 dL_law_650 dL_law_651 dL_law_652 dL_law_653 (by decide) (by omega) hL0 ?_
  refine lg_callM C0 hK [xs (j + 1), xs (j + 2)] (rest := [.int r]) dL_law_654 llL_88 mvX11_results rfl rfl rfl (Nat.le_of_ble_eq_true rfl) (by decide) rfl r1 ?_
  exact lg_icmpeq C0 (tgt := 803) dL_law_657 (by decide) (K m2 S2 hI2)
theorem lw_case_18 {p : Program} {l : Launch} {e : Env} {s : State} {m : MethodId} {below : List Frame} {meth : Method} {c : Code} {b L : Nat} {xs : Nat → Int32} {D : va_G} {ca : gm_Ar} {j t : Nat} {T S : gm_Mem} (C0 : lw_At p s m meth c b L xs) (hK : va_K D vwCl (gm_Ty ca) s) (hL0 : L ≤ 2048) (ht : t < 512) (hI : LI t T S) (hj : j + 3 < L) (K : ∀ T2 S2, LI (t + 1) T2 S2 → lw_go p l e s m below meth c b D ca 803 [] j T2 S2) : lw_go p l e s m below meth c b D ca 662 [] j T S := by
  obtain ⟨r, m2, S2, r1, r2, hI2⟩ := l_count ht hI (xs (j + 1))
  refine lg_aload1 C0 dL_law_662 ?_
  refine lg_arg C0 1 dL_law_663 dL_law_664 dL_law_665 dL_law_666 dL_law_667 (by decide) (by omega) hL0 ?_
  refine lg_callC C0 hK [xs (j + 1)] (rest := []) dL_law_668 llL_89 mvX10_count rfl rfl rfl (Nat.le_of_ble_eq_true rfl) (by decide) rfl r2 ?_
  refine lg_aload2 C0 dL_law_671 ?_
  refine lg_arg C0 1 dL_law_672 dL_law_673 dL_law_674 dL_law_675 dL_law_676 (by decide) (by omega) hL0 ?_
  refine lg_callM C0 hK [xs (j + 1)] (rest := [.int r]) dL_law_677 llL_92 mvX11_count rfl rfl rfl (Nat.le_of_ble_eq_true rfl) (by decide) rfl r1 ?_
  exact lg_icmpeq C0 (tgt := 803) dL_law_680 (by decide) (K m2 S2 hI2)
theorem lw_case_19 {p : Program} {l : Launch} {e : Env} {s : State} {m : MethodId} {below : List Frame} {meth : Method} {c : Code} {b L : Nat} {xs : Nat → Int32} {D : va_G} {ca : gm_Ar} {j t : Nat} {T S : gm_Mem} (C0 : lw_At p s m meth c b L xs) (hK : va_K D vwCl (gm_Ty ca) s) (hL0 : L ≤ 2048) (ht : t < 512) (hI : LI t T S) (hj : j + 3 < L) (K : ∀ T2 S2, LI (t + 1) T2 S2 → lw_go p l e s m below meth c b D ca 803 [] j T2 S2) : lw_go p l e s m below meth c b D ca 685 [] j T S := by
  obtain ⟨r, m2, S2, r1, r2, hI2⟩ := l_event ht hI (xs (j + 1)) (xs (j + 2))
  refine lg_aload1 C0 dL_law_685 ?_
  refine lg_arg C0 1 dL_law_686 dL_law_687 dL_law_688 dL_law_689 dL_law_690 (by decide) (by omega) hL0 ?_
  refine lg_arg C0 2 dL_law_691 dL_law_692 dL_law_693 dL_law_694 dL_law_695 (by decide) (by omega) hL0 ?_
  refine lg_callC C0 hK [xs (j + 1), xs (j + 2)] (rest := []) dL_law_696 llL_93 mvX10_event rfl rfl rfl (Nat.le_of_ble_eq_true rfl) (by decide) rfl r2 ?_
  refine lg_aload2 C0 dL_law_699 ?_
  refine lg_arg C0 1 dL_law_700 dL_law_701 dL_law_702 dL_law_703 dL_law_704 (by decide) (by omega) hL0 ?_
  refine lg_arg C0 2 dL_law_705 dL_law_706 dL_law_707 dL_law_708 dL_law_709 (by decide) (by omega) hL0 ?_
  refine lg_callM C0 hK [xs (j + 1), xs (j + 2)] (rest := [.int r]) dL_law_710 llL_96 mvX11_event rfl rfl rfl (Nat.le_of_ble_eq_true rfl) (by decide) rfl r1 ?_
  exact lg_icmpeq C0 (tgt := 803) dL_law_713 (by decide) (K m2 S2 hI2)
theorem lw_case_20 {p : Program} {l : Launch} {e : Env} {s : State} {m : MethodId} {below : List Frame} {meth : Method} {c : Code} {b L : Nat} {xs : Nat → Int32} {D : va_G} {ca : gm_Ar} {j t : Nat} {T S : gm_Mem} (C0 : lw_At p s m meth c b L xs) (hK : va_K D vwCl (gm_Ty ca) s) (hL0 : L ≤ 2048) (ht : t < 512) (hI : LI t T S) (hj : j + 3 < L) (K : ∀ T2 S2, LI (t + 1) T2 S2 → lw_go p l e s m below meth c b D ca 803 [] j T2 S2) : lw_go p l e s m below meth c b D ca 718 [] j T S := by
  obtain ⟨r, m2, S2, r1, r2, hI2⟩ := l_agree ht hI 
  refine lg_aload1 C0 dL_law_718 ?_
  refine lg_callC C0 hK [] (rest := []) dL_law_719 llL_97 mvX10_agree rfl rfl rfl (Nat.le_of_ble_eq_true rfl) (by decide) rfl r2 ?_
  refine lg_aload2 C0 dL_law_722 ?_
  refine lg_callM C0 hK [] (rest := [.int r]) dL_law_723 llL_100 mvX11_agree rfl rfl rfl (Nat.le_of_ble_eq_true rfl) (by decide) rfl r1 ?_
  exact lg_icmpeq C0 (tgt := 803) dL_law_726 (by decide) (K m2 S2 hI2)
theorem lw_case_21 {p : Program} {l : Launch} {e : Env} {s : State} {m : MethodId} {below : List Frame} {meth : Method} {c : Code} {b L : Nat} {xs : Nat → Int32} {D : va_G} {ca : gm_Ar} {j t : Nat} {T S : gm_Mem} (C0 : lw_At p s m meth c b L xs) (hK : va_K D vwCl (gm_Ty ca) s) (hL0 : L ≤ 2048) (ht : t < 512) (hI : LI t T S) (hj : j + 3 < L) (K : ∀ T2 S2, LI (t + 1) T2 S2 → lw_go p l e s m below meth c b D ca 803 [] j T2 S2) : lw_go p l e s m below meth c b D ca 731 [] j T S := by
  obtain ⟨r, m2, S2, r1, r2, hI2⟩ := l_append ht hI (xs (j + 1)) (xs (j + 2))
  refine lg_aload1 C0 dL_law_731 ?_
  refine lg_arg C0 1 dL_law_732 dL_law_733 dL_law_734 dL_law_735 dL_law_736 (by decide) (by omega) hL0 ?_
  refine lg_arg C0 2 dL_law_737 dL_law_738 dL_law_739 dL_law_740 dL_law_741 (by decide) (by omega) hL0 ?_
  refine lg_callC C0 hK [xs (j + 1), xs (j + 2)] (rest := []) dL_law_742 llL_101 mvX10_append rfl rfl rfl (Nat.le_of_ble_eq_true rfl) (by decide) rfl r2 ?_
  refine lg_aload2 C0 dL_law_745 ?_
  refine lg_arg C0 1 dL_law_746 dL_law_747 dL_law_748 dL_law_749 dL_law_750 (by decide) (by omega) hL0 ?_
  refine lg_arg C0 2 dL_law_751 dL_law_752 dL_law_753 dL_law_754 dL_law_755 (by decide) (by omega) hL0 ?_
  refine lg_callM C0 hK [xs (j + 1), xs (j + 2)] (rest := [.int r]) dL_law_756 llL_104 mvX11_append rfl rfl rfl (Nat.le_of_ble_eq_true rfl) (by decide) rfl r1 ?_
  exact lg_icmpeq C0 (tgt := 803) dL_law_759 (by decide) (K m2 S2 hI2)
theorem lw_case_22 {p : Program} {l : Launch} {e : Env} {s : State} {m : MethodId} {below : List Frame} {meth : Method} {c : Code} {b L : Nat} {xs : Nat → Int32} {D : va_G} {ca : gm_Ar} {j t : Nat} {T S : gm_Mem} (C0 : lw_At p s m meth c b L xs) (hK : va_K D vwCl (gm_Ty ca) s) (hL0 : L ≤ 2048) (ht : t < 512) (hI : LI t T S) (hj : j + 3 < L) (K : ∀ T2 S2, LI (t + 1) T2 S2 → lw_go p l e s m below meth c b D ca 803 [] j T2 S2) : lw_go p l e s m below meth c b D ca 764 [] j T S := by
  obtain ⟨r, m2, S2, r1, r2, hI2⟩ := l_runScript ht hI 
  refine lg_aload1 C0 dL_law_764 ?_
  refine lg_callC C0 hK [] (rest := []) dL_law_765 llL_105 mvX10_runScript rfl rfl rfl (Nat.le_of_ble_eq_true rfl) (by decide) rfl r2 ?_
  refine lg_aload2 C0 dL_law_768 ?_
  refine lg_callM C0 hK [] (rest := [.int r]) dL_law_769 llL_108 mvX11_runScript rfl rfl rfl (Nat.le_of_ble_eq_true rfl) (by decide) rfl r1 ?_
  exact lg_icmpeq C0 (tgt := 803) dL_law_772 (by decide) (K m2 S2 hI2)
theorem lw_case_23 {p : Program} {l : Launch} {e : Env} {s : State} {m : MethodId} {below : List Frame} {meth : Method} {c : Code} {b L : Nat} {xs : Nat → Int32} {D : va_G} {ca : gm_Ar} {j t : Nat} {T S : gm_Mem} (C0 : lw_At p s m meth c b L xs) (hK : va_K D vwCl (gm_Ty ca) s) (hL0 : L ≤ 2048) (ht : t < 512) (hI : LI t T S) (hj : j + 3 < L) (K : ∀ T2 S2, LI (t + 1) T2 S2 → lw_go p l e s m below meth c b D ca 803 [] j T2 S2) : lw_go p l e s m below meth c b D ca 777 [] j T S := by
  obtain ⟨r, m2, S2, r1, r2, hI2⟩ := l_save ht hI 
  refine lg_aload1 C0 dL_law_777 ?_
  refine lg_callC C0 hK [] (rest := []) dL_law_778 llL_109 mvX10_save rfl rfl rfl (Nat.le_of_ble_eq_true rfl) (by decide) rfl r2 ?_
  refine lg_aload2 C0 dL_law_781 ?_
  refine lg_callM C0 hK [] (rest := [.int r]) dL_law_782 llL_112 mvX11_save rfl rfl rfl (Nat.le_of_ble_eq_true rfl) (by decide) rfl r1 ?_
  exact lg_icmpeq C0 (tgt := 803) dL_law_785 (by decide) (K m2 S2 hI2)
theorem lw_case_24 {p : Program} {l : Launch} {e : Env} {s : State} {m : MethodId} {below : List Frame} {meth : Method} {c : Code} {b L : Nat} {xs : Nat → Int32} {D : va_G} {ca : gm_Ar} {j t : Nat} {T S : gm_Mem} (C0 : lw_At p s m meth c b L xs) (hK : va_K D vwCl (gm_Ty ca) s) (hL0 : L ≤ 2048) (ht : t < 512) (hI : LI t T S) (hj : j + 3 < L) (K : ∀ T2 S2, LI (t + 1) T2 S2 → lw_go p l e s m below meth c b D ca 803 [] j T2 S2) : lw_go p l e s m below meth c b D ca 790 [] j T S := by
  obtain ⟨r, m2, S2, r1, r2, hI2⟩ := l_restore ht hI 
  refine lg_aload1 C0 dL_law_790 ?_
  refine lg_callC C0 hK [] (rest := []) dL_law_791 llL_113 mvX10_restore rfl rfl rfl (Nat.le_of_ble_eq_true rfl) (by decide) rfl r2 ?_
  refine lg_aload2 C0 dL_law_794 ?_
  refine lg_callM C0 hK [] (rest := [.int r]) dL_law_795 llL_116 mvX11_restore rfl rfl rfl (Nat.le_of_ble_eq_true rfl) (by decide) rfl r1 ?_
  exact lg_icmpeq C0 (tgt := 803) dL_law_798 (by decide) (K m2 S2 hI2)
theorem lw_loop {p : Program} {l : Launch} {e : Env} {s : State} {m : MethodId} {below : List Frame} {meth : Method} {c : Code} {b L : Nat} {xs : Nat → Int32} {D : va_G} {ca : gm_Ar} (C0 : lw_At p s m meth c b L xs) (hK : va_K D vwCl (gm_Ty ca) s) (hL0 : L ≤ 2048) : ∀ d t T S, 4 * t + 4 * d + L % 4 = L → LI t T S → lw_go p l e s m below meth c b D ca 18 [] (4 * t) T S := by
  intro d
  induction d with
  | zero =>
    intro t T S hd hI
    refine lg_iload3 C0 dL_law_18 ?_
    refine lg_aload0 C0 dL_law_19 ?_
    refine lg_slen C0 dL_law_20 ?_
    refine lg_iconst C0 (v := 4) dL_law_21 (by decide) ?_
    refine lg_isub C0 dL_law_22 ?_
    refine lg_icmpgt C0 (tgt := 809) dL_law_23 (by decide) (fun _ => ?_) (fun q => ?_)
    · exact lg_iconst C0 (v := 1) dL_law_809 (by decide) (lg_ret C0 dL_law_810)
    · exfalso
      exact q (by simp only [Int32.lt_iff_toInt_lt, Int32.le_iff_toInt_le, ← Int32.toInt_inj, Int32.toInt_add, Int32.toInt_sub, Int32.toInt_mul, Int32.reduceToInt, nI, Int32.toInt_ofNat', Int.bmod, Int32.size, gm_ix]; omega)
  | succ d ih =>
    intro t T S hd hI
    refine lg_iload3 C0 dL_law_18 ?_
    refine lg_aload0 C0 dL_law_19 ?_
    refine lg_slen C0 dL_law_20 ?_
    refine lg_iconst C0 (v := 4) dL_law_21 (by decide) ?_
    refine lg_isub C0 dL_law_22 ?_
    refine lg_icmpgt C0 (tgt := 809) dL_law_23 (by decide) (fun q => ?_) (fun _ => ?_)
    · exfalso
      have q2 : ¬ nI L - 4 < nI (4 * t) := (by simp only [Int32.lt_iff_toInt_lt, Int32.le_iff_toInt_le, ← Int32.toInt_inj, Int32.toInt_add, Int32.toInt_sub, Int32.toInt_mul, Int32.reduceToInt, nI, Int32.toInt_ofNat', Int.bmod, Int32.size, gm_ix]; omega)
      exact q2 q
    · refine lg_aload0 C0 dL_law_26 ?_
      refine lg_iload3 C0 dL_law_27 ?_
      refine lg_sld C0 (k := 4 * t) (by omega) hL0 rfl dL_law_28 ?_
      refine lg_bipush C0 (v := 31) dL_law_29 (by decide) ?_
      refine lg_iand C0 dL_law_31 ?_
      have K : ∀ T2 S2, LI (t + 1) T2 S2 → lw_go p l e s m below meth c b D ca 803 [] (4 * t) T2 S2 := fun T2 S2 h => lg_iinc C0 dL_law_803 (lg_goto C0 (tgt := 18) dL_law_806 (by decide) (ih (t + 1) T2 S2 (by omega) h))
      generalize xs (4 * t) &&& 31 = v
      by_cases h : 0 ≤ v.toInt ∧ v.toInt ≤ 24
      · obtain ⟨k, hk⟩ : ∃ k : Nat, v.toInt = (k : Int) := ⟨v.toInt.toNat, by omega⟩
        rcases (show k = 0 ∨ k = 1 ∨ k = 2 ∨ k = 3 ∨ k = 4 ∨ k = 5 ∨ k = 6 ∨ k = 7 ∨ k = 8 ∨ k = 9 ∨ k = 10 ∨ k = 11 ∨ k = 12 ∨ k = 13 ∨ k = 14 ∨ k = 15 ∨ k = 16 ∨ k = 17 ∨ k = 18 ∨ k = 19 ∨ k = 20 ∨ k = 21 ∨ k = 22 ∨ k = 23 ∨ k = 24 by omega) with rfl | rfl | rfl | rfl | rfl | rfl | rfl | rfl | rfl | rfl | rfl | rfl | rfl | rfl | rfl | rfl | rfl | rfl | rfl | rfl | rfl | rfl | rfl | rfl | rfl
        · exact lg_tabIn C0 (tgt := 148) (off := 116) dL_law_32 (by omega) (by omega) (by rw [hk]; rfl) (by decide) (lw_case_0 C0 hK hL0 (by omega) hI (by omega) K)
        · exact lg_tabIn C0 (tgt := 191) (off := 159) dL_law_32 (by omega) (by omega) (by rw [hk]; rfl) (by decide) (lw_case_1 C0 hK hL0 (by omega) hI (by omega) K)
        · exact lg_tabIn C0 (tgt := 214) (off := 182) dL_law_32 (by omega) (by omega) (by rw [hk]; rfl) (by decide) (lw_case_2 C0 hK hL0 (by omega) hI (by omega) K)
        · exact lg_tabIn C0 (tgt := 237) (off := 205) dL_law_32 (by omega) (by omega) (by rw [hk]; rfl) (by decide) (lw_case_3 C0 hK hL0 (by omega) hI (by omega) K)
        · exact lg_tabIn C0 (tgt := 250) (off := 218) dL_law_32 (by omega) (by omega) (by rw [hk]; rfl) (by decide) (lw_case_4 C0 hK hL0 (by omega) hI (by omega) K)
        · exact lg_tabIn C0 (tgt := 283) (off := 251) dL_law_32 (by omega) (by omega) (by rw [hk]; rfl) (by decide) (lw_case_5 C0 hK hL0 (by omega) hI (by omega) K)
        · exact lg_tabIn C0 (tgt := 306) (off := 274) dL_law_32 (by omega) (by omega) (by rw [hk]; rfl) (by decide) (lw_case_6 C0 hK hL0 (by omega) hI (by omega) K)
        · exact lg_tabIn C0 (tgt := 329) (off := 297) dL_law_32 (by omega) (by omega) (by rw [hk]; rfl) (by decide) (lw_case_7 C0 hK hL0 (by omega) hI (by omega) K)
        · exact lg_tabIn C0 (tgt := 352) (off := 320) dL_law_32 (by omega) (by omega) (by rw [hk]; rfl) (by decide) (lw_case_8 C0 hK hL0 (by omega) hI (by omega) K)
        · exact lg_tabIn C0 (tgt := 375) (off := 343) dL_law_32 (by omega) (by omega) (by rw [hk]; rfl) (by decide) (lw_case_9 C0 hK hL0 (by omega) hI (by omega) K)
        · exact lg_tabIn C0 (tgt := 398) (off := 366) dL_law_32 (by omega) (by omega) (by rw [hk]; rfl) (by decide) (lw_case_10 C0 hK hL0 (by omega) hI (by omega) K)
        · exact lg_tabIn C0 (tgt := 431) (off := 399) dL_law_32 (by omega) (by omega) (by rw [hk]; rfl) (by decide) (lw_case_11 C0 hK hL0 (by omega) hI (by omega) K)
        · exact lg_tabIn C0 (tgt := 454) (off := 422) dL_law_32 (by omega) (by omega) (by rw [hk]; rfl) (by decide) (lw_case_12 C0 hK hL0 (by omega) hI (by omega) K)
        · exact lg_tabIn C0 (tgt := 487) (off := 455) dL_law_32 (by omega) (by omega) (by rw [hk]; rfl) (by decide) (lw_case_13 C0 hK hL0 (by omega) hI (by omega) K)
        · exact lg_tabIn C0 (tgt := 520) (off := 488) dL_law_32 (by omega) (by omega) (by rw [hk]; rfl) (by decide) (lw_case_14 C0 hK hL0 (by omega) hI (by omega) K)
        · exact lg_tabIn C0 (tgt := 553) (off := 521) dL_law_32 (by omega) (by omega) (by rw [hk]; rfl) (by decide) (lw_case_15 C0 hK hL0 (by omega) hI (by omega) K)
        · exact lg_tabIn C0 (tgt := 586) (off := 554) dL_law_32 (by omega) (by omega) (by rw [hk]; rfl) (by decide) (lw_case_16 C0 hK hL0 (by omega) hI (by omega) K)
        · exact lg_tabIn C0 (tgt := 629) (off := 597) dL_law_32 (by omega) (by omega) (by rw [hk]; rfl) (by decide) (lw_case_17 C0 hK hL0 (by omega) hI (by omega) K)
        · exact lg_tabIn C0 (tgt := 662) (off := 630) dL_law_32 (by omega) (by omega) (by rw [hk]; rfl) (by decide) (lw_case_18 C0 hK hL0 (by omega) hI (by omega) K)
        · exact lg_tabIn C0 (tgt := 685) (off := 653) dL_law_32 (by omega) (by omega) (by rw [hk]; rfl) (by decide) (lw_case_19 C0 hK hL0 (by omega) hI (by omega) K)
        · exact lg_tabIn C0 (tgt := 718) (off := 686) dL_law_32 (by omega) (by omega) (by rw [hk]; rfl) (by decide) (lw_case_20 C0 hK hL0 (by omega) hI (by omega) K)
        · exact lg_tabIn C0 (tgt := 731) (off := 699) dL_law_32 (by omega) (by omega) (by rw [hk]; rfl) (by decide) (lw_case_21 C0 hK hL0 (by omega) hI (by omega) K)
        · exact lg_tabIn C0 (tgt := 764) (off := 732) dL_law_32 (by omega) (by omega) (by rw [hk]; rfl) (by decide) (lw_case_22 C0 hK hL0 (by omega) hI (by omega) K)
        · exact lg_tabIn C0 (tgt := 777) (off := 745) dL_law_32 (by omega) (by omega) (by rw [hk]; rfl) (by decide) (lw_case_23 C0 hK hL0 (by omega) hI (by omega) K)
        · exact lg_tabIn C0 (tgt := 790) (off := 758) dL_law_32 (by omega) (by omega) (by rw [hk]; rfl) (by decide) (lw_case_24 C0 hK hL0 (by omega) hI (by omega) K)
      · exact lg_tabOut C0 (tgt := 803) dL_law_32 (by omega) (by decide) (K T S hI.up)
