/-! THE LAW: its calls, both sides, from each case's first instruction to the next round of the loop -/
section LK
variable {p : Program} {l : Launch} {e : Env} {s : State} {m : MethodId} {b L : Nat} {xs : Nat → Int32} {below : List Frame} {meth : Method} {c : Code} {H : Heap} {Q : State → Prop}
variable {ls : Array Slot} {D : va_G} {ca : Nat → ClassId} {v : EV} {aX aY : Nat → Nat} {X Y : MM} {i : Nat}
theorem lg_cmp_self (x : Int64) : (lg_cmp x x).toInt = 0 := by
  unfold lg_cmp
  simp
set_option maxHeartbeats 4000000 in
set_option maxRecDepth 100000 in
theorem lk_set (C0 : lw_At p s m meth c b L xs) (hL : L ≤ 3584) (hC : lcC D ca v aX aY s) (hW : lcW D ca aX aY s X Y H) (hS : Sim X Y) (hRX : RR X) (hRY : RR Y) (hi : i + 7 ≤ L) (hl : lv_has ls 4 (lvL b aX aY i))
    (kk : ∀ (X' Y' : MM) (H' : Heap), lcW D ca aX aY s X' Y' H' → Sim X' Y' → RR X' → RR Y' → LWW p l e s m b below meth c H' Q 854 ls []) : LWW p l e s m b below meth c H Q 140 ls [] := by
  obtain ⟨res, X', Y', q1, q2, hS'⟩ := q_set hS hRY (zz xs i 1) (zz xs i 2)
  have hts := C0.2.2.2.2.2.1
  have hx := C0.1
  have hb := C0.2.1
  refine lv_aload_n hx hb dL_law_140 rfl (lv_at hl 2 rfl) ?_
  refine lw_arg C0 hL hW.2.2 (k := 1) (by omega) hl dL_law_141 dL_law_142 dL_law_143 dL_law_144 dL_law_145 ?_
  refine lw_arg C0 hL hW.2.2 (k := 2) (by omega) hl dL_law_146 dL_law_147 dL_law_148 dL_law_149 dL_law_150 ?_
  refine lc_Xi C0 hC hW (As := [.int (J (zz xs i 1)), .int (J (zz xs i 2))]) (rest := []) (kX4_set l D ca v aX hC.2.2.1 X hRX _ _ (zz_R _ _ _) (zz_R _ _ _) res X' q1) (cwV 2 hts gL_law_X4_set rfl rfl rfl (by decide +kernel) ⟨Nat.le_of_ble_eq_true rfl, Nat.le_of_ble_eq_true rfl⟩) rfl hl (Nat.le_of_ble_eq_true rfl) dL_law_151 rfl (fun H hW hφ => ?_)
  obtain ⟨r1, hRX'⟩ := hφ
  refine lv_aload_n hx hb dL_law_154 rfl (lv_at hl 1 rfl) ?_
  refine lw_arg C0 hL hW.2.2 (k := 1) (by omega) hl dL_law_155 dL_law_156 dL_law_157 dL_law_158 dL_law_159 ?_
  refine lw_arg C0 hL hW.2.2 (k := 2) (by omega) hl dL_law_160 dL_law_161 dL_law_162 dL_law_163 dL_law_164 ?_
  refine lc_Yi C0 hC hW (As := [.int (J (zz xs i 1)), .int (J (zz xs i 2))]) (rest := [.int (J res)]) (kX5_set l D ca aY hC.2.2.2.1 Y hRY _ _ (zz_R _ _ _) (zz_R _ _ _) res Y' q2) (cwV 2 hts gL_law_X5_set rfl rfl rfl (by decide +kernel) ⟨Nat.le_of_ble_eq_true rfl, Nat.le_of_ble_eq_true rfl⟩) rfl hl (Nat.le_of_ble_eq_true rfl) dL_law_165 rfl (fun H hW hφ => ?_)
  obtain ⟨r2, hRY'⟩ := hφ
  refine lv_icmp_eq (tgt := 854) hx hb dL_law_168 (by decide) (fun _ => ?_) (fun h => absurd rfl h)
  exact kk X' Y' _ hW hS' hRX' hRY'
set_option maxHeartbeats 4000000 in
set_option maxRecDepth 100000 in
theorem lk_visit (C0 : lw_At p s m meth c b L xs) (hL : L ≤ 3584) (hC : lcC D ca v aX aY s) (hW : lcW D ca aX aY s X Y H) (hS : Sim X Y) (hRX : RR X) (hRY : RR Y) (hi : i + 7 ≤ L) (hl : lv_has ls 4 (lvL b aX aY i))
    (kk : ∀ (X' Y' : MM) (H' : Heap), lcW D ca aX aY s X' Y' H' → Sim X' Y' → RR X' → RR Y' → LWW p l e s m b below meth c H' Q 854 ls []) : LWW p l e s m b below meth c H Q 173 ls [] := by
  obtain ⟨res, X', Y', q1, q2, hS'⟩ := q_visit hS hRY (zz xs i 1) (zz xs i 2) (zz xs i 3) (zz xs i 4) (zz xs i 5) (zz xs i 6)
  have hts := C0.2.2.2.2.2.1
  have hx := C0.1
  have hb := C0.2.1
  refine lv_aload_n hx hb dL_law_173 rfl (lv_at hl 2 rfl) ?_
  refine lw_arg C0 hL hW.2.2 (k := 1) (by omega) hl dL_law_174 dL_law_175 dL_law_176 dL_law_177 dL_law_178 ?_
  refine lw_arg C0 hL hW.2.2 (k := 2) (by omega) hl dL_law_179 dL_law_180 dL_law_181 dL_law_182 dL_law_183 ?_
  refine lw_arg C0 hL hW.2.2 (k := 3) (by omega) hl dL_law_184 dL_law_185 dL_law_186 dL_law_187 dL_law_188 ?_
  refine lw_arg C0 hL hW.2.2 (k := 4) (by omega) hl dL_law_189 dL_law_190 dL_law_191 dL_law_192 dL_law_193 ?_
  refine lw_arg C0 hL hW.2.2 (k := 5) (by omega) hl dL_law_194 dL_law_195 dL_law_196 dL_law_197 dL_law_198 ?_
  refine lw_arg6 C0 hL hW.2.2 (k := 6) (by omega) hl dL_law_199 dL_law_200 dL_law_201 (by decide +kernel) dL_law_203 dL_law_204 ?_
  refine lc_Xi C0 hC hW (As := [.int (J (zz xs i 1)), .int (J (zz xs i 2)), .int (J (zz xs i 3)), .int (J (zz xs i 4)), .int (J (zz xs i 5)), .int (J (zz xs i 6))]) (rest := []) (kX4_visit l D ca v aX hC.2.2.1 X hRX _ _ _ _ _ _ (zz_R _ _ _) (zz_R _ _ _) (zz_R _ _ _) (zz_R _ _ _) (zz_R _ _ _) (zz_R _ _ _) res X' q1) (cwV 6 hts gL_law_X4_visit rfl rfl rfl (by decide +kernel) ⟨Nat.le_of_ble_eq_true rfl, Nat.le_of_ble_eq_true rfl⟩) rfl hl (Nat.le_of_ble_eq_true rfl) dL_law_205 rfl (fun H hW hφ => ?_)
  obtain ⟨r1, hRX'⟩ := hφ
  refine lv_aload_n hx hb dL_law_208 rfl (lv_at hl 1 rfl) ?_
  refine lw_arg C0 hL hW.2.2 (k := 1) (by omega) hl dL_law_209 dL_law_210 dL_law_211 dL_law_212 dL_law_213 ?_
  refine lw_arg C0 hL hW.2.2 (k := 2) (by omega) hl dL_law_214 dL_law_215 dL_law_216 dL_law_217 dL_law_218 ?_
  refine lw_arg C0 hL hW.2.2 (k := 3) (by omega) hl dL_law_219 dL_law_220 dL_law_221 dL_law_222 dL_law_223 ?_
  refine lw_arg C0 hL hW.2.2 (k := 4) (by omega) hl dL_law_224 dL_law_225 dL_law_226 dL_law_227 dL_law_228 ?_
  refine lw_arg C0 hL hW.2.2 (k := 5) (by omega) hl dL_law_229 dL_law_230 dL_law_231 dL_law_232 dL_law_233 ?_
  refine lw_arg6 C0 hL hW.2.2 (k := 6) (by omega) hl dL_law_234 dL_law_235 dL_law_236 (by decide +kernel) dL_law_238 dL_law_239 ?_
  refine lc_Yi C0 hC hW (As := [.int (J (zz xs i 1)), .int (J (zz xs i 2)), .int (J (zz xs i 3)), .int (J (zz xs i 4)), .int (J (zz xs i 5)), .int (J (zz xs i 6))]) (rest := [.int (J res)]) (kX5_visit l D ca aY hC.2.2.2.1 Y hRY _ _ _ _ _ _ (zz_R _ _ _) (zz_R _ _ _) (zz_R _ _ _) (zz_R _ _ _) (zz_R _ _ _) (zz_R _ _ _) res Y' q2) (cwV 6 hts gL_law_X5_visit rfl rfl rfl (by decide +kernel) ⟨Nat.le_of_ble_eq_true rfl, Nat.le_of_ble_eq_true rfl⟩) rfl hl (Nat.le_of_ble_eq_true rfl) dL_law_240 rfl (fun H hW hφ => ?_)
  obtain ⟨r2, hRY'⟩ := hφ
  refine lv_icmp_eq (tgt := 854) hx hb dL_law_243 (by decide) (fun _ => ?_) (fun h => absurd rfl h)
  exact kk X' Y' _ hW hS' hRX' hRY'
set_option maxHeartbeats 4000000 in
set_option maxRecDepth 100000 in
theorem lk_drop (C0 : lw_At p s m meth c b L xs) (hL : L ≤ 3584) (hC : lcC D ca v aX aY s) (hW : lcW D ca aX aY s X Y H) (hS : Sim X Y) (hRX : RR X) (hRY : RR Y) (hi : i + 7 ≤ L) (hl : lv_has ls 4 (lvL b aX aY i))
    (kk : ∀ (X' Y' : MM) (H' : Heap), lcW D ca aX aY s X' Y' H' → Sim X' Y' → RR X' → RR Y' → LWW p l e s m b below meth c H' Q 854 ls []) : LWW p l e s m b below meth c H Q 248 ls [] := by
  obtain ⟨res, X', Y', q1, q2, hS'⟩ := q_drop hS hRY (zz xs i 1)
  have hts := C0.2.2.2.2.2.1
  have hx := C0.1
  have hb := C0.2.1
  refine lv_aload_n hx hb dL_law_248 rfl (lv_at hl 2 rfl) ?_
  refine lw_arg C0 hL hW.2.2 (k := 1) (by omega) hl dL_law_249 dL_law_250 dL_law_251 dL_law_252 dL_law_253 ?_
  refine lc_Xi C0 hC hW (As := [.int (J (zz xs i 1))]) (rest := []) (kX4_drop l D ca v aX hC.2.2.1 X hRX _ (zz_R _ _ _) res X' q1) (cwV 1 hts gL_law_X4_drop rfl rfl rfl (by decide +kernel) ⟨Nat.le_of_ble_eq_true rfl, Nat.le_of_ble_eq_true rfl⟩) rfl hl (Nat.le_of_ble_eq_true rfl) dL_law_254 rfl (fun H hW hφ => ?_)
  obtain ⟨r1, hRX'⟩ := hφ
  refine lv_aload_n hx hb dL_law_257 rfl (lv_at hl 1 rfl) ?_
  refine lw_arg C0 hL hW.2.2 (k := 1) (by omega) hl dL_law_258 dL_law_259 dL_law_260 dL_law_261 dL_law_262 ?_
  refine lc_Yi C0 hC hW (As := [.int (J (zz xs i 1))]) (rest := [.int (J res)]) (kX5_drop l D ca aY hC.2.2.2.1 Y hRY _ (zz_R _ _ _) res Y' q2) (cwV 1 hts gL_law_X5_drop rfl rfl rfl (by decide +kernel) ⟨Nat.le_of_ble_eq_true rfl, Nat.le_of_ble_eq_true rfl⟩) rfl hl (Nat.le_of_ble_eq_true rfl) dL_law_263 rfl (fun H hW hφ => ?_)
  obtain ⟨r2, hRY'⟩ := hφ
  refine lv_icmp_eq (tgt := 854) hx hb dL_law_266 (by decide) (fun _ => ?_) (fun h => absurd rfl h)
  exact kk X' Y' _ hW hS' hRX' hRY'
set_option maxHeartbeats 4000000 in
set_option maxRecDepth 100000 in
theorem lk_van (C0 : lw_At p s m meth c b L xs) (hL : L ≤ 3584) (hC : lcC D ca v aX aY s) (hW : lcW D ca aX aY s X Y H) (hS : Sim X Y) (hRX : RR X) (hRY : RR Y) (hi : i + 7 ≤ L) (hl : lv_has ls 4 (lvL b aX aY i))
    (kk : ∀ (X' Y' : MM) (H' : Heap), lcW D ca aX aY s X' Y' H' → Sim X' Y' → RR X' → RR Y' → LWW p l e s m b below meth c H' Q 854 ls []) : LWW p l e s m b below meth c H Q 271 ls [] := by
  obtain ⟨res, X', Y', q1, q2, hS'⟩ := q_van hS hRY (zz xs i 1) (zz xs i 2)
  have hts := C0.2.2.2.2.2.1
  have hx := C0.1
  have hb := C0.2.1
  refine lv_aload_n hx hb dL_law_271 rfl (lv_at hl 2 rfl) ?_
  refine lw_arg C0 hL hW.2.2 (k := 1) (by omega) hl dL_law_272 dL_law_273 dL_law_274 dL_law_275 dL_law_276 ?_
  refine lw_arg C0 hL hW.2.2 (k := 2) (by omega) hl dL_law_277 dL_law_278 dL_law_279 dL_law_280 dL_law_281 ?_
  refine lc_Xi C0 hC hW (As := [.int (J (zz xs i 1)), .int (J (zz xs i 2))]) (rest := []) (kX4_van l D ca v aX hC.2.2.1 X hRX _ _ (zz_R _ _ _) (zz_R _ _ _) res X' q1) (cwV 2 hts gL_law_X4_van rfl rfl rfl (by decide +kernel) ⟨Nat.le_of_ble_eq_true rfl, Nat.le_of_ble_eq_true rfl⟩) rfl hl (Nat.le_of_ble_eq_true rfl) dL_law_282 rfl (fun H hW hφ => ?_)
  obtain ⟨r1, hRX'⟩ := hφ
  refine lv_aload_n hx hb dL_law_285 rfl (lv_at hl 1 rfl) ?_
  refine lw_arg C0 hL hW.2.2 (k := 1) (by omega) hl dL_law_286 dL_law_287 dL_law_288 dL_law_289 dL_law_290 ?_
  refine lw_arg C0 hL hW.2.2 (k := 2) (by omega) hl dL_law_291 dL_law_292 dL_law_293 dL_law_294 dL_law_295 ?_
  refine lc_Yi C0 hC hW (As := [.int (J (zz xs i 1)), .int (J (zz xs i 2))]) (rest := [.int (J res)]) (kX5_van l D ca aY hC.2.2.2.1 Y hRY _ _ (zz_R _ _ _) (zz_R _ _ _) res Y' q2) (cwV 2 hts gL_law_X5_van rfl rfl rfl (by decide +kernel) ⟨Nat.le_of_ble_eq_true rfl, Nat.le_of_ble_eq_true rfl⟩) rfl hl (Nat.le_of_ble_eq_true rfl) dL_law_296 rfl (fun H hW hφ => ?_)
  obtain ⟨r2, hRY'⟩ := hφ
  refine lv_icmp_eq (tgt := 854) hx hb dL_law_299 (by decide) (fun _ => ?_) (fun h => absurd rfl h)
  exact kk X' Y' _ hW hS' hRX' hRY'
set_option maxHeartbeats 4000000 in
set_option maxRecDepth 100000 in
theorem lk_load (C0 : lw_At p s m meth c b L xs) (hL : L ≤ 3584) (hC : lcC D ca v aX aY s) (hW : lcW D ca aX aY s X Y H) (hS : Sim X Y) (hRX : RR X) (hRY : RR Y) (hi : i + 7 ≤ L) (hl : lv_has ls 4 (lvL b aX aY i))
    (kk : ∀ (X' Y' : MM) (H' : Heap), lcW D ca aX aY s X' Y' H' → Sim X' Y' → RR X' → RR Y' → LWW p l e s m b below meth c H' Q 854 ls []) : LWW p l e s m b below meth c H Q 304 ls [] := by
  obtain ⟨res, X', Y', q1, q2, hS'⟩ := q_load hS hRY (zz xs i 1) (zz xs i 2) (zz xs i 3)
  have hts := C0.2.2.2.2.2.1
  have hx := C0.1
  have hb := C0.2.1
  refine lv_aload_n hx hb dL_law_304 rfl (lv_at hl 2 rfl) ?_
  refine lw_arg C0 hL hW.2.2 (k := 1) (by omega) hl dL_law_305 dL_law_306 dL_law_307 dL_law_308 dL_law_309 ?_
  refine lw_arg C0 hL hW.2.2 (k := 2) (by omega) hl dL_law_310 dL_law_311 dL_law_312 dL_law_313 dL_law_314 ?_
  refine lw_arg C0 hL hW.2.2 (k := 3) (by omega) hl dL_law_315 dL_law_316 dL_law_317 dL_law_318 dL_law_319 ?_
  refine lc_Xi C0 hC hW (As := [.int (J (zz xs i 1)), .int (J (zz xs i 2)), .int (J (zz xs i 3))]) (rest := []) (kX4_load l D ca v aX hC.2.2.1 X hRX _ _ _ (zz_R _ _ _) (zz_R _ _ _) (zz_R _ _ _) res X' q1) (cwV 3 hts gL_law_X4_load rfl rfl rfl (by decide +kernel) ⟨Nat.le_of_ble_eq_true rfl, Nat.le_of_ble_eq_true rfl⟩) rfl hl (Nat.le_of_ble_eq_true rfl) dL_law_320 rfl (fun H hW hφ => ?_)
  obtain ⟨r1, hRX'⟩ := hφ
  refine lv_aload_n hx hb dL_law_323 rfl (lv_at hl 1 rfl) ?_
  refine lw_arg C0 hL hW.2.2 (k := 1) (by omega) hl dL_law_324 dL_law_325 dL_law_326 dL_law_327 dL_law_328 ?_
  refine lw_arg C0 hL hW.2.2 (k := 2) (by omega) hl dL_law_329 dL_law_330 dL_law_331 dL_law_332 dL_law_333 ?_
  refine lw_arg C0 hL hW.2.2 (k := 3) (by omega) hl dL_law_334 dL_law_335 dL_law_336 dL_law_337 dL_law_338 ?_
  refine lc_Yi C0 hC hW (As := [.int (J (zz xs i 1)), .int (J (zz xs i 2)), .int (J (zz xs i 3))]) (rest := [.int (J res)]) (kX5_load l D ca aY hC.2.2.2.1 Y hRY _ _ _ (zz_R _ _ _) (zz_R _ _ _) (zz_R _ _ _) res Y' q2) (cwV 3 hts gL_law_X5_load rfl rfl rfl (by decide +kernel) ⟨Nat.le_of_ble_eq_true rfl, Nat.le_of_ble_eq_true rfl⟩) rfl hl (Nat.le_of_ble_eq_true rfl) dL_law_339 rfl (fun H hW hφ => ?_)
  obtain ⟨r2, hRY'⟩ := hφ
  refine lv_icmp_eq (tgt := 854) hx hb dL_law_342 (by decide) (fun _ => ?_) (fun h => absurd rfl h)
  exact kk X' Y' _ hW hS' hRX' hRY'
set_option maxHeartbeats 4000000 in
set_option maxRecDepth 100000 in
theorem lk_ofVisit (C0 : lw_At p s m meth c b L xs) (hL : L ≤ 3584) (hC : lcC D ca v aX aY s) (hW : lcW D ca aX aY s X Y H) (hS : Sim X Y) (hRX : RR X) (hRY : RR Y) (hi : i + 7 ≤ L) (hl : lv_has ls 4 (lvL b aX aY i))
    (kk : ∀ (X' Y' : MM) (H' : Heap), lcW D ca aX aY s X' Y' H' → Sim X' Y' → RR X' → RR Y' → LWW p l e s m b below meth c H' Q 854 ls []) : LWW p l e s m b below meth c H Q 347 ls [] := by
  obtain ⟨res, Y', q1, q2, hS'⟩ := s_ofVisit hS (zz xs i 1) (zz xs i 2)
  have hts := C0.2.2.2.2.2.1
  have hx := C0.1
  have hb := C0.2.1
  refine lv_aload_n hx hb dL_law_347 rfl (lv_at hl 2 rfl) ?_
  refine lw_arg C0 hL hW.2.2 (k := 1) (by omega) hl dL_law_348 dL_law_349 dL_law_350 dL_law_351 dL_law_352 ?_
  refine lw_arg C0 hL hW.2.2 (k := 2) (by omega) hl dL_law_353 dL_law_354 dL_law_355 dL_law_356 dL_law_357 ?_
  refine lc_Xi C0 hC hW (As := [.int (J (zz xs i 1)), .int (J (zz xs i 2))]) (rest := []) (kX4_ofVisit l D ca v aX hC.2.2.1 X hRX _ _ (zz_R _ _ _) (zz_R _ _ _) res q1) (cwV 2 hts gL_law_X4_ofVisit rfl rfl rfl (by decide +kernel) ⟨Nat.le_of_ble_eq_true rfl, Nat.le_of_ble_eq_true rfl⟩) rfl hl (Nat.le_of_ble_eq_true rfl) dL_law_358 rfl (fun H hW hφ => ?_)
  refine lv_aload_n hx hb dL_law_361 rfl (lv_at hl 1 rfl) ?_
  refine lw_arg C0 hL hW.2.2 (k := 1) (by omega) hl dL_law_362 dL_law_363 dL_law_364 dL_law_365 dL_law_366 ?_
  refine lw_arg C0 hL hW.2.2 (k := 2) (by omega) hl dL_law_367 dL_law_368 dL_law_369 dL_law_370 dL_law_371 ?_
  refine lc_Yi C0 hC hW (As := [.int (J (zz xs i 1)), .int (J (zz xs i 2))]) (rest := [.int (J res)]) (kX5_ofVisit l D ca aY hC.2.2.2.1 Y hRY _ _ (zz_R _ _ _) (zz_R _ _ _) res Y' q2) (cwV 2 hts gL_law_X5_ofVisit rfl rfl rfl (by decide +kernel) ⟨Nat.le_of_ble_eq_true rfl, Nat.le_of_ble_eq_true rfl⟩) rfl hl (Nat.le_of_ble_eq_true rfl) dL_law_372 rfl (fun H hW hφ => ?_)
  obtain ⟨r2, hRY'⟩ := hφ
  refine lv_icmp_eq (tgt := 854) hx hb dL_law_375 (by decide) (fun _ => ?_) (fun h => absurd rfl h)
  exact kk X Y' _ hW hS' hRX hRY'
set_option maxHeartbeats 4000000 in
set_option maxRecDepth 100000 in
theorem lk_ofVan (C0 : lw_At p s m meth c b L xs) (hL : L ≤ 3584) (hC : lcC D ca v aX aY s) (hW : lcW D ca aX aY s X Y H) (hS : Sim X Y) (hRX : RR X) (hRY : RR Y) (hi : i + 7 ≤ L) (hl : lv_has ls 4 (lvL b aX aY i))
    (kk : ∀ (X' Y' : MM) (H' : Heap), lcW D ca aX aY s X' Y' H' → Sim X' Y' → RR X' → RR Y' → LWW p l e s m b below meth c H' Q 854 ls []) : LWW p l e s m b below meth c H Q 380 ls [] := by
  obtain ⟨res, Y', q1, q2, hS'⟩ := s_ofVan hS (zz xs i 1) (zz xs i 2)
  have hts := C0.2.2.2.2.2.1
  have hx := C0.1
  have hb := C0.2.1
  refine lv_aload_n hx hb dL_law_380 rfl (lv_at hl 2 rfl) ?_
  refine lw_arg C0 hL hW.2.2 (k := 1) (by omega) hl dL_law_381 dL_law_382 dL_law_383 dL_law_384 dL_law_385 ?_
  refine lw_arg C0 hL hW.2.2 (k := 2) (by omega) hl dL_law_386 dL_law_387 dL_law_388 dL_law_389 dL_law_390 ?_
  refine lc_Xi C0 hC hW (As := [.int (J (zz xs i 1)), .int (J (zz xs i 2))]) (rest := []) (kX4_ofVan l D ca v aX hC.2.2.1 X hRX _ _ (zz_R _ _ _) (zz_R _ _ _) res q1) (cwV 2 hts gL_law_X4_ofVan rfl rfl rfl (by decide +kernel) ⟨Nat.le_of_ble_eq_true rfl, Nat.le_of_ble_eq_true rfl⟩) rfl hl (Nat.le_of_ble_eq_true rfl) dL_law_391 rfl (fun H hW hφ => ?_)
  refine lv_aload_n hx hb dL_law_394 rfl (lv_at hl 1 rfl) ?_
  refine lw_arg C0 hL hW.2.2 (k := 1) (by omega) hl dL_law_395 dL_law_396 dL_law_397 dL_law_398 dL_law_399 ?_
  refine lw_arg C0 hL hW.2.2 (k := 2) (by omega) hl dL_law_400 dL_law_401 dL_law_402 dL_law_403 dL_law_404 ?_
  refine lc_Yi C0 hC hW (As := [.int (J (zz xs i 1)), .int (J (zz xs i 2))]) (rest := [.int (J res)]) (kX5_ofVan l D ca aY hC.2.2.2.1 Y hRY _ _ (zz_R _ _ _) (zz_R _ _ _) res Y' q2) (cwV 2 hts gL_law_X5_ofVan rfl rfl rfl (by decide +kernel) ⟨Nat.le_of_ble_eq_true rfl, Nat.le_of_ble_eq_true rfl⟩) rfl hl (Nat.le_of_ble_eq_true rfl) dL_law_405 rfl (fun H hW hφ => ?_)
  obtain ⟨r2, hRY'⟩ := hφ
  refine lv_icmp_eq (tgt := 854) hx hb dL_law_408 (by decide) (fun _ => ?_) (fun h => absurd rfl h)
  exact kk X Y' _ hW hS' hRX hRY'
set_option maxHeartbeats 4000000 in
set_option maxRecDepth 100000 in
theorem lk_stock (C0 : lw_At p s m meth c b L xs) (hL : L ≤ 3584) (hC : lcC D ca v aX aY s) (hW : lcW D ca aX aY s X Y H) (hS : Sim X Y) (hRX : RR X) (hRY : RR Y) (hi : i + 7 ≤ L) (hl : lv_has ls 4 (lvL b aX aY i))
    (kk : ∀ (X' Y' : MM) (H' : Heap), lcW D ca aX aY s X' Y' H' → Sim X' Y' → RR X' → RR Y' → LWW p l e s m b below meth c H' Q 854 ls []) : LWW p l e s m b below meth c H Q 413 ls [] := by
  obtain ⟨res, Y', q1, q2, hS'⟩ := s_stock hS (zz xs i 1) (zz xs i 2) (zz xs i 3)
  have hts := C0.2.2.2.2.2.1
  have hx := C0.1
  have hb := C0.2.1
  refine lv_aload_n hx hb dL_law_413 rfl (lv_at hl 2 rfl) ?_
  refine lw_arg C0 hL hW.2.2 (k := 1) (by omega) hl dL_law_414 dL_law_415 dL_law_416 dL_law_417 dL_law_418 ?_
  refine lw_arg C0 hL hW.2.2 (k := 2) (by omega) hl dL_law_419 dL_law_420 dL_law_421 dL_law_422 dL_law_423 ?_
  refine lw_arg C0 hL hW.2.2 (k := 3) (by omega) hl dL_law_424 dL_law_425 dL_law_426 dL_law_427 dL_law_428 ?_
  refine lc_Xi C0 hC hW (As := [.int (J (zz xs i 1)), .int (J (zz xs i 2)), .int (J (zz xs i 3))]) (rest := []) (kX4_stock l D ca v aX hC.2.2.1 X hRX _ _ _ (zz_R _ _ _) (zz_R _ _ _) (zz_R _ _ _) res q1) (cwV 3 hts gL_law_X4_stock rfl rfl rfl (by decide +kernel) ⟨Nat.le_of_ble_eq_true rfl, Nat.le_of_ble_eq_true rfl⟩) rfl hl (Nat.le_of_ble_eq_true rfl) dL_law_429 rfl (fun H hW hφ => ?_)
  refine lv_aload_n hx hb dL_law_432 rfl (lv_at hl 1 rfl) ?_
  refine lw_arg C0 hL hW.2.2 (k := 1) (by omega) hl dL_law_433 dL_law_434 dL_law_435 dL_law_436 dL_law_437 ?_
  refine lw_arg C0 hL hW.2.2 (k := 2) (by omega) hl dL_law_438 dL_law_439 dL_law_440 dL_law_441 dL_law_442 ?_
  refine lw_arg C0 hL hW.2.2 (k := 3) (by omega) hl dL_law_443 dL_law_444 dL_law_445 dL_law_446 dL_law_447 ?_
  refine lc_Yi C0 hC hW (As := [.int (J (zz xs i 1)), .int (J (zz xs i 2)), .int (J (zz xs i 3))]) (rest := [.int (J res)]) (kX5_stock l D ca aY hC.2.2.2.1 Y hRY _ _ _ (zz_R _ _ _) (zz_R _ _ _) (zz_R _ _ _) res Y' q2) (cwV 3 hts gL_law_X5_stock rfl rfl rfl (by decide +kernel) ⟨Nat.le_of_ble_eq_true rfl, Nat.le_of_ble_eq_true rfl⟩) rfl hl (Nat.le_of_ble_eq_true rfl) dL_law_448 rfl (fun H hW hφ => ?_)
  obtain ⟨r2, hRY'⟩ := hφ
  refine lv_icmp_eq (tgt := 854) hx hb dL_law_451 (by decide) (fun _ => ?_) (fun h => absurd rfl h)
  exact kk X Y' _ hW hS' hRX hRY'
set_option maxHeartbeats 4000000 in
set_option maxRecDepth 100000 in
theorem lk_event (C0 : lw_At p s m meth c b L xs) (hL : L ≤ 3584) (hC : lcC D ca v aX aY s) (hW : lcW D ca aX aY s X Y H) (hS : Sim X Y) (hRX : RR X) (hRY : RR Y) (hi : i + 7 ≤ L) (hl : lv_has ls 4 (lvL b aX aY i))
    (kk : ∀ (X' Y' : MM) (H' : Heap), lcW D ca aX aY s X' Y' H' → Sim X' Y' → RR X' → RR Y' → LWW p l e s m b below meth c H' Q 854 ls []) : LWW p l e s m b below meth c H Q 456 ls [] := by
  obtain ⟨res, Y', q1, q2, hS'⟩ := s_event hS (zz xs i 1) (zz xs i 2) (zz xs i 3)
  have hts := C0.2.2.2.2.2.1
  have hx := C0.1
  have hb := C0.2.1
  refine lv_aload_n hx hb dL_law_456 rfl (lv_at hl 2 rfl) ?_
  refine lw_arg C0 hL hW.2.2 (k := 1) (by omega) hl dL_law_457 dL_law_458 dL_law_459 dL_law_460 dL_law_461 ?_
  refine lw_arg C0 hL hW.2.2 (k := 2) (by omega) hl dL_law_462 dL_law_463 dL_law_464 dL_law_465 dL_law_466 ?_
  refine lw_arg C0 hL hW.2.2 (k := 3) (by omega) hl dL_law_467 dL_law_468 dL_law_469 dL_law_470 dL_law_471 ?_
  refine lc_Xi C0 hC hW (As := [.int (J (zz xs i 1)), .int (J (zz xs i 2)), .int (J (zz xs i 3))]) (rest := []) (kX4_event l D ca v aX hC.2.2.1 X hRX _ _ _ (zz_R _ _ _) (zz_R _ _ _) (zz_R _ _ _) res q1) (cwV 3 hts gL_law_X4_event rfl rfl rfl (by decide +kernel) ⟨Nat.le_of_ble_eq_true rfl, Nat.le_of_ble_eq_true rfl⟩) rfl hl (Nat.le_of_ble_eq_true rfl) dL_law_472 rfl (fun H hW hφ => ?_)
  refine lv_aload_n hx hb dL_law_475 rfl (lv_at hl 1 rfl) ?_
  refine lw_arg C0 hL hW.2.2 (k := 1) (by omega) hl dL_law_476 dL_law_477 dL_law_478 dL_law_479 dL_law_480 ?_
  refine lw_arg C0 hL hW.2.2 (k := 2) (by omega) hl dL_law_481 dL_law_482 dL_law_483 dL_law_484 dL_law_485 ?_
  refine lw_arg C0 hL hW.2.2 (k := 3) (by omega) hl dL_law_486 dL_law_487 dL_law_488 dL_law_489 dL_law_490 ?_
  refine lc_Yi C0 hC hW (As := [.int (J (zz xs i 1)), .int (J (zz xs i 2)), .int (J (zz xs i 3))]) (rest := [.int (J res)]) (kX5_event l D ca aY hC.2.2.2.1 Y hRY _ _ _ (zz_R _ _ _) (zz_R _ _ _) (zz_R _ _ _) res Y' q2) (cwV 3 hts gL_law_X5_event rfl rfl rfl (by decide +kernel) ⟨Nat.le_of_ble_eq_true rfl, Nat.le_of_ble_eq_true rfl⟩) rfl hl (Nat.le_of_ble_eq_true rfl) dL_law_491 rfl (fun H hW hφ => ?_)
  obtain ⟨r2, hRY'⟩ := hφ
  refine lv_icmp_eq (tgt := 854) hx hb dL_law_494 (by decide) (fun _ => ?_) (fun h => absurd rfl h)
  exact kk X Y' _ hW hS' hRX hRY'
set_option maxHeartbeats 4000000 in
set_option maxRecDepth 100000 in
theorem lk_count (C0 : lw_At p s m meth c b L xs) (hL : L ≤ 3584) (hC : lcC D ca v aX aY s) (hW : lcW D ca aX aY s X Y H) (hS : Sim X Y) (hRX : RR X) (hRY : RR Y) (hi : i + 7 ≤ L) (hl : lv_has ls 4 (lvL b aX aY i))
    (kk : ∀ (X' Y' : MM) (H' : Heap), lcW D ca aX aY s X' Y' H' → Sim X' Y' → RR X' → RR Y' → LWW p l e s m b below meth c H' Q 854 ls []) : LWW p l e s m b below meth c H Q 499 ls [] := by
  obtain ⟨res, Y', q1, q2, hS'⟩ := s_count hS (zz xs i 1)
  have hts := C0.2.2.2.2.2.1
  have hx := C0.1
  have hb := C0.2.1
  refine lv_aload_n hx hb dL_law_499 rfl (lv_at hl 2 rfl) ?_
  refine lw_arg C0 hL hW.2.2 (k := 1) (by omega) hl dL_law_500 dL_law_501 dL_law_502 dL_law_503 dL_law_504 ?_
  refine lc_Xi C0 hC hW (As := [.int (J (zz xs i 1))]) (rest := []) (kX4_count l D ca v aX hC.2.2.1 X hRX _ (zz_R _ _ _) res q1) (cwV 1 hts gL_law_X4_count rfl rfl rfl (by decide +kernel) ⟨Nat.le_of_ble_eq_true rfl, Nat.le_of_ble_eq_true rfl⟩) rfl hl (Nat.le_of_ble_eq_true rfl) dL_law_505 rfl (fun H hW hφ => ?_)
  refine lv_aload_n hx hb dL_law_508 rfl (lv_at hl 1 rfl) ?_
  refine lw_arg C0 hL hW.2.2 (k := 1) (by omega) hl dL_law_509 dL_law_510 dL_law_511 dL_law_512 dL_law_513 ?_
  refine lc_Yi C0 hC hW (As := [.int (J (zz xs i 1))]) (rest := [.int (J res)]) (kX5_count l D ca aY hC.2.2.2.1 Y hRY _ (zz_R _ _ _) res Y' q2) (cwV 1 hts gL_law_X5_count rfl rfl rfl (by decide +kernel) ⟨Nat.le_of_ble_eq_true rfl, Nat.le_of_ble_eq_true rfl⟩) rfl hl (Nat.le_of_ble_eq_true rfl) dL_law_514 rfl (fun H hW hφ => ?_)
  obtain ⟨r2, hRY'⟩ := hφ
  refine lv_icmp_eq (tgt := 854) hx hb dL_law_517 (by decide) (fun _ => ?_) (fun h => absurd rfl h)
  exact kk X Y' _ hW hS' hRX hRY'
set_option maxHeartbeats 4000000 in
set_option maxRecDepth 100000 in
theorem lk_wanted (C0 : lw_At p s m meth c b L xs) (hL : L ≤ 3584) (hC : lcC D ca v aX aY s) (hW : lcW D ca aX aY s X Y H) (hS : Sim X Y) (hRX : RR X) (hRY : RR Y) (hi : i + 7 ≤ L) (hl : lv_has ls 4 (lvL b aX aY i))
    (kk : ∀ (X' Y' : MM) (H' : Heap), lcW D ca aX aY s X' Y' H' → Sim X' Y' → RR X' → RR Y' → LWW p l e s m b below meth c H' Q 854 ls []) : LWW p l e s m b below meth c H Q 522 ls [] := by
  obtain ⟨res, Y', q1, q2, hS'⟩ := s_wanted hS (zz xs i 1)
  have hts := C0.2.2.2.2.2.1
  have hx := C0.1
  have hb := C0.2.1
  refine lv_aload_n hx hb dL_law_522 rfl (lv_at hl 2 rfl) ?_
  refine lw_arg C0 hL hW.2.2 (k := 1) (by omega) hl dL_law_523 dL_law_524 dL_law_525 dL_law_526 dL_law_527 ?_
  refine lc_Xi C0 hC hW (As := [.int (J (zz xs i 1))]) (rest := []) (kX4_wanted l D ca v aX hC.2.2.1 X hRX _ (zz_R _ _ _) res q1) (cwV 1 hts gL_law_X4_wanted rfl rfl rfl (by decide +kernel) ⟨Nat.le_of_ble_eq_true rfl, Nat.le_of_ble_eq_true rfl⟩) rfl hl (Nat.le_of_ble_eq_true rfl) dL_law_528 rfl (fun H hW hφ => ?_)
  refine lv_aload_n hx hb dL_law_531 rfl (lv_at hl 1 rfl) ?_
  refine lw_arg C0 hL hW.2.2 (k := 1) (by omega) hl dL_law_532 dL_law_533 dL_law_534 dL_law_535 dL_law_536 ?_
  refine lc_Yi C0 hC hW (As := [.int (J (zz xs i 1))]) (rest := [.int (J res)]) (kX5_wanted l D ca aY hC.2.2.2.1 Y hRY _ (zz_R _ _ _) res Y' q2) (cwV 1 hts gL_law_X5_wanted rfl rfl rfl (by decide +kernel) ⟨Nat.le_of_ble_eq_true rfl, Nat.le_of_ble_eq_true rfl⟩) rfl hl (Nat.le_of_ble_eq_true rfl) dL_law_537 rfl (fun H hW hφ => ?_)
  obtain ⟨r2, hRY'⟩ := hφ
  refine lv_icmp_eq (tgt := 854) hx hb dL_law_540 (by decide) (fun _ => ?_) (fun h => absurd rfl h)
  exact kk X Y' _ hW hS' hRX hRY'
set_option maxHeartbeats 4000000 in
set_option maxRecDepth 100000 in
theorem lk_share (C0 : lw_At p s m meth c b L xs) (hL : L ≤ 3584) (hC : lcC D ca v aX aY s) (hW : lcW D ca aX aY s X Y H) (hS : Sim X Y) (hRX : RR X) (hRY : RR Y) (hi : i + 7 ≤ L) (hl : lv_has ls 4 (lvL b aX aY i))
    (kk : ∀ (X' Y' : MM) (H' : Heap), lcW D ca aX aY s X' Y' H' → Sim X' Y' → RR X' → RR Y' → LWW p l e s m b below meth c H' Q 854 ls []) : LWW p l e s m b below meth c H Q 545 ls [] := by
  obtain ⟨res, Y', q1, q2, hS'⟩ := s_share hS
  have hts := C0.2.2.2.2.2.1
  have hx := C0.1
  have hb := C0.2.1
  refine lv_aload_n hx hb dL_law_545 rfl (lv_at hl 2 rfl) ?_
  refine lc_Xi C0 hC hW (As := []) (rest := []) (kX4_share l D ca v aX hC.2.2.1 X hRX   res q1) (cwV 0 hts gL_law_X4_share rfl rfl rfl (by decide +kernel) ⟨Nat.le_of_ble_eq_true rfl, Nat.le_of_ble_eq_true rfl⟩) rfl hl (Nat.le_of_ble_eq_true rfl) dL_law_546 rfl (fun H hW hφ => ?_)
  refine lv_aload_n hx hb dL_law_549 rfl (lv_at hl 1 rfl) ?_
  refine lc_Yi C0 hC hW (As := []) (rest := [.int (J res)]) (kX5_share l D ca aY hC.2.2.2.1 Y hRY   res Y' q2) (cwV 0 hts gL_law_X5_share rfl rfl rfl (by decide +kernel) ⟨Nat.le_of_ble_eq_true rfl, Nat.le_of_ble_eq_true rfl⟩) rfl hl (Nat.le_of_ble_eq_true rfl) dL_law_550 rfl (fun H hW hφ => ?_)
  obtain ⟨r2, hRY'⟩ := hφ
  refine lv_icmp_eq (tgt := 854) hx hb dL_law_553 (by decide) (fun _ => ?_) (fun h => absurd rfl h)
  exact kk X Y' _ hW hS' hRX hRY'
set_option maxHeartbeats 4000000 in
set_option maxRecDepth 100000 in
theorem lk_meanWay (C0 : lw_At p s m meth c b L xs) (hL : L ≤ 3584) (hC : lcC D ca v aX aY s) (hW : lcW D ca aX aY s X Y H) (hS : Sim X Y) (hRX : RR X) (hRY : RR Y) (hi : i + 7 ≤ L) (hl : lv_has ls 4 (lvL b aX aY i))
    (kk : ∀ (X' Y' : MM) (H' : Heap), lcW D ca aX aY s X' Y' H' → Sim X' Y' → RR X' → RR Y' → LWW p l e s m b below meth c H' Q 854 ls []) : LWW p l e s m b below meth c H Q 558 ls [] := by
  obtain ⟨res, Y', q1, q2, hS'⟩ := s_meanWay hS (zz xs i 1)
  have hts := C0.2.2.2.2.2.1
  have hx := C0.1
  have hb := C0.2.1
  refine lv_aload_n hx hb dL_law_558 rfl (lv_at hl 2 rfl) ?_
  refine lw_arg C0 hL hW.2.2 (k := 1) (by omega) hl dL_law_559 dL_law_560 dL_law_561 dL_law_562 dL_law_563 ?_
  refine lc_Xl C0 hC hW (As := [.int (J (zz xs i 1))]) (rest := []) (kX4_meanWay l D ca v aX hC.2.2.1 X hRX _ (zz_R _ _ _) res q1) (cwV 1 hts gL_law_X4_meanWay rfl rfl rfl (by decide +kernel) ⟨Nat.le_of_ble_eq_true rfl, Nat.le_of_ble_eq_true rfl⟩) rfl hl (Nat.le_of_ble_eq_true rfl) dL_law_564 rfl (fun H hW hφ => ?_)
  refine lv_aload_n hx hb dL_law_567 rfl (lv_at hl 1 rfl) ?_
  refine lw_arg C0 hL hW.2.2 (k := 1) (by omega) hl dL_law_568 dL_law_569 dL_law_570 dL_law_571 dL_law_572 ?_
  refine lc_Yl C0 hC hW (As := [.int (J (zz xs i 1))]) (rest := [.long res]) (kX5_meanWay l D ca aY hC.2.2.2.1 Y hRY _ (zz_R _ _ _) res Y' q2) (cwV 1 hts gL_law_X5_meanWay rfl rfl rfl (by decide +kernel) ⟨Nat.le_of_ble_eq_true rfl, Nat.le_of_ble_eq_true rfl⟩) rfl hl (Nat.le_of_ble_eq_true rfl) dL_law_573 rfl (fun H hW hφ => ?_)
  have hRY' := hφ
  refine jv_lcmp hx hb dL_law_576 ?_
  refine jv_if_eq (tgt := 854) hx hb dL_law_577 (by decide) (J_inR _) (fun _ => ?_) (fun h => absurd (lg_cmp_self _) h)
  exact kk X Y' _ hW hS' hRX hRY'
set_option maxHeartbeats 4000000 in
set_option maxRecDepth 100000 in
theorem lk_would (C0 : lw_At p s m meth c b L xs) (hL : L ≤ 3584) (hC : lcC D ca v aX aY s) (hW : lcW D ca aX aY s X Y H) (hS : Sim X Y) (hRX : RR X) (hRY : RR Y) (hi : i + 7 ≤ L) (hl : lv_has ls 4 (lvL b aX aY i))
    (kk : ∀ (X' Y' : MM) (H' : Heap), lcW D ca aX aY s X' Y' H' → Sim X' Y' → RR X' → RR Y' → LWW p l e s m b below meth c H' Q 854 ls []) : LWW p l e s m b below meth c H Q 582 ls [] := by
  obtain ⟨res, X', Y', q1, q2, hS'⟩ := q_would hS (zz xs i 1) (zz xs i 2) (zz xs i 3) (zz xs i 4) (zz xs i 5) (zz xs i 6)
  have hts := C0.2.2.2.2.2.1
  have hx := C0.1
  have hb := C0.2.1
  refine lv_aload_n hx hb dL_law_582 rfl (lv_at hl 2 rfl) ?_
  refine lw_arg C0 hL hW.2.2 (k := 1) (by omega) hl dL_law_583 dL_law_584 dL_law_585 dL_law_586 dL_law_587 ?_
  refine lw_arg C0 hL hW.2.2 (k := 2) (by omega) hl dL_law_588 dL_law_589 dL_law_590 dL_law_591 dL_law_592 ?_
  refine lw_arg C0 hL hW.2.2 (k := 3) (by omega) hl dL_law_593 dL_law_594 dL_law_595 dL_law_596 dL_law_597 ?_
  refine lw_arg C0 hL hW.2.2 (k := 4) (by omega) hl dL_law_598 dL_law_599 dL_law_600 dL_law_601 dL_law_602 ?_
  refine lw_arg C0 hL hW.2.2 (k := 5) (by omega) hl dL_law_603 dL_law_604 dL_law_605 dL_law_606 dL_law_607 ?_
  refine lw_arg6 C0 hL hW.2.2 (k := 6) (by omega) hl dL_law_608 dL_law_609 dL_law_610 (by decide +kernel) dL_law_612 dL_law_613 ?_
  refine lc_Xi C0 hC hW (As := [.int (J (zz xs i 1)), .int (J (zz xs i 2)), .int (J (zz xs i 3)), .int (J (zz xs i 4)), .int (J (zz xs i 5)), .int (J (zz xs i 6))]) (rest := []) (kX4_would l D ca v aX hC.2.2.1 X hRX _ _ _ _ _ _ (zz_R _ _ _) (zz_R _ _ _) (zz_R _ _ _) (zz_R _ _ _) (zz_R _ _ _) (zz_R _ _ _) res X' q1) (cwV 6 hts gL_law_X4_would rfl rfl rfl (by decide +kernel) ⟨Nat.le_of_ble_eq_true rfl, Nat.le_of_ble_eq_true rfl⟩) rfl hl (Nat.le_of_ble_eq_true rfl) dL_law_614 rfl (fun H hW hφ => ?_)
  obtain ⟨r1, hRX'⟩ := hφ
  refine lv_aload_n hx hb dL_law_617 rfl (lv_at hl 1 rfl) ?_
  refine lw_arg C0 hL hW.2.2 (k := 1) (by omega) hl dL_law_618 dL_law_619 dL_law_620 dL_law_621 dL_law_622 ?_
  refine lw_arg C0 hL hW.2.2 (k := 2) (by omega) hl dL_law_623 dL_law_624 dL_law_625 dL_law_626 dL_law_627 ?_
  refine lw_arg C0 hL hW.2.2 (k := 3) (by omega) hl dL_law_628 dL_law_629 dL_law_630 dL_law_631 dL_law_632 ?_
  refine lw_arg C0 hL hW.2.2 (k := 4) (by omega) hl dL_law_633 dL_law_634 dL_law_635 dL_law_636 dL_law_637 ?_
  refine lw_arg C0 hL hW.2.2 (k := 5) (by omega) hl dL_law_638 dL_law_639 dL_law_640 dL_law_641 dL_law_642 ?_
  refine lw_arg6 C0 hL hW.2.2 (k := 6) (by omega) hl dL_law_643 dL_law_644 dL_law_645 (by decide +kernel) dL_law_647 dL_law_648 ?_
  refine lc_Yi C0 hC hW (As := [.int (J (zz xs i 1)), .int (J (zz xs i 2)), .int (J (zz xs i 3)), .int (J (zz xs i 4)), .int (J (zz xs i 5)), .int (J (zz xs i 6))]) (rest := [.int (J res)]) (kX5_would l D ca aY hC.2.2.2.1 Y hRY _ _ _ _ _ _ (zz_R _ _ _) (zz_R _ _ _) (zz_R _ _ _) (zz_R _ _ _) (zz_R _ _ _) (zz_R _ _ _) res Y' q2) (cwV 6 hts gL_law_X5_would rfl rfl rfl (by decide +kernel) ⟨Nat.le_of_ble_eq_true rfl, Nat.le_of_ble_eq_true rfl⟩) rfl hl (Nat.le_of_ble_eq_true rfl) dL_law_649 rfl (fun H hW hφ => ?_)
  obtain ⟨r2, hRY'⟩ := hφ
  refine lv_icmp_eq (tgt := 854) hx hb dL_law_652 (by decide) (fun _ => ?_) (fun h => absurd rfl h)
  exact kk X' Y' _ hW hS' hRX' hRY'
set_option maxHeartbeats 4000000 in
set_option maxRecDepth 100000 in
theorem lk_withVan (C0 : lw_At p s m meth c b L xs) (hL : L ≤ 3584) (hC : lcC D ca v aX aY s) (hW : lcW D ca aX aY s X Y H) (hS : Sim X Y) (hRX : RR X) (hRY : RR Y) (hi : i + 7 ≤ L) (hl : lv_has ls 4 (lvL b aX aY i))
    (kk : ∀ (X' Y' : MM) (H' : Heap), lcW D ca aX aY s X' Y' H' → Sim X' Y' → RR X' → RR Y' → LWW p l e s m b below meth c H' Q 854 ls []) : LWW p l e s m b below meth c H Q 657 ls [] := by
  obtain ⟨res, X', Y', q1, q2, hS'⟩ := q_withVan hS (zz xs i 1) (zz xs i 2)
  have hts := C0.2.2.2.2.2.1
  have hx := C0.1
  have hb := C0.2.1
  refine lv_aload_n hx hb dL_law_657 rfl (lv_at hl 2 rfl) ?_
  refine lw_arg C0 hL hW.2.2 (k := 1) (by omega) hl dL_law_658 dL_law_659 dL_law_660 dL_law_661 dL_law_662 ?_
  refine lw_arg C0 hL hW.2.2 (k := 2) (by omega) hl dL_law_663 dL_law_664 dL_law_665 dL_law_666 dL_law_667 ?_
  refine lc_Xi C0 hC hW (As := [.int (J (zz xs i 1)), .int (J (zz xs i 2))]) (rest := []) (kX4_withVan l D ca v aX hC.2.2.1 X hRX _ _ (zz_R _ _ _) (zz_R _ _ _) res X' q1) (cwV 2 hts gL_law_X4_withVan rfl rfl rfl (by decide +kernel) ⟨Nat.le_of_ble_eq_true rfl, Nat.le_of_ble_eq_true rfl⟩) rfl hl (Nat.le_of_ble_eq_true rfl) dL_law_668 rfl (fun H hW hφ => ?_)
  obtain ⟨r1, hRX'⟩ := hφ
  refine lv_aload_n hx hb dL_law_671 rfl (lv_at hl 1 rfl) ?_
  refine lw_arg C0 hL hW.2.2 (k := 1) (by omega) hl dL_law_672 dL_law_673 dL_law_674 dL_law_675 dL_law_676 ?_
  refine lw_arg C0 hL hW.2.2 (k := 2) (by omega) hl dL_law_677 dL_law_678 dL_law_679 dL_law_680 dL_law_681 ?_
  refine lc_Yi C0 hC hW (As := [.int (J (zz xs i 1)), .int (J (zz xs i 2))]) (rest := [.int (J res)]) (kX5_withVan l D ca aY hC.2.2.2.1 Y hRY _ _ (zz_R _ _ _) (zz_R _ _ _) res Y' q2) (cwV 2 hts gL_law_X5_withVan rfl rfl rfl (by decide +kernel) ⟨Nat.le_of_ble_eq_true rfl, Nat.le_of_ble_eq_true rfl⟩) rfl hl (Nat.le_of_ble_eq_true rfl) dL_law_682 rfl (fun H hW hφ => ?_)
  obtain ⟨r2, hRY'⟩ := hφ
  refine lv_icmp_eq (tgt := 854) hx hb dL_law_685 (by decide) (fun _ => ?_) (fun h => absurd rfl h)
  exact kk X' Y' _ hW hS' hRX' hRY'
set_option maxHeartbeats 4000000 in
set_option maxRecDepth 100000 in
theorem lk_slowest (C0 : lw_At p s m meth c b L xs) (hL : L ≤ 3584) (hC : lcC D ca v aX aY s) (hW : lcW D ca aX aY s X Y H) (hS : Sim X Y) (hRX : RR X) (hRY : RR Y) (hi : i + 7 ≤ L) (hl : lv_has ls 4 (lvL b aX aY i))
    (kk : ∀ (X' Y' : MM) (H' : Heap), lcW D ca aX aY s X' Y' H' → Sim X' Y' → RR X' → RR Y' → LWW p l e s m b below meth c H' Q 854 ls []) : LWW p l e s m b below meth c H Q 690 ls [] := by
  obtain ⟨res, X', Y', q1, q2, hS'⟩ := q_slowest hS
  have hts := C0.2.2.2.2.2.1
  have hx := C0.1
  have hb := C0.2.1
  refine lv_aload_n hx hb dL_law_690 rfl (lv_at hl 2 rfl) ?_
  refine lc_Xi C0 hC hW (As := []) (rest := []) (kX4_slowest l D ca v aX hC.2.2.1 X hRX   res X' q1) (cwV 0 hts gL_law_X4_slowest rfl rfl rfl (by decide +kernel) ⟨Nat.le_of_ble_eq_true rfl, Nat.le_of_ble_eq_true rfl⟩) rfl hl (Nat.le_of_ble_eq_true rfl) dL_law_691 rfl (fun H hW hφ => ?_)
  obtain ⟨r1, hRX'⟩ := hφ
  refine lv_aload_n hx hb dL_law_694 rfl (lv_at hl 1 rfl) ?_
  refine lc_Yi C0 hC hW (As := []) (rest := [.int (J res)]) (kX5_slowest l D ca aY hC.2.2.2.1 Y hRY   res Y' q2) (cwV 0 hts gL_law_X5_slowest rfl rfl rfl (by decide +kernel) ⟨Nat.le_of_ble_eq_true rfl, Nat.le_of_ble_eq_true rfl⟩) rfl hl (Nat.le_of_ble_eq_true rfl) dL_law_695 rfl (fun H hW hφ => ?_)
  obtain ⟨r2, hRY'⟩ := hφ
  refine lv_icmp_eq (tgt := 854) hx hb dL_law_698 (by decide) (fun _ => ?_) (fun h => absurd rfl h)
  exact kk X' Y' _ hW hS' hRX' hRY'
set_option maxHeartbeats 4000000 in
set_option maxRecDepth 100000 in
theorem lk_put (C0 : lw_At p s m meth c b L xs) (hL : L ≤ 3584) (hC : lcC D ca v aX aY s) (hW : lcW D ca aX aY s X Y H) (hS : Sim X Y) (hRX : RR X) (hRY : RR Y) (hi : i + 7 ≤ L) (hl : lv_has ls 4 (lvL b aX aY i))
    (kk : ∀ (X' Y' : MM) (H' : Heap), lcW D ca aX aY s X' Y' H' → Sim X' Y' → RR X' → RR Y' → LWW p l e s m b below meth c H' Q 854 ls []) : LWW p l e s m b below meth c H Q 703 ls [] := by
  obtain ⟨res, X', Y', q1, q2, hS'⟩ := q_put hS (lshl (i2l (zz xs i 1)) 32 ||| (i2l (zz xs i 2) &&& 4294967295))
  have hts := C0.2.2.2.2.2.1
  have hx := C0.1
  have hb := C0.2.1
  refine lv_aload_n hx hb dL_law_703 rfl (lv_at hl 2 rfl) ?_
  refine lw_arg C0 hL hW.2.2 (k := 1) (by omega) hl dL_law_704 dL_law_705 dL_law_706 dL_law_707 dL_law_708 ?_
  refine jv_i2l hx hb dL_law_709 ?_
  refine lv_bipush (v := J 32) hx hb dL_law_710 (by decide +kernel) ?_
  refine jv_lshl hx hb dL_law_712 ?_
  refine lw_arg C0 hL hW.2.2 (k := 2) (by omega) hl dL_law_713 dL_law_714 dL_law_715 dL_law_716 dL_law_717 ?_
  refine jv_i2l hx hb dL_law_718 ?_
  refine lv_ldc2 (v := 4294967295) hx hb C0.2.2.2.2.1 (hts (.constantLong R_law 83 4294967295) (by decide +kernel)) dL_law_719 ?_
  refine lv_land hx hb dL_law_722 ?_
  refine lv_lor hx hb dL_law_723 ?_
  refine lc_Xi C0 hC hW (As := [.long (lshl (i2l (zz xs i 1)) 32 ||| (i2l (zz xs i 2) &&& 4294967295))]) (rest := []) (kX4_put l D ca v aX hC.2.2.1 X hRX _  res X' q1) (cwV 1 hts gL_law_X4_put rfl rfl rfl (by decide +kernel) ⟨Nat.le_of_ble_eq_true rfl, Nat.le_of_ble_eq_true rfl⟩) rfl hl (Nat.le_of_ble_eq_true rfl) dL_law_724 rfl (fun H hW hφ => ?_)
  obtain ⟨r1, hRX'⟩ := hφ
  refine lv_aload_n hx hb dL_law_727 rfl (lv_at hl 1 rfl) ?_
  refine lw_arg C0 hL hW.2.2 (k := 1) (by omega) hl dL_law_728 dL_law_729 dL_law_730 dL_law_731 dL_law_732 ?_
  refine jv_i2l hx hb dL_law_733 ?_
  refine lv_bipush (v := J 32) hx hb dL_law_734 (by decide +kernel) ?_
  refine jv_lshl hx hb dL_law_736 ?_
  refine lw_arg C0 hL hW.2.2 (k := 2) (by omega) hl dL_law_737 dL_law_738 dL_law_739 dL_law_740 dL_law_741 ?_
  refine jv_i2l hx hb dL_law_742 ?_
  refine lv_ldc2 (v := 4294967295) hx hb C0.2.2.2.2.1 (hts (.constantLong R_law 83 4294967295) (by decide +kernel)) dL_law_743 ?_
  refine lv_land hx hb dL_law_746 ?_
  refine lv_lor hx hb dL_law_747 ?_
  refine lc_Yi C0 hC hW (As := [.long (lshl (i2l (zz xs i 1)) 32 ||| (i2l (zz xs i 2) &&& 4294967295))]) (rest := [.int (J res)]) (kX5_put l D ca aY hC.2.2.2.1 Y hRY _  res Y' q2) (cwV 1 hts gL_law_X5_put rfl rfl rfl (by decide +kernel) ⟨Nat.le_of_ble_eq_true rfl, Nat.le_of_ble_eq_true rfl⟩) rfl hl (Nat.le_of_ble_eq_true rfl) dL_law_748 rfl (fun H hW hφ => ?_)
  obtain ⟨r2, hRY'⟩ := hφ
  refine lv_icmp_eq (tgt := 854) hx hb dL_law_751 (by decide) (fun _ => ?_) (fun h => absurd rfl h)
  exact kk X' Y' _ hW hS' hRX' hRY'
set_option maxHeartbeats 4000000 in
set_option maxRecDepth 100000 in
theorem lk_wipe (C0 : lw_At p s m meth c b L xs) (hL : L ≤ 3584) (hC : lcC D ca v aX aY s) (hW : lcW D ca aX aY s X Y H) (hS : Sim X Y) (hRX : RR X) (hRY : RR Y) (hi : i + 7 ≤ L) (hl : lv_has ls 4 (lvL b aX aY i))
    (kk : ∀ (X' Y' : MM) (H' : Heap), lcW D ca aX aY s X' Y' H' → Sim X' Y' → RR X' → RR Y' → LWW p l e s m b below meth c H' Q 854 ls []) : LWW p l e s m b below meth c H Q 756 ls [] := by
  obtain ⟨res, X', Y', q1, q2, hS'⟩ := q_wipe hS
  have hts := C0.2.2.2.2.2.1
  have hx := C0.1
  have hb := C0.2.1
  refine lv_aload_n hx hb dL_law_756 rfl (lv_at hl 2 rfl) ?_
  refine lc_Xi C0 hC hW (As := []) (rest := []) (kX4_wipe l D ca v aX hC.2.2.1 X hRX   res X' q1) (cwV 0 hts gL_law_X4_wipe rfl rfl rfl (by decide +kernel) ⟨Nat.le_of_ble_eq_true rfl, Nat.le_of_ble_eq_true rfl⟩) rfl hl (Nat.le_of_ble_eq_true rfl) dL_law_757 rfl (fun H hW hφ => ?_)
  obtain ⟨r1, hRX'⟩ := hφ
  refine lv_aload_n hx hb dL_law_760 rfl (lv_at hl 1 rfl) ?_
  refine lc_Yi C0 hC hW (As := []) (rest := [.int (J res)]) (kX5_wipe l D ca aY hC.2.2.2.1 Y hRY   res Y' q2) (cwV 0 hts gL_law_X5_wipe rfl rfl rfl (by decide +kernel) ⟨Nat.le_of_ble_eq_true rfl, Nat.le_of_ble_eq_true rfl⟩) rfl hl (Nat.le_of_ble_eq_true rfl) dL_law_761 rfl (fun H hW hφ => ?_)
  obtain ⟨r2, hRY'⟩ := hφ
  refine lv_icmp_eq (tgt := 854) hx hb dL_law_764 (by decide) (fun _ => ?_) (fun h => absurd rfl h)
  exact kk X' Y' _ hW hS' hRX' hRY'
set_option maxHeartbeats 4000000 in
set_option maxRecDepth 100000 in
theorem lk_fault (C0 : lw_At p s m meth c b L xs) (hL : L ≤ 3584) (hC : lcC D ca v aX aY s) (hW : lcW D ca aX aY s X Y H) (hS : Sim X Y) (hRX : RR X) (hRY : RR Y) (hi : i + 7 ≤ L) (hl : lv_has ls 4 (lvL b aX aY i))
    (kk : ∀ (X' Y' : MM) (H' : Heap), lcW D ca aX aY s X' Y' H' → Sim X' Y' → RR X' → RR Y' → LWW p l e s m b below meth c H' Q 854 ls []) : LWW p l e s m b below meth c H Q 769 ls [] := by
  obtain ⟨res, X', Y', q1, q2, hS'⟩ := q_fault hS
  have hts := C0.2.2.2.2.2.1
  have hx := C0.1
  have hb := C0.2.1
  refine lv_aload_n hx hb dL_law_769 rfl (lv_at hl 2 rfl) ?_
  refine lc_Xi C0 hC hW (As := []) (rest := []) (kX4_fault l D ca v aX hC.2.2.1 X hRX   res X' q1) (cwV 0 hts gL_law_X4_fault rfl rfl rfl (by decide +kernel) ⟨Nat.le_of_ble_eq_true rfl, Nat.le_of_ble_eq_true rfl⟩) rfl hl (Nat.le_of_ble_eq_true rfl) dL_law_770 rfl (fun H hW hφ => ?_)
  obtain ⟨r1, hRX'⟩ := hφ
  refine lv_aload_n hx hb dL_law_773 rfl (lv_at hl 1 rfl) ?_
  refine lc_Yi C0 hC hW (As := []) (rest := [.int (J res)]) (kX5_fault l D ca aY hC.2.2.2.1 Y hRY   res Y' q2) (cwV 0 hts gL_law_X5_fault rfl rfl rfl (by decide +kernel) ⟨Nat.le_of_ble_eq_true rfl, Nat.le_of_ble_eq_true rfl⟩) rfl hl (Nat.le_of_ble_eq_true rfl) dL_law_774 rfl (fun H hW hφ => ?_)
  obtain ⟨r2, hRY'⟩ := hφ
  refine lv_icmp_eq (tgt := 854) hx hb dL_law_777 (by decide) (fun _ => ?_) (fun h => absurd rfl h)
  exact kk X' Y' _ hW hS' hRX' hRY'
set_option maxHeartbeats 4000000 in
set_option maxRecDepth 100000 in
theorem lk_carryOut (C0 : lw_At p s m meth c b L xs) (hL : L ≤ 3584) (hC : lcC D ca v aX aY s) (hW : lcW D ca aX aY s X Y H) (hS : Sim X Y) (hRX : RR X) (hRY : RR Y) (hi : i + 7 ≤ L) (hl : lv_has ls 4 (lvL b aX aY i))
    (kk : ∀ (X' Y' : MM) (H' : Heap), lcW D ca aX aY s X' Y' H' → Sim X' Y' → RR X' → RR Y' → LWW p l e s m b below meth c H' Q 854 ls []) : LWW p l e s m b below meth c H Q 782 ls [] := by
  obtain ⟨res, X', Y', q1, q2, hS'⟩ := q_carryOut hS hRY
  have hts := C0.2.2.2.2.2.1
  have hx := C0.1
  have hb := C0.2.1
  refine lv_aload_n hx hb dL_law_782 rfl (lv_at hl 2 rfl) ?_
  refine lc_Xi C0 hC hW (As := []) (rest := []) (kX4_carryOut l D ca v aX hC.2.2.1 X hRX   res X' q1) (cwV 0 hts gL_law_X4_carryOut rfl rfl rfl (by decide +kernel) ⟨Nat.le_of_ble_eq_true rfl, Nat.le_of_ble_eq_true rfl⟩) rfl hl (Nat.le_of_ble_eq_true rfl) dL_law_783 rfl (fun H hW hφ => ?_)
  obtain ⟨r1, hRX'⟩ := hφ
  refine lv_aload_n hx hb dL_law_786 rfl (lv_at hl 1 rfl) ?_
  refine lc_Yi C0 hC hW (As := []) (rest := [.int (J res)]) (kX5_carryOut l D ca aY hC.2.2.2.1 Y hRY   res Y' q2) (cwV 0 hts gL_law_X5_carryOut rfl rfl rfl (by decide +kernel) ⟨Nat.le_of_ble_eq_true rfl, Nat.le_of_ble_eq_true rfl⟩) rfl hl (Nat.le_of_ble_eq_true rfl) dL_law_787 rfl (fun H hW hφ => ?_)
  obtain ⟨r2, hRY'⟩ := hφ
  refine lv_icmp_eq (tgt := 854) hx hb dL_law_790 (by decide) (fun _ => ?_) (fun h => absurd rfl h)
  exact kk X' Y' _ hW hS' hRX' hRY'
set_option maxHeartbeats 4000000 in
set_option maxRecDepth 100000 in
theorem lk_undo (C0 : lw_At p s m meth c b L xs) (hL : L ≤ 3584) (hC : lcC D ca v aX aY s) (hW : lcW D ca aX aY s X Y H) (hS : Sim X Y) (hRX : RR X) (hRY : RR Y) (hi : i + 7 ≤ L) (hl : lv_has ls 4 (lvL b aX aY i))
    (kk : ∀ (X' Y' : MM) (H' : Heap), lcW D ca aX aY s X' Y' H' → Sim X' Y' → RR X' → RR Y' → LWW p l e s m b below meth c H' Q 854 ls []) : LWW p l e s m b below meth c H Q 795 ls [] := by
  obtain ⟨res, X', Y', q1, q2, hS'⟩ := q_undo hS hRY
  have hts := C0.2.2.2.2.2.1
  have hx := C0.1
  have hb := C0.2.1
  refine lv_aload_n hx hb dL_law_795 rfl (lv_at hl 2 rfl) ?_
  refine lc_Xi C0 hC hW (As := []) (rest := []) (kX4_undo l D ca v aX hC.2.2.1 X hRX   res X' q1) (cwV 0 hts gL_law_X4_undo rfl rfl rfl (by decide +kernel) ⟨Nat.le_of_ble_eq_true rfl, Nat.le_of_ble_eq_true rfl⟩) rfl hl (Nat.le_of_ble_eq_true rfl) dL_law_796 rfl (fun H hW hφ => ?_)
  obtain ⟨r1, hRX'⟩ := hφ
  refine lv_aload_n hx hb dL_law_799 rfl (lv_at hl 1 rfl) ?_
  refine lc_Yi C0 hC hW (As := []) (rest := [.int (J res)]) (kX5_undo l D ca aY hC.2.2.2.1 Y hRY   res Y' q2) (cwV 0 hts gL_law_X5_undo rfl rfl rfl (by decide +kernel) ⟨Nat.le_of_ble_eq_true rfl, Nat.le_of_ble_eq_true rfl⟩) rfl hl (Nat.le_of_ble_eq_true rfl) dL_law_800 rfl (fun H hW hφ => ?_)
  obtain ⟨r2, hRY'⟩ := hφ
  refine lv_icmp_eq (tgt := 854) hx hb dL_law_803 (by decide) (fun _ => ?_) (fun h => absurd rfl h)
  exact kk X' Y' _ hW hS' hRX' hRY'
set_option maxHeartbeats 4000000 in
set_option maxRecDepth 100000 in
theorem lk_save (C0 : lw_At p s m meth c b L xs) (hL : L ≤ 3584) (hC : lcC D ca v aX aY s) (hW : lcW D ca aX aY s X Y H) (hS : Sim X Y) (hRX : RR X) (hRY : RR Y) (hi : i + 7 ≤ L) (hl : lv_has ls 4 (lvL b aX aY i))
    (kk : ∀ (X' Y' : MM) (H' : Heap), lcW D ca aX aY s X' Y' H' → Sim X' Y' → RR X' → RR Y' → LWW p l e s m b below meth c H' Q 854 ls []) : LWW p l e s m b below meth c H Q 808 ls [] := by
  obtain ⟨res, X', Y', q1, q2, hS'⟩ := q_save hS hRY (zz xs i 1)
  have hts := C0.2.2.2.2.2.1
  have hx := C0.1
  have hb := C0.2.1
  refine lv_aload_n hx hb dL_law_808 rfl (lv_at hl 2 rfl) ?_
  refine lw_arg C0 hL hW.2.2 (k := 1) (by omega) hl dL_law_809 dL_law_810 dL_law_811 dL_law_812 dL_law_813 ?_
  refine lc_Xi C0 hC hW (As := [.int (J (zz xs i 1))]) (rest := []) (kX4_save l D ca v aX hC.2.2.1 X hRX _ (zz_R _ _ _) res X' q1) (cwV 1 hts gL_law_X4_save rfl rfl rfl (by decide +kernel) ⟨Nat.le_of_ble_eq_true rfl, Nat.le_of_ble_eq_true rfl⟩) rfl hl (Nat.le_of_ble_eq_true rfl) dL_law_814 rfl (fun H hW hφ => ?_)
  obtain ⟨r1, hRX'⟩ := hφ
  refine lv_aload_n hx hb dL_law_817 rfl (lv_at hl 1 rfl) ?_
  refine lw_arg C0 hL hW.2.2 (k := 1) (by omega) hl dL_law_818 dL_law_819 dL_law_820 dL_law_821 dL_law_822 ?_
  refine lc_Yi C0 hC hW (As := [.int (J (zz xs i 1))]) (rest := [.int (J res)]) (kX5_save l D ca aY hC.2.2.2.1 Y hRY _ (zz_R _ _ _) res Y' q2) (cwV 1 hts gL_law_X5_save rfl rfl rfl (by decide +kernel) ⟨Nat.le_of_ble_eq_true rfl, Nat.le_of_ble_eq_true rfl⟩) rfl hl (Nat.le_of_ble_eq_true rfl) dL_law_823 rfl (fun H hW hφ => ?_)
  obtain ⟨r2, hRY'⟩ := hφ
  refine lv_icmp_eq (tgt := 854) hx hb dL_law_826 (by decide) (fun _ => ?_) (fun h => absurd rfl h)
  exact kk X' Y' _ hW hS' hRX' hRY'
set_option maxHeartbeats 4000000 in
set_option maxRecDepth 100000 in
theorem lk_restore (C0 : lw_At p s m meth c b L xs) (hL : L ≤ 3584) (hC : lcC D ca v aX aY s) (hW : lcW D ca aX aY s X Y H) (hS : Sim X Y) (hRX : RR X) (hRY : RR Y) (hi : i + 7 ≤ L) (hl : lv_has ls 4 (lvL b aX aY i))
    (kk : ∀ (X' Y' : MM) (H' : Heap), lcW D ca aX aY s X' Y' H' → Sim X' Y' → RR X' → RR Y' → LWW p l e s m b below meth c H' Q 854 ls []) : LWW p l e s m b below meth c H Q 831 ls [] := by
  obtain ⟨res, X', Y', q1, q2, hS'⟩ := q_restore hS hRY (zz xs i 1)
  have hts := C0.2.2.2.2.2.1
  have hx := C0.1
  have hb := C0.2.1
  refine lv_aload_n hx hb dL_law_831 rfl (lv_at hl 2 rfl) ?_
  refine lw_arg C0 hL hW.2.2 (k := 1) (by omega) hl dL_law_832 dL_law_833 dL_law_834 dL_law_835 dL_law_836 ?_
  refine lc_Xi C0 hC hW (As := [.int (J (zz xs i 1))]) (rest := []) (kX4_restore l D ca v aX hC.2.2.1 X hRX _ (zz_R _ _ _) res X' q1) (cwV 1 hts gL_law_X4_restore rfl rfl rfl (by decide +kernel) ⟨Nat.le_of_ble_eq_true rfl, Nat.le_of_ble_eq_true rfl⟩) rfl hl (Nat.le_of_ble_eq_true rfl) dL_law_837 rfl (fun H hW hφ => ?_)
  obtain ⟨r1, hRX'⟩ := hφ
  refine lv_aload_n hx hb dL_law_840 rfl (lv_at hl 1 rfl) ?_
  refine lw_arg C0 hL hW.2.2 (k := 1) (by omega) hl dL_law_841 dL_law_842 dL_law_843 dL_law_844 dL_law_845 ?_
  refine lc_Yi C0 hC hW (As := [.int (J (zz xs i 1))]) (rest := [.int (J res)]) (kX5_restore l D ca aY hC.2.2.2.1 Y hRY _ (zz_R _ _ _) res Y' q2) (cwV 1 hts gL_law_X5_restore rfl rfl rfl (by decide +kernel) ⟨Nat.le_of_ble_eq_true rfl, Nat.le_of_ble_eq_true rfl⟩) rfl hl (Nat.le_of_ble_eq_true rfl) dL_law_846 rfl (fun H hW hφ => ?_)
  obtain ⟨r2, hRY'⟩ := hφ
  refine lv_icmp_eq (tgt := 854) hx hb dL_law_849 (by decide) (fun _ => ?_) (fun h => absurd rfl h)
  exact kk X' Y' _ hW hS' hRX' hRY'
end LK
