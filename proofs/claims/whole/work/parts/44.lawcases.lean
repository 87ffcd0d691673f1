/-! the law: each call of the class against the other object's -/
section LWC
variable {p : Program} {l : Launch} {e_ : Env} {s : State} {m : MethodId} {below : List Frame} {meth : Method} {c : Code} {sb L : Nat} {xs : Nat → Int32} {D : va_G} {dA : Nat → ClassId}
set_option maxHeartbeats 4000000 in
set_option maxRecDepth 100000 in
theorem lc_0 (hX : LX p s m meth c sb L xs D dA) {i : Nat} (hi : i + 5 ≤ L) {I : Mem} {R : RMem} {π sg : Nat → Nat} {a : AS} (hI : CI I R π sg a) (hM : MI I a) (hK : ∀ (a1 : AS) (I1 : Mem) (R1 : RMem) (π1 sg1 : Nat → Nat), CI I1 R1 π1 sg1 a1 → MI I1 a1 → LJ p l e_ s m below meth c sb D dA 906 i [] (298, ShF, I1, R1)) : LJ p l e_ s m below meth c sb D dA 144 i [] (298, ShF, I, R) := by
  refine lj_x hX dL_law_144 ?_
  refine lj_ld hX (kk := 1) dL_law_145 dL_law_146 dL_law_147 dL_law_148 dL_law_149 rfl (by omega) ?_
  refine lj_ld hX (kk := 2) dL_law_150 dL_law_151 dL_law_152 dL_law_153 dL_law_154 rfl (by omega) ?_
  refine lj_call hX lk_L_13 dL_law_155 (k_setNumber I R π sg a hI hM.1 _ (rgx _) _ (rgx _)) (by decide) sf_0 rfl rfl (by decide) ?_
  rintro r w1 ⟨z, I1, R1, rfl, rfl, rfl, ⟨π1, sg1, hI1⟩, hf1⟩
  have hM1 : MI I1 a := hM.cl hf1
  refine lj_m hX dL_law_158 ?_
  refine lj_ld hX (kk := 1) dL_law_159 dL_law_160 dL_law_161 dL_law_162 dL_law_163 rfl (by omega) ?_
  refine lj_ld hX (kk := 2) dL_law_164 dL_law_165 dL_law_166 dL_law_167 dL_law_168 rfl (by omega) ?_
  refine lj_call hX lk_L_17 dL_law_169 (m_setNumber I1 R1 hI1.1.1 a hM1 _ (rgx _) _ (rgx _)) (by decide) sf_290 rfl rfl (Nat.le_of_ble_eq_true rfl) ?_
  rintro r w2 ⟨z2, I2, rfl, rfl, rfl, hM2, hf2⟩
  refine lj_eq hX (tgt := 906) dL_law_172 (by decide) ?_
  exact hK _ _ _ _ _ (hI1.md hM2.1 hf2) hM2
set_option maxHeartbeats 4000000 in
set_option maxRecDepth 100000 in
theorem lc_1 (hX : LX p s m meth c sb L xs D dA) {i : Nat} (hi : i + 5 ≤ L) {I : Mem} {R : RMem} {π sg : Nat → Nat} {a : AS} (hI : CI I R π sg a) (hM : MI I a) (hK : ∀ (a1 : AS) (I1 : Mem) (R1 : RMem) (π1 sg1 : Nat → Nat), CI I1 R1 π1 sg1 a1 → MI I1 a1 → LJ p l e_ s m below meth c sb D dA 906 i [] (298, ShF, I1, R1)) : LJ p l e_ s m below meth c sb D dA 177 i [] (298, ShF, I, R) := by
  refine lj_x hX dL_law_177 ?_
  refine lj_ld hX (kk := 1) dL_law_178 dL_law_179 dL_law_180 dL_law_181 dL_law_182 rfl (by omega) ?_
  refine lj_ld hX (kk := 2) dL_law_183 dL_law_184 dL_law_185 dL_law_186 dL_law_187 rfl (by omega) ?_
  refine lj_ld hX (kk := 3) dL_law_188 dL_law_189 dL_law_190 dL_law_191 dL_law_192 rfl (by omega) ?_
  refine lj_call hX lk_L_18 dL_law_193 (k_setIndent I R π sg a hI hM.1 _ (rgx _) _ (rgx _) _ (rgx _)) (by decide) sf_0 rfl rfl (by decide) ?_
  rintro r w1 ⟨z, I1, R1, rfl, rfl, rfl, ⟨π1, sg1, hI1⟩, hf1⟩
  have hM1 : MI I1 a := hM.cl hf1
  refine lj_m hX dL_law_196 ?_
  refine lj_ld hX (kk := 1) dL_law_197 dL_law_198 dL_law_199 dL_law_200 dL_law_201 rfl (by omega) ?_
  refine lj_ld hX (kk := 2) dL_law_202 dL_law_203 dL_law_204 dL_law_205 dL_law_206 rfl (by omega) ?_
  refine lj_ld hX (kk := 3) dL_law_207 dL_law_208 dL_law_209 dL_law_210 dL_law_211 rfl (by omega) ?_
  refine lj_call hX lk_L_22 dL_law_212 (m_setIndent I1 R1 hI1.1.1 a hM1 _ (rgx _) _ (rgx _) _ (rgx _)) (by decide) sf_290 rfl rfl (Nat.le_of_ble_eq_true rfl) ?_
  rintro r w2 ⟨z2, I2, rfl, rfl, rfl, hM2, hf2⟩
  refine lj_eq hX (tgt := 906) dL_law_215 (by decide) ?_
  exact hK _ _ _ _ _ (hI1.md hM2.1 hf2) hM2
set_option maxHeartbeats 4000000 in
set_option maxRecDepth 100000 in
theorem lc_2 (hX : LX p s m meth c sb L xs D dA) {i : Nat} (hi : i + 5 ≤ L) {I : Mem} {R : RMem} {π sg : Nat → Nat} {a : AS} (hI : CI I R π sg a) (hM : MI I a) (hK : ∀ (a1 : AS) (I1 : Mem) (R1 : RMem) (π1 sg1 : Nat → Nat), CI I1 R1 π1 sg1 a1 → MI I1 a1 → LJ p l e_ s m below meth c sb D dA 906 i [] (298, ShF, I1, R1)) : LJ p l e_ s m below meth c sb D dA 220 i [] (298, ShF, I, R) := by
  refine lj_x hX dL_law_220 ?_
  refine lj_ld hX (kk := 1) dL_law_221 dL_law_222 dL_law_223 dL_law_224 dL_law_225 rfl (by omega) ?_
  refine lj_ld hX (kk := 2) dL_law_226 dL_law_227 dL_law_228 dL_law_229 dL_law_230 rfl (by omega) ?_
  refine lj_ld hX (kk := 3) dL_law_231 dL_law_232 dL_law_233 dL_law_234 dL_law_235 rfl (by omega) ?_
  refine lj_ld hX (kk := 4) dL_law_236 dL_law_237 dL_law_238 dL_law_239 dL_law_240 rfl (by omega) ?_
  refine lj_call hX lk_L_23 dL_law_241 (k_setStop I R π sg a hI hM.1 _ (rgx _) _ (rgx _) _ (rgx _) _ (rgx _)) (by decide) sf_0 rfl rfl (by decide) ?_
  rintro r w1 ⟨z, I1, R1, rfl, rfl, rfl, ⟨π1, sg1, hI1⟩, hf1⟩
  have hM1 : MI I1 a := hM.cl hf1
  refine lj_m hX dL_law_244 ?_
  refine lj_ld hX (kk := 1) dL_law_245 dL_law_246 dL_law_247 dL_law_248 dL_law_249 rfl (by omega) ?_
  refine lj_ld hX (kk := 2) dL_law_250 dL_law_251 dL_law_252 dL_law_253 dL_law_254 rfl (by omega) ?_
  refine lj_ld hX (kk := 3) dL_law_255 dL_law_256 dL_law_257 dL_law_258 dL_law_259 rfl (by omega) ?_
  refine lj_ld hX (kk := 4) dL_law_260 dL_law_261 dL_law_262 dL_law_263 dL_law_264 rfl (by omega) ?_
  refine lj_call hX lk_L_27 dL_law_265 (m_setStop I1 R1 hI1.1.1 a hM1 _ (rgx _) _ (rgx _) _ (rgx _) _ (rgx _)) (by decide) sf_290 rfl rfl (Nat.le_of_ble_eq_true rfl) ?_
  rintro r w2 ⟨z2, I2, rfl, rfl, rfl, hM2, hf2⟩
  refine lj_eq hX (tgt := 906) dL_law_268 (by decide) ?_
  exact hK _ _ _ _ _ (hI1.md hM2.1 hf2) hM2
set_option maxHeartbeats 4000000 in
set_option maxRecDepth 100000 in
theorem lc_3 (hX : LX p s m meth c sb L xs D dA) {i : Nat} (hi : i + 5 ≤ L) {I : Mem} {R : RMem} {π sg : Nat → Nat} {a : AS} (hI : CI I R π sg a) (hM : MI I a) (hK : ∀ (a1 : AS) (I1 : Mem) (R1 : RMem) (π1 sg1 : Nat → Nat), CI I1 R1 π1 sg1 a1 → MI I1 a1 → LJ p l e_ s m below meth c sb D dA 906 i [] (298, ShF, I1, R1)) : LJ p l e_ s m below meth c sb D dA 273 i [] (298, ShF, I, R) := by
  refine lj_x hX dL_law_273 ?_
  refine lj_ld hX (kk := 1) dL_law_274 dL_law_275 dL_law_276 dL_law_277 dL_law_278 rfl (by omega) ?_
  refine lj_ld hX (kk := 2) dL_law_279 dL_law_280 dL_law_281 dL_law_282 dL_law_283 rfl (by omega) ?_
  refine lj_call hX lk_L_28 dL_law_284 (k_removeStop I R π sg a hI hM.1 _ (rgx _) _ (rgx _)) (by decide) sf_0 rfl rfl (by decide) ?_
  rintro r w1 ⟨z, I1, R1, rfl, rfl, rfl, ⟨π1, sg1, hI1⟩, hf1⟩
  have hM1 : MI I1 a := hM.cl hf1
  refine lj_m hX dL_law_287 ?_
  refine lj_ld hX (kk := 1) dL_law_288 dL_law_289 dL_law_290 dL_law_291 dL_law_292 rfl (by omega) ?_
  refine lj_ld hX (kk := 2) dL_law_293 dL_law_294 dL_law_295 dL_law_296 dL_law_297 rfl (by omega) ?_
  refine lj_call hX lk_L_31 dL_law_298 (m_removeStop I1 R1 hI1.1.1 a hM1 _ (rgx _) _ (rgx _)) (by decide) sf_290 rfl rfl (Nat.le_of_ble_eq_true rfl) ?_
  rintro r w2 ⟨z2, I2, rfl, rfl, rfl, hM2, hf2⟩
  refine lj_eq hX (tgt := 906) dL_law_301 (by decide) ?_
  exact hK _ _ _ _ _ (hI1.md hM2.1 hf2) hM2
set_option maxHeartbeats 4000000 in
set_option maxRecDepth 100000 in
theorem lc_4 (hX : LX p s m meth c sb L xs D dA) {i : Nat} (hi : i + 5 ≤ L) {I : Mem} {R : RMem} {π sg : Nat → Nat} {a : AS} (hI : CI I R π sg a) (hM : MI I a) (hK : ∀ (a1 : AS) (I1 : Mem) (R1 : RMem) (π1 sg1 : Nat → Nat), CI I1 R1 π1 sg1 a1 → MI I1 a1 → LJ p l e_ s m below meth c sb D dA 906 i [] (298, ShF, I1, R1)) : LJ p l e_ s m below meth c sb D dA 306 i [] (298, ShF, I, R) := by
  refine lj_x hX dL_law_306 ?_
  refine lj_ld hX (kk := 1) dL_law_307 dL_law_308 dL_law_309 dL_law_310 dL_law_311 rfl (by omega) ?_
  refine lj_call hX lk_L_32 dL_law_312 (k_appendCharacter I R π sg a hI hM.1 _ (rgx _)) (by decide) sf_0 rfl rfl (by decide) ?_
  rintro r w1 ⟨z, I1, R1, rfl, rfl, rfl, ⟨π1, sg1, hI1⟩, hf1⟩
  have hM1 : MI I1 a := hM.cl hf1
  refine lj_m hX dL_law_315 ?_
  refine lj_ld hX (kk := 1) dL_law_316 dL_law_317 dL_law_318 dL_law_319 dL_law_320 rfl (by omega) ?_
  refine lj_call hX lk_L_36 dL_law_321 (m_appendCharacter I1 R1 hI1.1.1 a hM1 _ (rgx _)) (by decide) sf_290 rfl rfl (Nat.le_of_ble_eq_true rfl) ?_
  rintro r w2 ⟨z2, I2, rfl, rfl, rfl, hM2, hf2⟩
  refine lj_eq hX (tgt := 906) dL_law_324 (by decide) ?_
  exact hK _ _ _ _ _ (hI1.md hM2.1 hf2) hM2
set_option maxHeartbeats 4000000 in
set_option maxRecDepth 100000 in
theorem lc_5 (hX : LX p s m meth c sb L xs D dA) {i : Nat} (hi : i + 5 ≤ L) {I : Mem} {R : RMem} {π sg : Nat → Nat} {a : AS} (hI : CI I R π sg a) (hM : MI I a) (hK : ∀ (a1 : AS) (I1 : Mem) (R1 : RMem) (π1 sg1 : Nat → Nat), CI I1 R1 π1 sg1 a1 → MI I1 a1 → LJ p l e_ s m below meth c sb D dA 906 i [] (298, ShF, I1, R1)) : LJ p l e_ s m below meth c sb D dA 329 i [] (298, ShF, I, R) := by
  refine lj_x hX dL_law_329 ?_
  refine lj_call hX lk_L_37 dL_law_330 (k_clearText I R π sg a hI hM.1 ) (by decide) sf_0 rfl rfl (by decide) ?_
  rintro r w1 ⟨z, I1, R1, rfl, rfl, rfl, ⟨π1, sg1, hI1⟩, hf1⟩
  have hM1 : MI I1 a := hM.cl hf1
  refine lj_m hX dL_law_333 ?_
  refine lj_call hX lk_L_41 dL_law_334 (m_clearText I1 R1 hI1.1.1 a hM1 ) (by decide) sf_290 rfl rfl (Nat.le_of_ble_eq_true rfl) ?_
  rintro r w2 ⟨z2, I2, rfl, rfl, rfl, hM2, hf2⟩
  refine lj_eq hX (tgt := 906) dL_law_337 (by decide) ?_
  exact hK _ _ _ _ _ (hI1.md hM2.1 hf2) hM2
set_option maxHeartbeats 4000000 in
set_option maxRecDepth 100000 in
theorem lc_6 (hX : LX p s m meth c sb L xs D dA) {i : Nat} (hi : i + 5 ≤ L) {I : Mem} {R : RMem} {π sg : Nat → Nat} {a : AS} (hI : CI I R π sg a) (hM : MI I a) (hK : ∀ (a1 : AS) (I1 : Mem) (R1 : RMem) (π1 sg1 : Nat → Nat), CI I1 R1 π1 sg1 a1 → MI I1 a1 → LJ p l e_ s m below meth c sb D dA 906 i [] (298, ShF, I1, R1)) : LJ p l e_ s m below meth c sb D dA 342 i [] (298, ShF, I, R) := by
  refine lj_x hX dL_law_342 ?_
  refine lj_ld hX (kk := 1) dL_law_343 dL_law_344 dL_law_345 dL_law_346 dL_law_347 rfl (by omega) ?_
  refine lj_call hX lk_L_42 dL_law_348 (k_loadStops I R π sg a hI hM.1 _ (rgx _)) (by decide) sf_0 rfl rfl (by decide) ?_
  rintro r w1 ⟨z, I1, R1, rfl, rfl, rfl, ⟨π1, sg1, hI1⟩, hf1⟩
  have hM1 : MI I1 a := hM.cl hf1
  refine lj_m hX dL_law_351 ?_
  refine lj_ld hX (kk := 1) dL_law_352 dL_law_353 dL_law_354 dL_law_355 dL_law_356 rfl (by omega) ?_
  refine lj_call hX lk_L_45 dL_law_357 (m_loadStops I1 R1 hI1.1.1 a hM1 _ (rgx _)) (by decide) sf_290 rfl rfl (Nat.le_of_ble_eq_true rfl) ?_
  rintro r w2 ⟨z2, I2, rfl, rfl, rfl, hM2, hf2⟩
  refine lj_eq hX (tgt := 906) dL_law_360 (by decide) ?_
  exact hK _ _ _ _ _ (hI1.md hM2.1 hf2) hM2
set_option maxHeartbeats 4000000 in
set_option maxRecDepth 100000 in
theorem lc_7 (hX : LX p s m meth c sb L xs D dA) {i : Nat} (hi : i + 5 ≤ L) {I : Mem} {R : RMem} {π sg : Nat → Nat} {a : AS} (hI : CI I R π sg a) (hM : MI I a) (hK : ∀ (a1 : AS) (I1 : Mem) (R1 : RMem) (π1 sg1 : Nat → Nat), CI I1 R1 π1 sg1 a1 → MI I1 a1 → LJ p l e_ s m below meth c sb D dA 906 i [] (298, ShF, I1, R1)) : LJ p l e_ s m below meth c sb D dA 365 i [] (298, ShF, I, R) := by
  refine lj_x hX dL_law_365 ?_
  refine lj_ld hX (kk := 1) dL_law_366 dL_law_367 dL_law_368 dL_law_369 dL_law_370 rfl (by omega) ?_
  refine lj_call hX lk_L_46 dL_law_371 (k_addParagraph I R π sg a hI hM.1 _ (rgx _)) (by decide) sf_0 rfl rfl (by decide) ?_
  rintro r w1 ⟨z, I1, R1, rfl, rfl, rfl, ⟨π1, sg1, hI1⟩, hf1⟩
  have hM1 : MI I1 a := hM.cl hf1
  refine lj_m hX dL_law_374 ?_
  refine lj_ld hX (kk := 1) dL_law_375 dL_law_376 dL_law_377 dL_law_378 dL_law_379 rfl (by omega) ?_
  refine lj_call hX lk_L_49 dL_law_380 (m_addParagraph I1 R1 hI1.1.1 a hM1 _ (rgx _)) (by decide) sf_290 rfl rfl (Nat.le_of_ble_eq_true rfl) ?_
  rintro r w2 ⟨z2, I2, rfl, rfl, rfl, hM2, hf2⟩
  refine lj_eq hX (tgt := 906) dL_law_383 (by decide) ?_
  exact hK _ _ _ _ _ (hI1.md hM2.1 hf2) hM2
set_option maxHeartbeats 4000000 in
set_option maxRecDepth 100000 in
theorem lc_8 (hX : LX p s m meth c sb L xs D dA) {i : Nat} (hi : i + 5 ≤ L) {I : Mem} {R : RMem} {π sg : Nat → Nat} {a : AS} (hI : CI I R π sg a) (hM : MI I a) (hK : ∀ (a1 : AS) (I1 : Mem) (R1 : RMem) (π1 sg1 : Nat → Nat), CI I1 R1 π1 sg1 a1 → MI I1 a1 → LJ p l e_ s m below meth c sb D dA 906 i [] (298, ShF, I1, R1)) : LJ p l e_ s m below meth c sb D dA 388 i [] (298, ShF, I, R) := by
  refine lj_x hX dL_law_388 ?_
  refine lj_ld hX (kk := 1) dL_law_389 dL_law_390 dL_law_391 dL_law_392 dL_law_393 rfl (by omega) ?_
  refine lj_call hX lk_L_50 dL_law_394 (k_removeParagraph I R π sg a hI hM.1 _ (rgx _)) (by decide) sf_0 rfl rfl (by decide) ?_
  rintro r w1 ⟨z, I1, R1, rfl, rfl, rfl, ⟨π1, sg1, hI1⟩, hf1⟩
  have hM1 : MI I1 a := hM.cl hf1
  refine lj_m hX dL_law_397 ?_
  refine lj_ld hX (kk := 1) dL_law_398 dL_law_399 dL_law_400 dL_law_401 dL_law_402 rfl (by omega) ?_
  refine lj_call hX lk_L_53 dL_law_403 (m_removeParagraph I1 R1 hI1.1.1 a hM1 _ (rgx _)) (by decide) sf_290 rfl rfl (Nat.le_of_ble_eq_true rfl) ?_
  rintro r w2 ⟨z2, I2, rfl, rfl, rfl, hM2, hf2⟩
  refine lj_eq hX (tgt := 906) dL_law_406 (by decide) ?_
  exact hK _ _ _ _ _ (hI1.md hM2.1 hf2) hM2
set_option maxHeartbeats 4000000 in
set_option maxRecDepth 100000 in
theorem lc_9 (hX : LX p s m meth c sb L xs D dA) {i : Nat} (hi : i + 5 ≤ L) {I : Mem} {R : RMem} {π sg : Nat → Nat} {a : AS} (hI : CI I R π sg a) (hM : MI I a) (hK : ∀ (a1 : AS) (I1 : Mem) (R1 : RMem) (π1 sg1 : Nat → Nat), CI I1 R1 π1 sg1 a1 → MI I1 a1 → LJ p l e_ s m below meth c sb D dA 906 i [] (298, ShF, I1, R1)) : LJ p l e_ s m below meth c sb D dA 411 i [] (298, ShF, I, R) := by
  refine lj_x hX dL_law_411 ?_
  refine lj_ld hX (kk := 1) dL_law_412 dL_law_413 dL_law_414 dL_law_415 dL_law_416 rfl (by omega) ?_
  refine lj_ld hX (kk := 2) dL_law_417 dL_law_418 dL_law_419 dL_law_420 dL_law_421 rfl (by omega) ?_
  refine lj_call hX lk_L_54 dL_law_422 (k_setStyle I R π sg a hI hM.1 _ (rgx _) _ (rgx _)) (by decide) sf_0 rfl rfl (by decide) ?_
  rintro r w1 ⟨z, I1, R1, rfl, rfl, rfl, ⟨π1, sg1, hI1⟩, hf1⟩
  have hM1 : MI I1 a := hM.cl hf1
  refine lj_m hX dL_law_425 ?_
  refine lj_ld hX (kk := 1) dL_law_426 dL_law_427 dL_law_428 dL_law_429 dL_law_430 rfl (by omega) ?_
  refine lj_ld hX (kk := 2) dL_law_431 dL_law_432 dL_law_433 dL_law_434 dL_law_435 rfl (by omega) ?_
  refine lj_call hX lk_L_57 dL_law_436 (m_setStyle I1 R1 hI1.1.1 a hM1 _ (rgx _) _ (rgx _)) (by decide) sf_290 rfl rfl (Nat.le_of_ble_eq_true rfl) ?_
  rintro r w2 ⟨z2, I2, rfl, rfl, rfl, hM2, hf2⟩
  refine lj_eq hX (tgt := 906) dL_law_439 (by decide) ?_
  exact hK _ _ _ _ _ (hI1.md hM2.1 hf2) hM2
set_option maxHeartbeats 4000000 in
set_option maxRecDepth 100000 in
theorem lc_10 (hX : LX p s m meth c sb L xs D dA) {i : Nat} (hi : i + 5 ≤ L) {I : Mem} {R : RMem} {π sg : Nat → Nat} {a : AS} (hI : CI I R π sg a) (hM : MI I a) (hK : ∀ (a1 : AS) (I1 : Mem) (R1 : RMem) (π1 sg1 : Nat → Nat), CI I1 R1 π1 sg1 a1 → MI I1 a1 → LJ p l e_ s m below meth c sb D dA 906 i [] (298, ShF, I1, R1)) : LJ p l e_ s m below meth c sb D dA 444 i [] (298, ShF, I, R) := by
  refine lj_x hX dL_law_444 ?_
  refine lj_ld hX (kk := 1) dL_law_445 dL_law_446 dL_law_447 dL_law_448 dL_law_449 rfl (by omega) ?_
  refine lj_call hX lk_L_58 dL_law_450 (k_takeText I R π sg a hI hM.1 _ (rgx _)) (by decide) sf_0 rfl rfl (by decide) ?_
  rintro r w1 ⟨z, I1, R1, rfl, rfl, rfl, ⟨π1, sg1, hI1⟩, hf1⟩
  have hM1 : MI I1 a := hM.cl hf1
  refine lj_m hX dL_law_453 ?_
  refine lj_ld hX (kk := 1) dL_law_454 dL_law_455 dL_law_456 dL_law_457 dL_law_458 rfl (by omega) ?_
  refine lj_call hX lk_L_61 dL_law_459 (m_takeText I1 R1 hI1.1.1 a hM1 _ (rgx _)) (by decide) sf_290 rfl rfl (Nat.le_of_ble_eq_true rfl) ?_
  rintro r w2 ⟨z2, I2, rfl, rfl, rfl, hM2, hf2⟩
  refine lj_eq hX (tgt := 906) dL_law_462 (by decide) ?_
  exact hK _ _ _ _ _ (hI1.md hM2.1 hf2) hM2
set_option maxHeartbeats 4000000 in
set_option maxRecDepth 100000 in
theorem lc_11 (hX : LX p s m meth c sb L xs D dA) {i : Nat} (hi : i + 5 ≤ L) {I : Mem} {R : RMem} {π sg : Nat → Nat} {a : AS} (hI : CI I R π sg a) (hM : MI I a) (hK : ∀ (a1 : AS) (I1 : Mem) (R1 : RMem) (π1 sg1 : Nat → Nat), CI I1 R1 π1 sg1 a1 → MI I1 a1 → LJ p l e_ s m below meth c sb D dA 906 i [] (298, ShF, I1, R1)) : LJ p l e_ s m below meth c sb D dA 467 i [] (298, ShF, I, R) := by
  refine lj_x hX dL_law_467 ?_
  refine lj_ld hX (kk := 1) dL_law_468 dL_law_469 dL_law_470 dL_law_471 dL_law_472 rfl (by omega) ?_
  refine lj_ld hX (kk := 2) dL_law_473 dL_law_474 dL_law_475 dL_law_476 dL_law_477 rfl (by omega) ?_
  refine lj_ld hX (kk := 3) dL_law_478 dL_law_479 dL_law_480 dL_law_481 dL_law_482 rfl (by omega) ?_
  refine lj_ld hX (kk := 4) dL_law_483 dL_law_484 dL_law_485 dL_law_486 dL_law_487 rfl (by omega) ?_
  refine lj_call hX lk_L_62 dL_law_488 (k_addWord I R π sg a hI hM.1 _ (rgx _) _ (rgx _) _ (rgx _) _ (rgx _)) (by decide) sf_0 rfl rfl (by decide) ?_
  rintro r w1 ⟨z, I1, R1, rfl, rfl, rfl, ⟨π1, sg1, hI1⟩, hf1⟩
  have hM1 : MI I1 a := hM.cl hf1
  refine lj_m hX dL_law_491 ?_
  refine lj_ld hX (kk := 1) dL_law_492 dL_law_493 dL_law_494 dL_law_495 dL_law_496 rfl (by omega) ?_
  refine lj_ld hX (kk := 2) dL_law_497 dL_law_498 dL_law_499 dL_law_500 dL_law_501 rfl (by omega) ?_
  refine lj_ld hX (kk := 3) dL_law_502 dL_law_503 dL_law_504 dL_law_505 dL_law_506 rfl (by omega) ?_
  refine lj_ld hX (kk := 4) dL_law_507 dL_law_508 dL_law_509 dL_law_510 dL_law_511 rfl (by omega) ?_
  refine lj_call hX lk_L_65 dL_law_512 (m_addWord I1 R1 hI1.1.1 a hM1 _ (rgx _) _ (rgx _) _ (rgx _) _ (rgx _)) (by decide) sf_290 rfl rfl (Nat.le_of_ble_eq_true rfl) ?_
  rintro r w2 ⟨z2, I2, rfl, rfl, rfl, hM2, hf2⟩
  refine lj_eq hX (tgt := 906) dL_law_515 (by decide) ?_
  exact hK _ _ _ _ _ (hI1.md hM2.1 hf2) hM2
set_option maxHeartbeats 4000000 in
set_option maxRecDepth 100000 in
theorem lc_12 (hX : LX p s m meth c sb L xs D dA) {i : Nat} (hi : i + 5 ≤ L) {I : Mem} {R : RMem} {π sg : Nat → Nat} {a : AS} (hI : CI I R π sg a) (hM : MI I a) (hK : ∀ (a1 : AS) (I1 : Mem) (R1 : RMem) (π1 sg1 : Nat → Nat), CI I1 R1 π1 sg1 a1 → MI I1 a1 → LJ p l e_ s m below meth c sb D dA 906 i [] (298, ShF, I1, R1)) : LJ p l e_ s m below meth c sb D dA 520 i [] (298, ShF, I, R) := by
  refine lj_x hX dL_law_520 ?_
  refine lj_ld hX (kk := 1) dL_law_521 dL_law_522 dL_law_523 dL_law_524 dL_law_525 rfl (by omega) ?_
  refine lj_ld hX (kk := 2) dL_law_526 dL_law_527 dL_law_528 dL_law_529 dL_law_530 rfl (by omega) ?_
  refine lj_call hX lk_L_66 dL_law_531 (k_addAmount I R π sg a hI hM.1 _ (rgx _) _ (rgx _)) (by decide) sf_0 rfl rfl (by decide) ?_
  rintro r w1 ⟨z, I1, R1, rfl, rfl, rfl, ⟨π1, sg1, hI1⟩, hf1⟩
  have hM1 : MI I1 a := hM.cl hf1
  refine lj_m hX dL_law_534 ?_
  refine lj_ld hX (kk := 1) dL_law_535 dL_law_536 dL_law_537 dL_law_538 dL_law_539 rfl (by omega) ?_
  refine lj_ld hX (kk := 2) dL_law_540 dL_law_541 dL_law_542 dL_law_543 dL_law_544 rfl (by omega) ?_
  refine lj_call hX lk_L_69 dL_law_545 (m_addAmount I1 R1 hI1.1.1 a hM1 _ (rgx _) _ (rgx _)) (by decide) sf_290 rfl rfl (Nat.le_of_ble_eq_true rfl) ?_
  rintro r w2 ⟨z2, I2, rfl, rfl, rfl, hM2, hf2⟩
  refine lj_eq hX (tgt := 906) dL_law_548 (by decide) ?_
  exact hK _ _ _ _ _ (hI1.md hM2.1 hf2) hM2
set_option maxHeartbeats 4000000 in
set_option maxRecDepth 100000 in
theorem lc_13 (hX : LX p s m meth c sb L xs D dA) {i : Nat} (hi : i + 5 ≤ L) {I : Mem} {R : RMem} {π sg : Nat → Nat} {a : AS} (hI : CI I R π sg a) (hM : MI I a) (hK : ∀ (a1 : AS) (I1 : Mem) (R1 : RMem) (π1 sg1 : Nat → Nat), CI I1 R1 π1 sg1 a1 → MI I1 a1 → LJ p l e_ s m below meth c sb D dA 906 i [] (298, ShF, I1, R1)) : LJ p l e_ s m below meth c sb D dA 553 i [] (298, ShF, I, R) := by
  refine lj_x hX dL_law_553 ?_
  refine lj_ld hX (kk := 1) dL_law_554 dL_law_555 dL_law_556 dL_law_557 dL_law_558 rfl (by omega) ?_
  refine lj_call hX lk_L_70 dL_law_559 (k_count I R π sg a hI hM.1 _ (rgx _)) (by decide) sf_0 rfl rfl (by decide) ?_
  rintro r w1 ⟨z, I1, R1, rfl, rfl, rfl, ⟨π1, sg1, hI1⟩, hf1⟩
  have hM1 : MI I1 a := hM.cl hf1
  refine lj_m hX dL_law_562 ?_
  refine lj_ld hX (kk := 1) dL_law_563 dL_law_564 dL_law_565 dL_law_566 dL_law_567 rfl (by omega) ?_
  refine lj_call hX lk_L_73 dL_law_568 (m_count I1 R1 hI1.1.1 a hM1 _ (rgx _)) (by decide) sf_290 rfl rfl (Nat.le_of_ble_eq_true rfl) ?_
  rintro r w2 ⟨z2, I2, rfl, rfl, rfl, hM2, hf2⟩
  refine lj_eq hX (tgt := 906) dL_law_571 (by decide) ?_
  exact hK _ _ _ _ _ (hI1.md hM2.1 hf2) hM2
set_option maxHeartbeats 4000000 in
set_option maxRecDepth 100000 in
theorem lc_14 (hX : LX p s m meth c sb L xs D dA) {i : Nat} (hi : i + 5 ≤ L) {I : Mem} {R : RMem} {π sg : Nat → Nat} {a : AS} (hI : CI I R π sg a) (hM : MI I a) (hK : ∀ (a1 : AS) (I1 : Mem) (R1 : RMem) (π1 sg1 : Nat → Nat), CI I1 R1 π1 sg1 a1 → MI I1 a1 → LJ p l e_ s m below meth c sb D dA 906 i [] (298, ShF, I1, R1)) : LJ p l e_ s m below meth c sb D dA 576 i [] (298, ShF, I, R) := by
  refine lj_x hX dL_law_576 ?_
  refine lj_ld hX (kk := 1) dL_law_577 dL_law_578 dL_law_579 dL_law_580 dL_law_581 rfl (by omega) ?_
  refine lj_ld hX (kk := 2) dL_law_582 dL_law_583 dL_law_584 dL_law_585 dL_law_586 rfl (by omega) ?_
  refine lj_call hX lk_L_74 dL_law_587 (k_style I R π sg a hI hM.1 _ (rgx _) _ (rgx _)) (by decide) sf_0 rfl rfl (by decide) ?_
  rintro r w1 ⟨rfl, rfl⟩
  have hI1 := hI
  have hM1 := hM
  refine lj_m hX dL_law_590 ?_
  refine lj_ld hX (kk := 1) dL_law_591 dL_law_592 dL_law_593 dL_law_594 dL_law_595 rfl (by omega) ?_
  refine lj_ld hX (kk := 2) dL_law_596 dL_law_597 dL_law_598 dL_law_599 dL_law_600 rfl (by omega) ?_
  refine lj_call hX lk_L_77 dL_law_601 (m_style I R hI1.1.1 a hM1 _ (rgx _) _ (rgx _)) (by decide) sf_290 rfl rfl (Nat.le_of_ble_eq_true rfl) ?_
  rintro r w2 ⟨z2, I2, rfl, rfl, rfl, hM2, hf2⟩
  refine lj_eq hX (tgt := 906) dL_law_604 (by decide) ?_
  exact hK _ _ _ _ _ (hI1.md hM2.1 hf2) hM2
set_option maxHeartbeats 4000000 in
set_option maxRecDepth 100000 in
theorem lc_15 (hX : LX p s m meth c sb L xs D dA) {i : Nat} (hi : i + 5 ≤ L) {I : Mem} {R : RMem} {π sg : Nat → Nat} {a : AS} (hI : CI I R π sg a) (hM : MI I a) (hK : ∀ (a1 : AS) (I1 : Mem) (R1 : RMem) (π1 sg1 : Nat → Nat), CI I1 R1 π1 sg1 a1 → MI I1 a1 → LJ p l e_ s m below meth c sb D dA 906 i [] (298, ShF, I1, R1)) : LJ p l e_ s m below meth c sb D dA 609 i [] (298, ShF, I, R) := by
  refine lj_x hX dL_law_609 ?_
  refine lj_ld hX (kk := 1) dL_law_610 dL_law_611 dL_law_612 dL_law_613 dL_law_614 rfl (by omega) ?_
  refine lj_ld hX (kk := 2) dL_law_615 dL_law_616 dL_law_617 dL_law_618 dL_law_619 rfl (by omega) ?_
  refine lj_ld hX (kk := 3) dL_law_620 dL_law_621 dL_law_622 dL_law_623 dL_law_624 rfl (by omega) ?_
  refine lj_call hX lk_L_78 dL_law_625 (k_stop I R π sg a hI hM.1 _ (rgx _) _ (rgx _) _ (rgx _)) (by decide) sf_0 rfl rfl (by decide) ?_
  rintro r w1 ⟨rfl, rfl⟩
  have hI1 := hI
  have hM1 := hM
  refine lj_m hX dL_law_628 ?_
  refine lj_ld hX (kk := 1) dL_law_629 dL_law_630 dL_law_631 dL_law_632 dL_law_633 rfl (by omega) ?_
  refine lj_ld hX (kk := 2) dL_law_634 dL_law_635 dL_law_636 dL_law_637 dL_law_638 rfl (by omega) ?_
  refine lj_ld hX (kk := 3) dL_law_639 dL_law_640 dL_law_641 dL_law_642 dL_law_643 rfl (by omega) ?_
  refine lj_call hX lk_L_81 dL_law_644 (m_stop I R hI1.1.1 a hM1 _ (rgx _) _ (rgx _) _ (rgx _)) (by decide) sf_290 rfl rfl (Nat.le_of_ble_eq_true rfl) ?_
  rintro r w2 ⟨rfl, rfl⟩
  refine lj_eq hX (tgt := 906) dL_law_647 (by decide) ?_
  exact hK _ _ _ _ _ hI1 hM1
set_option maxHeartbeats 4000000 in
set_option maxRecDepth 100000 in
theorem lc_16 (hX : LX p s m meth c sb L xs D dA) {i : Nat} (hi : i + 5 ≤ L) {I : Mem} {R : RMem} {π sg : Nat → Nat} {a : AS} (hI : CI I R π sg a) (hM : MI I a) (hK : ∀ (a1 : AS) (I1 : Mem) (R1 : RMem) (π1 sg1 : Nat → Nat), CI I1 R1 π1 sg1 a1 → MI I1 a1 → LJ p l e_ s m below meth c sb D dA 906 i [] (298, ShF, I1, R1)) : LJ p l e_ s m below meth c sb D dA 652 i [] (298, ShF, I, R) := by
  refine lj_x hX dL_law_652 ?_
  refine lj_ld hX (kk := 1) dL_law_653 dL_law_654 dL_law_655 dL_law_656 dL_law_657 rfl (by omega) ?_
  refine lj_ld hX (kk := 2) dL_law_658 dL_law_659 dL_law_660 dL_law_661 dL_law_662 rfl (by omega) ?_
  refine lj_call hX lk_L_82 dL_law_663 (k_character I R π sg a hI hM.1 _ (rgx _) _ (rgx _)) (by decide) sf_0 rfl rfl (by decide) ?_
  rintro r w1 ⟨rfl, rfl⟩
  have hI1 := hI
  have hM1 := hM
  refine lj_m hX dL_law_666 ?_
  refine lj_ld hX (kk := 1) dL_law_667 dL_law_668 dL_law_669 dL_law_670 dL_law_671 rfl (by omega) ?_
  refine lj_ld hX (kk := 2) dL_law_672 dL_law_673 dL_law_674 dL_law_675 dL_law_676 rfl (by omega) ?_
  refine lj_call hX lk_L_85 dL_law_677 (m_character I R hI1.1.1 a hM1 _ (rgx _) _ (rgx _)) (by decide) sf_290 rfl rfl (Nat.le_of_ble_eq_true rfl) ?_
  rintro r w2 ⟨rfl, rfl⟩
  refine lj_eq hX (tgt := 906) dL_law_680 (by decide) ?_
  exact hK _ _ _ _ _ hI1 hM1
set_option maxHeartbeats 4000000 in
set_option maxRecDepth 100000 in
theorem lc_17 (hX : LX p s m meth c sb L xs D dA) {i : Nat} (hi : i + 5 ≤ L) {I : Mem} {R : RMem} {π sg : Nat → Nat} {a : AS} (hI : CI I R π sg a) (hM : MI I a) (hK : ∀ (a1 : AS) (I1 : Mem) (R1 : RMem) (π1 sg1 : Nat → Nat), CI I1 R1 π1 sg1 a1 → MI I1 a1 → LJ p l e_ s m below meth c sb D dA 906 i [] (298, ShF, I1, R1)) : LJ p l e_ s m below meth c sb D dA 685 i [] (298, ShF, I, R) := by
  refine lj_x hX dL_law_685 ?_
  refine lj_ld hX (kk := 1) dL_law_686 dL_law_687 dL_law_688 dL_law_689 dL_law_690 rfl (by omega) ?_
  refine lj_call hX lk_L_86 dL_law_691 (k_lines I R π sg a hI hM.1 _ (rgx _)) (by decide) sf_0 rfl rfl (by decide) ?_
  rintro r w1 ⟨z, I1, R1, rfl, rfl, rfl, ⟨π1, sg1, hI1⟩, hf1⟩
  have hM1 : MI I1 a := hM.cl hf1
  refine lj_m hX dL_law_694 ?_
  refine lj_ld hX (kk := 1) dL_law_695 dL_law_696 dL_law_697 dL_law_698 dL_law_699 rfl (by omega) ?_
  refine lj_call hX lk_L_89 dL_law_700 (m_lines I1 R1 hI1.1.1 a hM1 _ (rgx _)) (by decide) sf_290 rfl rfl (Nat.le_of_ble_eq_true rfl) ?_
  rintro r w2 ⟨z2, I2, rfl, rfl, rfl, hM2, hf2⟩
  refine lj_eq hX (tgt := 906) dL_law_703 (by decide) ?_
  exact hK _ _ _ _ _ (hI1.md hM2.1 hf2) hM2
set_option maxHeartbeats 4000000 in
set_option maxRecDepth 100000 in
theorem lc_18 (hX : LX p s m meth c sb L xs D dA) {i : Nat} (hi : i + 5 ≤ L) {I : Mem} {R : RMem} {π sg : Nat → Nat} {a : AS} (hI : CI I R π sg a) (hM : MI I a) (hK : ∀ (a1 : AS) (I1 : Mem) (R1 : RMem) (π1 sg1 : Nat → Nat), CI I1 R1 π1 sg1 a1 → MI I1 a1 → LJ p l e_ s m below meth c sb D dA 906 i [] (298, ShF, I1, R1)) : LJ p l e_ s m below meth c sb D dA 708 i [] (298, ShF, I, R) := by
  refine lj_x hX dL_law_708 ?_
  refine lj_ld hX (kk := 1) dL_law_709 dL_law_710 dL_law_711 dL_law_712 dL_law_713 rfl (by omega) ?_
  refine lj_ld hX (kk := 2) dL_law_714 dL_law_715 dL_law_716 dL_law_717 dL_law_718 rfl (by omega) ?_
  refine lj_ld hX (kk := 3) dL_law_719 dL_law_720 dL_law_721 dL_law_722 dL_law_723 rfl (by omega) ?_
  refine lj_call hX lk_L_90 dL_law_724 (k_cell I R π sg a hI hM.1 _ (rgx _) _ (rgx _) _ (rgx _)) (by decide) sf_0 rfl rfl (by decide) ?_
  rintro r w1 ⟨z, I1, R1, rfl, rfl, rfl, ⟨π1, sg1, hI1⟩, hf1⟩
  have hM1 : MI I1 a := hM.cl hf1
  refine lj_m hX dL_law_727 ?_
  refine lj_ld hX (kk := 1) dL_law_728 dL_law_729 dL_law_730 dL_law_731 dL_law_732 rfl (by omega) ?_
  refine lj_ld hX (kk := 2) dL_law_733 dL_law_734 dL_law_735 dL_law_736 dL_law_737 rfl (by omega) ?_
  refine lj_ld hX (kk := 3) dL_law_738 dL_law_739 dL_law_740 dL_law_741 dL_law_742 rfl (by omega) ?_
  refine lj_call hX lk_L_93 dL_law_743 (m_cell I1 R1 hI1.1.1 a hM1 _ (rgx _) _ (rgx _) _ (rgx _)) (by decide) sf_290 rfl rfl (Nat.le_of_ble_eq_true rfl) ?_
  rintro r w2 ⟨z2, I2, rfl, rfl, rfl, hM2, hf2⟩
  refine lj_eq hX (tgt := 906) dL_law_746 (by decide) ?_
  exact hK _ _ _ _ _ (hI1.md hM2.1 hf2) hM2
set_option maxHeartbeats 4000000 in
set_option maxRecDepth 100000 in
theorem lc_19 (hX : LX p s m meth c sb L xs D dA) {i : Nat} (hi : i + 5 ≤ L) {I : Mem} {R : RMem} {π sg : Nat → Nat} {a : AS} (hI : CI I R π sg a) (hM : MI I a) (hK : ∀ (a1 : AS) (I1 : Mem) (R1 : RMem) (π1 sg1 : Nat → Nat), CI I1 R1 π1 sg1 a1 → MI I1 a1 → LJ p l e_ s m below meth c sb D dA 906 i [] (298, ShF, I1, R1)) : LJ p l e_ s m below meth c sb D dA 751 i [] (298, ShF, I, R) := by
  refine lj_x hX dL_law_751 ?_
  refine lj_ld hX (kk := 1) dL_law_752 dL_law_753 dL_law_754 dL_law_755 dL_law_756 rfl (by omega) ?_
  refine lj_ld hX (kk := 2) dL_law_757 dL_law_758 dL_law_759 dL_law_760 dL_law_761 rfl (by omega) ?_
  refine lj_ld hX (kk := 3) dL_law_762 dL_law_763 dL_law_764 dL_law_765 dL_law_766 rfl (by omega) ?_
  refine lj_call hX lk_L_94 dL_law_767 (k_field I R π sg a hI hM.1 _ (rgx _) _ (rgx _) _ (rgx _)) (by decide) sf_0 rfl rfl (by decide) ?_
  rintro r w1 ⟨z, I1, R1, rfl, rfl, rfl, ⟨π1, sg1, hI1⟩, hf1⟩
  have hM1 : MI I1 a := hM.cl hf1
  refine lj_m hX dL_law_770 ?_
  refine lj_ld hX (kk := 1) dL_law_771 dL_law_772 dL_law_773 dL_law_774 dL_law_775 rfl (by omega) ?_
  refine lj_ld hX (kk := 2) dL_law_776 dL_law_777 dL_law_778 dL_law_779 dL_law_780 rfl (by omega) ?_
  refine lj_ld hX (kk := 3) dL_law_781 dL_law_782 dL_law_783 dL_law_784 dL_law_785 rfl (by omega) ?_
  refine lj_call hX lk_L_97 dL_law_786 (m_field I1 R1 hI1.1.1 a hM1 _ (rgx _) _ (rgx _) _ (rgx _)) (by decide) sf_290 rfl rfl (Nat.le_of_ble_eq_true rfl) ?_
  rintro r w2 ⟨z2, I2, rfl, rfl, rfl, hM2, hf2⟩
  refine lj_eq hX (tgt := 906) dL_law_789 (by decide) ?_
  exact hK _ _ _ _ _ (hI1.md hM2.1 hf2) hM2
set_option maxHeartbeats 4000000 in
set_option maxRecDepth 100000 in
theorem lc_20 (hX : LX p s m meth c sb L xs D dA) {i : Nat} (hi : i + 5 ≤ L) {I : Mem} {R : RMem} {π sg : Nat → Nat} {a : AS} (hI : CI I R π sg a) (hM : MI I a) (hK : ∀ (a1 : AS) (I1 : Mem) (R1 : RMem) (π1 sg1 : Nat → Nat), CI I1 R1 π1 sg1 a1 → MI I1 a1 → LJ p l e_ s m below meth c sb D dA 906 i [] (298, ShF, I1, R1)) : LJ p l e_ s m below meth c sb D dA 794 i [] (298, ShF, I, R) := by
  refine lj_x hX dL_law_794 ?_
  refine lj_ld hX (kk := 1) dL_law_795 dL_law_796 dL_law_797 dL_law_798 dL_law_799 rfl (by omega) ?_
  refine lj_ld hX (kk := 2) dL_law_800 dL_law_801 dL_law_802 dL_law_803 dL_law_804 rfl (by omega) ?_
  refine lj_call hX lk_L_98 dL_law_805 (k_holds I R π sg a hI hM.1 _ (rgx _) _ (rgx _)) (by decide) sf_0 rfl rfl (by decide) ?_
  rintro r w1 ⟨z, I1, R1, rfl, rfl, rfl, ⟨π1, sg1, hI1⟩, hf1⟩
  have hM1 : MI I1 a := hM.cl hf1
  refine lj_m hX dL_law_808 ?_
  refine lj_ld hX (kk := 1) dL_law_809 dL_law_810 dL_law_811 dL_law_812 dL_law_813 rfl (by omega) ?_
  refine lj_ld hX (kk := 2) dL_law_814 dL_law_815 dL_law_816 dL_law_817 dL_law_818 rfl (by omega) ?_
  refine lj_call hX lk_L_101 dL_law_819 (m_holds I1 R1 hI1.1.1 a hM1 _ (rgx _) _ (rgx _)) (by decide) sf_290 rfl rfl (Nat.le_of_ble_eq_true rfl) ?_
  rintro r w2 ⟨z2, I2, rfl, rfl, rfl, hM2, hf2⟩
  refine lj_eq hX (tgt := 906) dL_law_822 (by decide) ?_
  exact hK _ _ _ _ _ (hI1.md hM2.1 hf2) hM2
set_option maxHeartbeats 4000000 in
set_option maxRecDepth 100000 in
theorem lc_21 (hX : LX p s m meth c sb L xs D dA) {i : Nat} (hi : i + 5 ≤ L) {I : Mem} {R : RMem} {π sg : Nat → Nat} {a : AS} (hI : CI I R π sg a) (hM : MI I a) (hK : ∀ (a1 : AS) (I1 : Mem) (R1 : RMem) (π1 sg1 : Nat → Nat), CI I1 R1 π1 sg1 a1 → MI I1 a1 → LJ p l e_ s m below meth c sb D dA 906 i [] (298, ShF, I1, R1)) : LJ p l e_ s m below meth c sb D dA 827 i [] (298, ShF, I, R) := by
  refine lj_x hX dL_law_827 ?_
  refine lj_ld hX (kk := 1) dL_law_828 dL_law_829 dL_law_830 dL_law_831 dL_law_832 rfl (by omega) ?_
  refine lj_ld hX (kk := 2) dL_law_833 dL_law_834 dL_law_835 dL_law_836 dL_law_837 rfl (by omega) ?_
  refine lj_call hX lk_L_102 dL_law_838 (k_linesWith I R π sg a hI hM.1 _ (rgx _) _ (rgx _)) (by decide) sf_0 rfl rfl (by decide) ?_
  rintro r w1 ⟨z, I1, R1, rfl, rfl, rfl, ⟨π1, sg1, hI1⟩, hf1⟩
  have hM1 : MI I1 a := hM.cl hf1
  refine lj_m hX dL_law_841 ?_
  refine lj_ld hX (kk := 1) dL_law_842 dL_law_843 dL_law_844 dL_law_845 dL_law_846 rfl (by omega) ?_
  refine lj_ld hX (kk := 2) dL_law_847 dL_law_848 dL_law_849 dL_law_850 dL_law_851 rfl (by omega) ?_
  refine lj_call hX lk_L_105 dL_law_852 (m_linesWith I1 R1 hI1.1.1 a hM1 _ (rgx _) _ (rgx _)) (by decide) sf_290 rfl rfl (Nat.le_of_ble_eq_true rfl) ?_
  rintro r w2 ⟨z2, I2, rfl, rfl, rfl, hM2, hf2⟩
  refine lj_eq hX (tgt := 906) dL_law_855 (by decide) ?_
  exact hK _ _ _ _ _ (hI1.md hM2.1 hf2) hM2
set_option maxHeartbeats 4000000 in
set_option maxRecDepth 100000 in
theorem lc_22 (hX : LX p s m meth c sb L xs D dA) {i : Nat} (hi : i + 5 ≤ L) {I : Mem} {R : RMem} {π sg : Nat → Nat} {a : AS} (hI : CI I R π sg a) (hM : MI I a) (hK : ∀ (a1 : AS) (I1 : Mem) (R1 : RMem) (π1 sg1 : Nat → Nat), CI I1 R1 π1 sg1 a1 → MI I1 a1 → LJ p l e_ s m below meth c sb D dA 906 i [] (298, ShF, I1, R1)) : LJ p l e_ s m below meth c sb D dA 860 i [] (298, ShF, I, R) := by
  refine lj_x hX dL_law_860 ?_
  refine lj_ld hX (kk := 1) dL_law_861 dL_law_862 dL_law_863 dL_law_864 dL_law_865 rfl (by omega) ?_
  refine lj_ld hX (kk := 2) dL_law_866 dL_law_867 dL_law_868 dL_law_869 dL_law_870 rfl (by omega) ?_
  refine lj_call hX lk_L_106 dL_law_871 (k_leastColumns I R π sg a hI hM.1 _ (rgx _) _ (rgx _)) (by decide) sf_0 rfl rfl (by decide) ?_
  rintro r w1 ⟨z, I1, R1, rfl, rfl, rfl, ⟨π1, sg1, hI1⟩, hf1⟩
  have hM1 : MI I1 a := hM.cl hf1
  refine lj_m hX dL_law_874 ?_
  refine lj_ld hX (kk := 1) dL_law_875 dL_law_876 dL_law_877 dL_law_878 dL_law_879 rfl (by omega) ?_
  refine lj_ld hX (kk := 2) dL_law_880 dL_law_881 dL_law_882 dL_law_883 dL_law_884 rfl (by omega) ?_
  refine lj_call hX lk_L_109 dL_law_885 (m_leastColumns I1 R1 hI1.1.1 a hM1 _ (rgx _) _ (rgx _)) (by decide) sf_290 rfl rfl (Nat.le_of_ble_eq_true rfl) ?_
  rintro r w2 ⟨z2, I2, rfl, rfl, rfl, hM2, hf2⟩
  refine lj_eq hX (tgt := 906) dL_law_888 (by decide) ?_
  exact hK _ _ _ _ _ (hI1.md hM2.1 hf2) hM2
set_option maxHeartbeats 4000000 in
set_option maxRecDepth 100000 in
theorem lc_23 (hX : LX p s m meth c sb L xs D dA) {i : Nat} (hi : i + 5 ≤ L) {I : Mem} {R : RMem} {π sg : Nat → Nat} {a : AS} (hI : CI I R π sg a) (hM : MI I a) (hK : ∀ (a1 : AS) (I1 : Mem) (R1 : RMem) (π1 sg1 : Nat → Nat), CI I1 R1 π1 sg1 a1 → MI I1 a1 → LJ p l e_ s m below meth c sb D dA 906 i [] (298, ShF, I1, R1)) : LJ p l e_ s m below meth c sb D dA 893 i [] (298, ShF, I, R) := by
  refine lj_x hX dL_law_893 ?_
  refine lj_call hX lk_L_110 dL_law_894 (k_undo I R π sg a hI hM.1 ) (by decide) sf_0 rfl rfl (by decide) ?_
  rintro r w1 ⟨z, I1, R1, rfl, rfl, rfl, ⟨π1, sg1, hI1⟩, hf1⟩
  have hM1 : MI I1 a := hM.cl hf1
  refine lj_m hX dL_law_897 ?_
  refine lj_call hX lk_L_113 dL_law_898 (m_undo I1 R1 hI1.1.1 a hM1 ) (by decide) sf_290 rfl rfl (Nat.le_of_ble_eq_true rfl) ?_
  rintro r w2 ⟨z2, I2, rfl, rfl, rfl, hM2, hf2⟩
  refine lj_eq hX (tgt := 906) dL_law_901 (by decide) ?_
  exact hK _ _ _ _ _ (hI1.md hM2.1 hf2) hM2
end LWC
