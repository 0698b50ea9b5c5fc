/-! the 32 cases -/
set_option maxRecDepth 20000 in
theorem lk_set {p : Program} {l : Launch} {e : Env} {s : State} {m : MethodId} {below : List Frame} {meth : Method} {c : Code} {D : va_G} {cy : Nat → ClassId} {ad5 ad6 : Nat → Nat} {b L : Nat} {xs : Nat → Int32} {μ μM : Mem} {ν νM : Lem} {H : Heap} {locs : List Loc} {ls : Array Slot} {i cells slots : Nat} (C : LC p s m meth c D cy ad5 ad6 b L xs) (hR : RR μ μM) (X : LW s D cy ad5 ad6 μ ν μM νM H locs) (hi : i + 6 ≤ L) (hl : lv_has ls 4 (lLoc ad5 ad6 b i)) (hcs : cells ≤ 600000 ∧ slots ≤ 7302250)
    (next : ∀ (μ1 μM1 : Mem) (νM1 : Lem) (H1 : Heap) (locs1 : List Loc), RR μ1 μM1 → LW s D cy ad5 ad6 μ1 ν μM1 νM1 H1 locs1 → W p l e room_1 s m #[Value.ref b] below meth c H1 locs1 cells slots (lw_Z below #[Value.ref b] s) (F0 m 1274 ls [])) : W p l e room_1 s m #[Value.ref b] below meth c H locs cells slots (lw_Z below #[Value.ref b] s) (F0 m 176 ls []) := by
  have hx := C.1.1.1
  have hb := C.1.1.2.1
  obtain ⟨r, μ1, μM1, νM1, c5, c6, hR1⟩ := bo_set ν νM hR (xs (i + 1)) (xs (i + 2)) (xs (i + 3))
  refine lv_aload_n hx hb dL_law_176 rfl (lv_at hl 2 rfl) ?_
  refine rArg C X hi hl 1 (by decide) rfl dL_law_177 dL_law_178 dL_law_179 dL_law_180 dL_law_181 ?_
  refine rArg C X hi hl 2 (by decide) rfl dL_law_182 dL_law_183 dL_law_184 dL_law_185 dL_law_186 ?_
  refine rArg C X hi hl 3 (by decide) rfl dL_law_187 dL_law_188 dL_law_189 dL_law_190 dL_law_191 ?_
  refine rK5I (As := [.int (xs (i + 1)), .int (xs (i + 2)), .int (xs (i + 3))]) (rest := []) c5 rfl lX5_set k_204 rfl rfl C X rfl (by decide) hl.1 ⟨Nat.le_of_ble_eq_true rfl, Nat.le_of_ble_eq_true rfl⟩ hcs dL_law_192 (fun H locs X => ?_)
  refine lv_aload_n hx hb dL_law_195 rfl (lv_at hl 1 rfl) ?_
  refine rArg C X hi hl 1 (by decide) rfl dL_law_196 dL_law_197 dL_law_198 dL_law_199 dL_law_200 ?_
  refine rArg C X hi hl 2 (by decide) rfl dL_law_201 dL_law_202 dL_law_203 dL_law_204 dL_law_205 ?_
  refine rArg C X hi hl 3 (by decide) rfl dL_law_206 dL_law_207 dL_law_208 dL_law_209 dL_law_210 ?_
  refine rK6I (As := [.int (xs (i + 1)), .int (xs (i + 2)), .int (xs (i + 3))]) (rest := [.int r]) c6 rfl lX6_set k_921 rfl rfl C X rfl (by simp [Value.category]) hl.1 ⟨Nat.le_of_ble_eq_true rfl, Nat.le_of_ble_eq_true rfl⟩ hcs dL_law_211 (fun H locs X => ?_)
  refine lv_icmp_eq (tgt := 1274) hx hb dL_law_214 (by decide) (fun _ => ?_) (fun h => absurd rfl h)
  exact next μ1 μM1 νM1 H locs hR1 X
set_option maxRecDepth 20000 in
theorem lk_way {p : Program} {l : Launch} {e : Env} {s : State} {m : MethodId} {below : List Frame} {meth : Method} {c : Code} {D : va_G} {cy : Nat → ClassId} {ad5 ad6 : Nat → Nat} {b L : Nat} {xs : Nat → Int32} {μ μM : Mem} {ν νM : Lem} {H : Heap} {locs : List Loc} {ls : Array Slot} {i cells slots : Nat} (C : LC p s m meth c D cy ad5 ad6 b L xs) (hR : RR μ μM) (X : LW s D cy ad5 ad6 μ ν μM νM H locs) (hi : i + 6 ≤ L) (hl : lv_has ls 4 (lLoc ad5 ad6 b i)) (hcs : cells ≤ 600000 ∧ slots ≤ 7302250)
    (next : ∀ (μ1 μM1 : Mem) (νM1 : Lem) (H1 : Heap) (locs1 : List Loc), RR μ1 μM1 → LW s D cy ad5 ad6 μ1 ν μM1 νM1 H1 locs1 → W p l e room_1 s m #[Value.ref b] below meth c H1 locs1 cells slots (lw_Z below #[Value.ref b] s) (F0 m 1274 ls [])) : W p l e room_1 s m #[Value.ref b] below meth c H locs cells slots (lw_Z below #[Value.ref b] s) (F0 m 219 ls []) := by
  have hx := C.1.1.1
  have hb := C.1.1.2.1
  obtain ⟨r, μ1, μM1, νM1, c5, c6, hR1⟩ := bo_way ν νM hR (xs (i + 1)) (xs (i + 2))
  refine lv_aload_n hx hb dL_law_219 rfl (lv_at hl 2 rfl) ?_
  refine rArg C X hi hl 1 (by decide) rfl dL_law_220 dL_law_221 dL_law_222 dL_law_223 dL_law_224 ?_
  refine rArg C X hi hl 2 (by decide) rfl dL_law_225 dL_law_226 dL_law_227 dL_law_228 dL_law_229 ?_
  refine rK5I (As := [.int (xs (i + 1)), .int (xs (i + 2))]) (rest := []) c5 rfl lX5_way k_235 rfl rfl C X rfl (by decide) hl.1 ⟨Nat.le_of_ble_eq_true rfl, Nat.le_of_ble_eq_true rfl⟩ hcs dL_law_230 (fun H locs X => ?_)
  refine lv_aload_n hx hb dL_law_233 rfl (lv_at hl 1 rfl) ?_
  refine rArg C X hi hl 1 (by decide) rfl dL_law_234 dL_law_235 dL_law_236 dL_law_237 dL_law_238 ?_
  refine rArg C X hi hl 2 (by decide) rfl dL_law_239 dL_law_240 dL_law_241 dL_law_242 dL_law_243 ?_
  refine rK6I (As := [.int (xs (i + 1)), .int (xs (i + 2))]) (rest := [.int r]) c6 rfl lX6_way k_935 rfl rfl C X rfl (by simp [Value.category]) hl.1 ⟨Nat.le_of_ble_eq_true rfl, Nat.le_of_ble_eq_true rfl⟩ hcs dL_law_244 (fun H locs X => ?_)
  refine lv_icmp_eq (tgt := 1274) hx hb dL_law_247 (by decide) (fun _ => ?_) (fun h => absurd rfl h)
  exact next μ1 μM1 νM1 H locs hR1 X
set_option maxRecDepth 20000 in
theorem lk_point {p : Program} {l : Launch} {e : Env} {s : State} {m : MethodId} {below : List Frame} {meth : Method} {c : Code} {D : va_G} {cy : Nat → ClassId} {ad5 ad6 : Nat → Nat} {b L : Nat} {xs : Nat → Int32} {μ μM : Mem} {ν νM : Lem} {H : Heap} {locs : List Loc} {ls : Array Slot} {i cells slots : Nat} (C : LC p s m meth c D cy ad5 ad6 b L xs) (hR : RR μ μM) (X : LW s D cy ad5 ad6 μ ν μM νM H locs) (hi : i + 6 ≤ L) (hl : lv_has ls 4 (lLoc ad5 ad6 b i)) (hcs : cells ≤ 600000 ∧ slots ≤ 7302250)
    (next : ∀ (μ1 μM1 : Mem) (νM1 : Lem) (H1 : Heap) (locs1 : List Loc), RR μ1 μM1 → LW s D cy ad5 ad6 μ1 ν μM1 νM1 H1 locs1 → W p l e room_1 s m #[Value.ref b] below meth c H1 locs1 cells slots (lw_Z below #[Value.ref b] s) (F0 m 1274 ls [])) : W p l e room_1 s m #[Value.ref b] below meth c H locs cells slots (lw_Z below #[Value.ref b] s) (F0 m 252 ls []) := by
  have hx := C.1.1.1
  have hb := C.1.1.2.1
  obtain ⟨r, μ1, μM1, νM1, c5, c6, hR1⟩ := bo_point ν νM hR (xs (i + 1)) (xs (i + 2)) (xs (i + 3))
  refine lv_aload_n hx hb dL_law_252 rfl (lv_at hl 2 rfl) ?_
  refine rArg C X hi hl 1 (by decide) rfl dL_law_253 dL_law_254 dL_law_255 dL_law_256 dL_law_257 ?_
  refine rArg C X hi hl 2 (by decide) rfl dL_law_258 dL_law_259 dL_law_260 dL_law_261 dL_law_262 ?_
  refine rArg C X hi hl 3 (by decide) rfl dL_law_263 dL_law_264 dL_law_265 dL_law_266 dL_law_267 ?_
  refine rK5I (As := [.int (xs (i + 1)), .int (xs (i + 2)), .int (xs (i + 3))]) (rest := []) c5 rfl lX5_point k_246 rfl rfl C X rfl (by decide) hl.1 ⟨Nat.le_of_ble_eq_true rfl, Nat.le_of_ble_eq_true rfl⟩ hcs dL_law_268 (fun H locs X => ?_)
  refine lv_aload_n hx hb dL_law_271 rfl (lv_at hl 1 rfl) ?_
  refine rArg C X hi hl 1 (by decide) rfl dL_law_272 dL_law_273 dL_law_274 dL_law_275 dL_law_276 ?_
  refine rArg C X hi hl 2 (by decide) rfl dL_law_277 dL_law_278 dL_law_279 dL_law_280 dL_law_281 ?_
  refine rArg C X hi hl 3 (by decide) rfl dL_law_282 dL_law_283 dL_law_284 dL_law_285 dL_law_286 ?_
  refine rK6I (As := [.int (xs (i + 1)), .int (xs (i + 2)), .int (xs (i + 3))]) (rest := [.int r]) c6 rfl lX6_point k_940 rfl rfl C X rfl (by simp [Value.category]) hl.1 ⟨Nat.le_of_ble_eq_true rfl, Nat.le_of_ble_eq_true rfl⟩ hcs dL_law_287 (fun H locs X => ?_)
  refine lv_icmp_eq (tgt := 1274) hx hb dL_law_290 (by decide) (fun _ => ?_) (fun h => absurd rfl h)
  exact next μ1 μM1 νM1 H locs hR1 X
set_option maxRecDepth 20000 in
theorem lk_clear {p : Program} {l : Launch} {e : Env} {s : State} {m : MethodId} {below : List Frame} {meth : Method} {c : Code} {D : va_G} {cy : Nat → ClassId} {ad5 ad6 : Nat → Nat} {b L : Nat} {xs : Nat → Int32} {μ μM : Mem} {ν νM : Lem} {H : Heap} {locs : List Loc} {ls : Array Slot} {i cells slots : Nat} (C : LC p s m meth c D cy ad5 ad6 b L xs) (hR : RR μ μM) (X : LW s D cy ad5 ad6 μ ν μM νM H locs) (hi : i + 6 ≤ L) (hl : lv_has ls 4 (lLoc ad5 ad6 b i)) (hcs : cells ≤ 600000 ∧ slots ≤ 7302250)
    (next : ∀ (μ1 μM1 : Mem) (νM1 : Lem) (H1 : Heap) (locs1 : List Loc), RR μ1 μM1 → LW s D cy ad5 ad6 μ1 ν μM1 νM1 H1 locs1 → W p l e room_1 s m #[Value.ref b] below meth c H1 locs1 cells slots (lw_Z below #[Value.ref b] s) (F0 m 1274 ls [])) : W p l e room_1 s m #[Value.ref b] below meth c H locs cells slots (lw_Z below #[Value.ref b] s) (F0 m 295 ls []) := by
  have hx := C.1.1.1
  have hb := C.1.1.2.1
  obtain ⟨r, μ1, μM1, νM1, c5, c6, hR1⟩ := bo_clear ν νM hR (xs (i + 1))
  refine lv_aload_n hx hb dL_law_295 rfl (lv_at hl 2 rfl) ?_
  refine rArg C X hi hl 1 (by decide) rfl dL_law_296 dL_law_297 dL_law_298 dL_law_299 dL_law_300 ?_
  refine rK5I (As := [.int (xs (i + 1))]) (rest := []) c5 rfl lX5_clear k_265 rfl rfl C X rfl (by decide) hl.1 ⟨Nat.le_of_ble_eq_true rfl, Nat.le_of_ble_eq_true rfl⟩ hcs dL_law_301 (fun H locs X => ?_)
  refine lv_aload_n hx hb dL_law_304 rfl (lv_at hl 1 rfl) ?_
  refine rArg C X hi hl 1 (by decide) rfl dL_law_305 dL_law_306 dL_law_307 dL_law_308 dL_law_309 ?_
  refine rK6I (As := [.int (xs (i + 1))]) (rest := [.int r]) c6 rfl lX6_clear k_948 rfl rfl C X rfl (by simp [Value.category]) hl.1 ⟨Nat.le_of_ble_eq_true rfl, Nat.le_of_ble_eq_true rfl⟩ hcs dL_law_310 (fun H locs X => ?_)
  refine lv_icmp_eq (tgt := 1274) hx hb dL_law_313 (by decide) (fun _ => ?_) (fun h => absurd rfl h)
  exact next μ1 μM1 νM1 H locs hR1 X
set_option maxRecDepth 20000 in
theorem lk_told {p : Program} {l : Launch} {e : Env} {s : State} {m : MethodId} {below : List Frame} {meth : Method} {c : Code} {D : va_G} {cy : Nat → ClassId} {ad5 ad6 : Nat → Nat} {b L : Nat} {xs : Nat → Int32} {μ μM : Mem} {ν νM : Lem} {H : Heap} {locs : List Loc} {ls : Array Slot} {i cells slots : Nat} (C : LC p s m meth c D cy ad5 ad6 b L xs) (hR : RR μ μM) (X : LW s D cy ad5 ad6 μ ν μM νM H locs) (hi : i + 6 ≤ L) (hl : lv_has ls 4 (lLoc ad5 ad6 b i)) (hcs : cells ≤ 600000 ∧ slots ≤ 7302250)
    (next : ∀ (μ1 μM1 : Mem) (νM1 : Lem) (H1 : Heap) (locs1 : List Loc), RR μ1 μM1 → LW s D cy ad5 ad6 μ1 ν μM1 νM1 H1 locs1 → W p l e room_1 s m #[Value.ref b] below meth c H1 locs1 cells slots (lw_Z below #[Value.ref b] s) (F0 m 1274 ls [])) : W p l e room_1 s m #[Value.ref b] below meth c H locs cells slots (lw_Z below #[Value.ref b] s) (F0 m 318 ls []) := by
  have hx := C.1.1.1
  have hb := C.1.1.2.1
  obtain ⟨r, μ1, μM1, νM1, c5, c6, hR1⟩ := bo_told ν νM hR (xs (i + 1)) (xs (i + 2))
  refine lv_aload_n hx hb dL_law_318 rfl (lv_at hl 2 rfl) ?_
  refine rArg C X hi hl 1 (by decide) rfl dL_law_319 dL_law_320 dL_law_321 dL_law_322 dL_law_323 ?_
  refine rArg C X hi hl 2 (by decide) rfl dL_law_324 dL_law_325 dL_law_326 dL_law_327 dL_law_328 ?_
  refine rK5I (As := [.int (xs (i + 1)), .int (xs (i + 2))]) (rest := []) c5 rfl lX5_told k_269 rfl rfl C X rfl (by decide) hl.1 ⟨Nat.le_of_ble_eq_true rfl, Nat.le_of_ble_eq_true rfl⟩ hcs dL_law_329 (fun H locs X => ?_)
  refine lv_aload_n hx hb dL_law_332 rfl (lv_at hl 1 rfl) ?_
  refine rArg C X hi hl 1 (by decide) rfl dL_law_333 dL_law_334 dL_law_335 dL_law_336 dL_law_337 ?_
  refine rArg C X hi hl 2 (by decide) rfl dL_law_338 dL_law_339 dL_law_340 dL_law_341 dL_law_342 ?_
  refine rK6I (As := [.int (xs (i + 1)), .int (xs (i + 2))]) (rest := [.int r]) c6 rfl lX6_told k_952 rfl rfl C X rfl (by simp [Value.category]) hl.1 ⟨Nat.le_of_ble_eq_true rfl, Nat.le_of_ble_eq_true rfl⟩ hcs dL_law_343 (fun H locs X => ?_)
  refine lv_icmp_eq (tgt := 1274) hx hb dL_law_346 (by decide) (fun _ => ?_) (fun h => absurd rfl h)
  exact next μ1 μM1 νM1 H locs hR1 X
set_option maxRecDepth 20000 in
theorem lk_feed {p : Program} {l : Launch} {e : Env} {s : State} {m : MethodId} {below : List Frame} {meth : Method} {c : Code} {D : va_G} {cy : Nat → ClassId} {ad5 ad6 : Nat → Nat} {b L : Nat} {xs : Nat → Int32} {μ μM : Mem} {ν νM : Lem} {H : Heap} {locs : List Loc} {ls : Array Slot} {i cells slots : Nat} (C : LC p s m meth c D cy ad5 ad6 b L xs) (hR : RR μ μM) (X : LW s D cy ad5 ad6 μ ν μM νM H locs) (hi : i + 6 ≤ L) (hl : lv_has ls 4 (lLoc ad5 ad6 b i)) (hcs : cells ≤ 600000 ∧ slots ≤ 7302250)
    (next : ∀ (μ1 μM1 : Mem) (νM1 : Lem) (H1 : Heap) (locs1 : List Loc), RR μ1 μM1 → LW s D cy ad5 ad6 μ1 ν μM1 νM1 H1 locs1 → W p l e room_1 s m #[Value.ref b] below meth c H1 locs1 cells slots (lw_Z below #[Value.ref b] s) (F0 m 1274 ls [])) : W p l e room_1 s m #[Value.ref b] below meth c H locs cells slots (lw_Z below #[Value.ref b] s) (F0 m 351 ls []) := by
  have hx := C.1.1.1
  have hb := C.1.1.2.1
  obtain ⟨r, μ1, μM1, νM1, c5, c6, hR1⟩ := bo_feed ν νM hR (xs (i + 1))
  refine lv_aload_n hx hb dL_law_351 rfl (lv_at hl 2 rfl) ?_
  refine rArg C X hi hl 1 (by decide) rfl dL_law_352 dL_law_353 dL_law_354 dL_law_355 dL_law_356 ?_
  refine rK5I (As := [.int (xs (i + 1))]) (rest := []) c5 rfl lX5_feed k_273 rfl rfl C X rfl (by decide) hl.1 ⟨Nat.le_of_ble_eq_true rfl, Nat.le_of_ble_eq_true rfl⟩ hcs dL_law_357 (fun H locs X => ?_)
  refine lv_aload_n hx hb dL_law_360 rfl (lv_at hl 1 rfl) ?_
  refine rArg C X hi hl 1 (by decide) rfl dL_law_361 dL_law_362 dL_law_363 dL_law_364 dL_law_365 ?_
  refine rK6I (As := [.int (xs (i + 1))]) (rest := [.int r]) c6 rfl lX6_feed k_956 rfl rfl C X rfl (by simp [Value.category]) hl.1 ⟨Nat.le_of_ble_eq_true rfl, Nat.le_of_ble_eq_true rfl⟩ hcs dL_law_366 (fun H locs X => ?_)
  refine lv_icmp_eq (tgt := 1274) hx hb dL_law_369 (by decide) (fun _ => ?_) (fun h => absurd rfl h)
  exact next μ1 μM1 νM1 H locs hR1 X
set_option maxRecDepth 20000 in
theorem lk_text {p : Program} {l : Launch} {e : Env} {s : State} {m : MethodId} {below : List Frame} {meth : Method} {c : Code} {D : va_G} {cy : Nat → ClassId} {ad5 ad6 : Nat → Nat} {b L : Nat} {xs : Nat → Int32} {μ μM : Mem} {ν νM : Lem} {H : Heap} {locs : List Loc} {ls : Array Slot} {i cells slots : Nat} (C : LC p s m meth c D cy ad5 ad6 b L xs) (hR : RR μ μM) (X : LW s D cy ad5 ad6 μ ν μM νM H locs) (hi : i + 6 ≤ L) (hl : lv_has ls 4 (lLoc ad5 ad6 b i)) (hcs : cells ≤ 600000 ∧ slots ≤ 7302250)
    (next : ∀ (μ1 μM1 : Mem) (νM1 : Lem) (H1 : Heap) (locs1 : List Loc), RR μ1 μM1 → LW s D cy ad5 ad6 μ1 ν μM1 νM1 H1 locs1 → W p l e room_1 s m #[Value.ref b] below meth c H1 locs1 cells slots (lw_Z below #[Value.ref b] s) (F0 m 1274 ls [])) : W p l e room_1 s m #[Value.ref b] below meth c H locs cells slots (lw_Z below #[Value.ref b] s) (F0 m 374 ls []) := by
  have hx := C.1.1.1
  have hb := C.1.1.2.1
  obtain ⟨r, μ1, μM1, νM1, c5, c6, hR1⟩ := bo_text ν νM hR
  refine lv_aload_n hx hb dL_law_374 rfl (lv_at hl 2 rfl) ?_
  refine rK5I (As := []) (rest := []) c5 rfl lX5_text k_281 rfl rfl C X rfl (by decide) hl.1 ⟨Nat.le_of_ble_eq_true rfl, Nat.le_of_ble_eq_true rfl⟩ hcs dL_law_375 (fun H locs X => ?_)
  refine lv_aload_n hx hb dL_law_378 rfl (lv_at hl 1 rfl) ?_
  refine rK6I (As := []) (rest := [.int r]) c6 rfl lX6_text k_961 rfl rfl C X rfl (by simp [Value.category]) hl.1 ⟨Nat.le_of_ble_eq_true rfl, Nat.le_of_ble_eq_true rfl⟩ hcs dL_law_379 (fun H locs X => ?_)
  refine lv_icmp_eq (tgt := 1274) hx hb dL_law_382 (by decide) (fun _ => ?_) (fun h => absurd rfl h)
  exact next μ1 μM1 νM1 H locs hR1 X
set_option maxRecDepth 20000 in
theorem lk_force {p : Program} {l : Launch} {e : Env} {s : State} {m : MethodId} {below : List Frame} {meth : Method} {c : Code} {D : va_G} {cy : Nat → ClassId} {ad5 ad6 : Nat → Nat} {b L : Nat} {xs : Nat → Int32} {μ μM : Mem} {ν νM : Lem} {H : Heap} {locs : List Loc} {ls : Array Slot} {i cells slots : Nat} (C : LC p s m meth c D cy ad5 ad6 b L xs) (hR : RR μ μM) (X : LW s D cy ad5 ad6 μ ν μM νM H locs) (hi : i + 6 ≤ L) (hl : lv_has ls 4 (lLoc ad5 ad6 b i)) (hcs : cells ≤ 600000 ∧ slots ≤ 7302250)
    (next : ∀ (μ1 μM1 : Mem) (νM1 : Lem) (H1 : Heap) (locs1 : List Loc), RR μ1 μM1 → LW s D cy ad5 ad6 μ1 ν μM1 νM1 H1 locs1 → W p l e room_1 s m #[Value.ref b] below meth c H1 locs1 cells slots (lw_Z below #[Value.ref b] s) (F0 m 1274 ls [])) : W p l e room_1 s m #[Value.ref b] below meth c H locs cells slots (lw_Z below #[Value.ref b] s) (F0 m 387 ls []) := by
  have hx := C.1.1.1
  have hb := C.1.1.2.1
  obtain ⟨r, μ1, μM1, νM1, c5, c6, hR1⟩ := bo_force ν νM hR (xs (i + 1))
  refine lv_aload_n hx hb dL_law_387 rfl (lv_at hl 2 rfl) ?_
  refine rArg C X hi hl 1 (by decide) rfl dL_law_388 dL_law_389 dL_law_390 dL_law_391 dL_law_392 ?_
  refine rK5I (As := [.int (xs (i + 1))]) (rest := []) c5 rfl lX5_force k_446 rfl rfl C X rfl (by decide) hl.1 ⟨Nat.le_of_ble_eq_true rfl, Nat.le_of_ble_eq_true rfl⟩ hcs dL_law_393 (fun H locs X => ?_)
  refine lv_aload_n hx hb dL_law_396 rfl (lv_at hl 1 rfl) ?_
  refine rArg C X hi hl 1 (by decide) rfl dL_law_397 dL_law_398 dL_law_399 dL_law_400 dL_law_401 ?_
  refine rK6I (As := [.int (xs (i + 1))]) (rest := [.int r]) c6 rfl lX6_force k_1155 rfl rfl C X rfl (by simp [Value.category]) hl.1 ⟨Nat.le_of_ble_eq_true rfl, Nat.le_of_ble_eq_true rfl⟩ hcs dL_law_402 (fun H locs X => ?_)
  refine lv_icmp_eq (tgt := 1274) hx hb dL_law_405 (by decide) (fun _ => ?_) (fun h => absurd rfl h)
  exact next μ1 μM1 νM1 H locs hR1 X
set_option maxRecDepth 20000 in
theorem lk_at {p : Program} {l : Launch} {e : Env} {s : State} {m : MethodId} {below : List Frame} {meth : Method} {c : Code} {D : va_G} {cy : Nat → ClassId} {ad5 ad6 : Nat → Nat} {b L : Nat} {xs : Nat → Int32} {μ μM : Mem} {ν νM : Lem} {H : Heap} {locs : List Loc} {ls : Array Slot} {i cells slots : Nat} (C : LC p s m meth c D cy ad5 ad6 b L xs) (hR : RR μ μM) (X : LW s D cy ad5 ad6 μ ν μM νM H locs) (hi : i + 6 ≤ L) (hl : lv_has ls 4 (lLoc ad5 ad6 b i)) (hcs : cells ≤ 600000 ∧ slots ≤ 7302250)
    (next : ∀ (μ1 μM1 : Mem) (νM1 : Lem) (H1 : Heap) (locs1 : List Loc), RR μ1 μM1 → LW s D cy ad5 ad6 μ1 ν μM1 νM1 H1 locs1 → W p l e room_1 s m #[Value.ref b] below meth c H1 locs1 cells slots (lw_Z below #[Value.ref b] s) (F0 m 1274 ls [])) : W p l e room_1 s m #[Value.ref b] below meth c H locs cells slots (lw_Z below #[Value.ref b] s) (F0 m 410 ls []) := by
  have hx := C.1.1.1
  have hb := C.1.1.2.1
  obtain ⟨r, μ1, μM1, νM1, c5, c6, hR1⟩ := bo_at ν νM hR (xs (i + 1)) (xs (i + 2))
  refine lv_aload_n hx hb dL_law_410 rfl (lv_at hl 2 rfl) ?_
  refine rArg C X hi hl 1 (by decide) rfl dL_law_411 dL_law_412 dL_law_413 dL_law_414 dL_law_415 ?_
  refine rArg C X hi hl 2 (by decide) rfl dL_law_416 dL_law_417 dL_law_418 dL_law_419 dL_law_420 ?_
  refine rK5I (As := [.int (xs (i + 1)), .int (xs (i + 2))]) (rest := []) c5 rfl lX5_at k_450 rfl rfl C X rfl (by decide) hl.1 ⟨Nat.le_of_ble_eq_true rfl, Nat.le_of_ble_eq_true rfl⟩ hcs dL_law_421 (fun H locs X => ?_)
  refine lv_aload_n hx hb dL_law_424 rfl (lv_at hl 1 rfl) ?_
  refine rArg C X hi hl 1 (by decide) rfl dL_law_425 dL_law_426 dL_law_427 dL_law_428 dL_law_429 ?_
  refine rArg C X hi hl 2 (by decide) rfl dL_law_430 dL_law_431 dL_law_432 dL_law_433 dL_law_434 ?_
  refine rK6I (As := [.int (xs (i + 1)), .int (xs (i + 2))]) (rest := [.int r]) c6 rfl lX6_at k_1159 rfl rfl C X rfl (by simp [Value.category]) hl.1 ⟨Nat.le_of_ble_eq_true rfl, Nat.le_of_ble_eq_true rfl⟩ hcs dL_law_435 (fun H locs X => ?_)
  refine lv_icmp_eq (tgt := 1274) hx hb dL_law_438 (by decide) (fun _ => ?_) (fun h => absurd rfl h)
  exact next μ1 μM1 νM1 H locs hR1 X
set_option maxRecDepth 20000 in
theorem lk_asks {p : Program} {l : Launch} {e : Env} {s : State} {m : MethodId} {below : List Frame} {meth : Method} {c : Code} {D : va_G} {cy : Nat → ClassId} {ad5 ad6 : Nat → Nat} {b L : Nat} {xs : Nat → Int32} {μ μM : Mem} {ν νM : Lem} {H : Heap} {locs : List Loc} {ls : Array Slot} {i cells slots : Nat} (C : LC p s m meth c D cy ad5 ad6 b L xs) (hR : RR μ μM) (X : LW s D cy ad5 ad6 μ ν μM νM H locs) (hi : i + 6 ≤ L) (hl : lv_has ls 4 (lLoc ad5 ad6 b i)) (hcs : cells ≤ 600000 ∧ slots ≤ 7302250)
    (next : ∀ (μ1 μM1 : Mem) (νM1 : Lem) (H1 : Heap) (locs1 : List Loc), RR μ1 μM1 → LW s D cy ad5 ad6 μ1 ν μM1 νM1 H1 locs1 → W p l e room_1 s m #[Value.ref b] below meth c H1 locs1 cells slots (lw_Z below #[Value.ref b] s) (F0 m 1274 ls [])) : W p l e room_1 s m #[Value.ref b] below meth c H locs cells slots (lw_Z below #[Value.ref b] s) (F0 m 443 ls []) := by
  have hx := C.1.1.1
  have hb := C.1.1.2.1
  obtain ⟨r, μ1, μM1, νM1, c5, c6, hR1⟩ := bo_asks ν νM hR (xs (i + 1)) (xs (i + 2)) (xs (i + 3))
  refine lv_aload_n hx hb dL_law_443 rfl (lv_at hl 2 rfl) ?_
  refine rArg C X hi hl 1 (by decide) rfl dL_law_444 dL_law_445 dL_law_446 dL_law_447 dL_law_448 ?_
  refine rArg C X hi hl 2 (by decide) rfl dL_law_449 dL_law_450 dL_law_451 dL_law_452 dL_law_453 ?_
  refine rArg C X hi hl 3 (by decide) rfl dL_law_454 dL_law_455 dL_law_456 dL_law_457 dL_law_458 ?_
  refine rK5I (As := [.int (xs (i + 1)), .int (xs (i + 2)), .int (xs (i + 3))]) (rest := []) c5 rfl lX5_asks k_482 rfl rfl C X rfl (by decide) hl.1 ⟨Nat.le_of_ble_eq_true rfl, Nat.le_of_ble_eq_true rfl⟩ hcs dL_law_459 (fun H locs X => ?_)
  refine lv_aload_n hx hb dL_law_462 rfl (lv_at hl 1 rfl) ?_
  refine rArg C X hi hl 1 (by decide) rfl dL_law_463 dL_law_464 dL_law_465 dL_law_466 dL_law_467 ?_
  refine rArg C X hi hl 2 (by decide) rfl dL_law_468 dL_law_469 dL_law_470 dL_law_471 dL_law_472 ?_
  refine rArg C X hi hl 3 (by decide) rfl dL_law_473 dL_law_474 dL_law_475 dL_law_476 dL_law_477 ?_
  refine rK6I (As := [.int (xs (i + 1)), .int (xs (i + 2)), .int (xs (i + 3))]) (rest := [.int r]) c6 rfl lX6_asks k_1178 rfl rfl C X rfl (by simp [Value.category]) hl.1 ⟨Nat.le_of_ble_eq_true rfl, Nat.le_of_ble_eq_true rfl⟩ hcs dL_law_478 (fun H locs X => ?_)
  refine lv_icmp_eq (tgt := 1274) hx hb dL_law_481 (by decide) (fun _ => ?_) (fun h => absurd rfl h)
  exact next μ1 μM1 νM1 H locs hR1 X
set_option maxRecDepth 20000 in
theorem lk_length {p : Program} {l : Launch} {e : Env} {s : State} {m : MethodId} {below : List Frame} {meth : Method} {c : Code} {D : va_G} {cy : Nat → ClassId} {ad5 ad6 : Nat → Nat} {b L : Nat} {xs : Nat → Int32} {μ μM : Mem} {ν νM : Lem} {H : Heap} {locs : List Loc} {ls : Array Slot} {i cells slots : Nat} (C : LC p s m meth c D cy ad5 ad6 b L xs) (hR : RR μ μM) (X : LW s D cy ad5 ad6 μ ν μM νM H locs) (hi : i + 6 ≤ L) (hl : lv_has ls 4 (lLoc ad5 ad6 b i)) (hcs : cells ≤ 600000 ∧ slots ≤ 7302250)
    (next : ∀ (μ1 μM1 : Mem) (νM1 : Lem) (H1 : Heap) (locs1 : List Loc), RR μ1 μM1 → LW s D cy ad5 ad6 μ1 ν μM1 νM1 H1 locs1 → W p l e room_1 s m #[Value.ref b] below meth c H1 locs1 cells slots (lw_Z below #[Value.ref b] s) (F0 m 1274 ls [])) : W p l e room_1 s m #[Value.ref b] below meth c H locs cells slots (lw_Z below #[Value.ref b] s) (F0 m 486 ls []) := by
  have hx := C.1.1.1
  have hb := C.1.1.2.1
  obtain ⟨r, μ1, μM1, νM1, c5, c6, hR1⟩ := bo_length ν νM hR (xs (i + 1)) (xs (i + 2)) (xs (i + 3))
  refine lv_aload_n hx hb dL_law_486 rfl (lv_at hl 2 rfl) ?_
  refine rArg C X hi hl 1 (by decide) rfl dL_law_487 dL_law_488 dL_law_489 dL_law_490 dL_law_491 ?_
  refine rArg C X hi hl 2 (by decide) rfl dL_law_492 dL_law_493 dL_law_494 dL_law_495 dL_law_496 ?_
  refine rArg C X hi hl 3 (by decide) rfl dL_law_497 dL_law_498 dL_law_499 dL_law_500 dL_law_501 ?_
  refine rK5I (As := [.int (xs (i + 1)), .int (xs (i + 2)), .int (xs (i + 3))]) (rest := []) c5 rfl lX5_length k_508 rfl rfl C X rfl (by decide) hl.1 ⟨Nat.le_of_ble_eq_true rfl, Nat.le_of_ble_eq_true rfl⟩ hcs dL_law_502 (fun H locs X => ?_)
  refine lv_aload_n hx hb dL_law_505 rfl (lv_at hl 1 rfl) ?_
  refine rArg C X hi hl 1 (by decide) rfl dL_law_506 dL_law_507 dL_law_508 dL_law_509 dL_law_510 ?_
  refine rArg C X hi hl 2 (by decide) rfl dL_law_511 dL_law_512 dL_law_513 dL_law_514 dL_law_515 ?_
  refine rArg C X hi hl 3 (by decide) rfl dL_law_516 dL_law_517 dL_law_518 dL_law_519 dL_law_520 ?_
  refine rK6I (As := [.int (xs (i + 1)), .int (xs (i + 2)), .int (xs (i + 3))]) (rest := [.int r]) c6 rfl lX6_length k_1190 rfl rfl C X rfl (by simp [Value.category]) hl.1 ⟨Nat.le_of_ble_eq_true rfl, Nat.le_of_ble_eq_true rfl⟩ hcs dL_law_521 (fun H locs X => ?_)
  refine lv_icmp_eq (tgt := 1274) hx hb dL_law_524 (by decide) (fun _ => ?_) (fun h => absurd rfl h)
  exact next μ1 μM1 νM1 H locs hR1 X
set_option maxRecDepth 20000 in
theorem lk_mean {p : Program} {l : Launch} {e : Env} {s : State} {m : MethodId} {below : List Frame} {meth : Method} {c : Code} {D : va_G} {cy : Nat → ClassId} {ad5 ad6 : Nat → Nat} {b L : Nat} {xs : Nat → Int32} {μ μM : Mem} {ν νM : Lem} {H : Heap} {locs : List Loc} {ls : Array Slot} {i cells slots : Nat} (C : LC p s m meth c D cy ad5 ad6 b L xs) (hR : RR μ μM) (X : LW s D cy ad5 ad6 μ ν μM νM H locs) (hi : i + 6 ≤ L) (hl : lv_has ls 4 (lLoc ad5 ad6 b i)) (hcs : cells ≤ 600000 ∧ slots ≤ 7302250)
    (next : ∀ (μ1 μM1 : Mem) (νM1 : Lem) (H1 : Heap) (locs1 : List Loc), RR μ1 μM1 → LW s D cy ad5 ad6 μ1 ν μM1 νM1 H1 locs1 → W p l e room_1 s m #[Value.ref b] below meth c H1 locs1 cells slots (lw_Z below #[Value.ref b] s) (F0 m 1274 ls [])) : W p l e room_1 s m #[Value.ref b] below meth c H locs cells slots (lw_Z below #[Value.ref b] s) (F0 m 529 ls []) := by
  have hx := C.1.1.1
  have hb := C.1.1.2.1
  obtain ⟨r, μ1, μM1, νM1, c5, c6, hR1⟩ := bo_mean ν νM hR (xs (i + 1)) (xs (i + 2))
  refine lv_aload_n hx hb dL_law_529 rfl (lv_at hl 2 rfl) ?_
  refine rArg C X hi hl 1 (by decide) rfl dL_law_530 dL_law_531 dL_law_532 dL_law_533 dL_law_534 ?_
  refine rArg C X hi hl 2 (by decide) rfl dL_law_535 dL_law_536 dL_law_537 dL_law_538 dL_law_539 ?_
  refine rK5I (As := [.int (xs (i + 1)), .int (xs (i + 2))]) (rest := []) c5 rfl lX5_mean k_516 rfl rfl C X rfl (by decide) hl.1 ⟨Nat.le_of_ble_eq_true rfl, Nat.le_of_ble_eq_true rfl⟩ hcs dL_law_540 (fun H locs X => ?_)
  refine lv_aload_n hx hb dL_law_543 rfl (lv_at hl 1 rfl) ?_
  refine rArg C X hi hl 1 (by decide) rfl dL_law_544 dL_law_545 dL_law_546 dL_law_547 dL_law_548 ?_
  refine rArg C X hi hl 2 (by decide) rfl dL_law_549 dL_law_550 dL_law_551 dL_law_552 dL_law_553 ?_
  refine rK6I (As := [.int (xs (i + 1)), .int (xs (i + 2))]) (rest := [.int r]) c6 rfl lX6_mean k_1198 rfl rfl C X rfl (by simp [Value.category]) hl.1 ⟨Nat.le_of_ble_eq_true rfl, Nat.le_of_ble_eq_true rfl⟩ hcs dL_law_554 (fun H locs X => ?_)
  refine lv_icmp_eq (tgt := 1274) hx hb dL_law_557 (by decide) (fun _ => ?_) (fun h => absurd rfl h)
  exact next μ1 μM1 νM1 H locs hR1 X
set_option maxRecDepth 20000 in
theorem lk_half {p : Program} {l : Launch} {e : Env} {s : State} {m : MethodId} {below : List Frame} {meth : Method} {c : Code} {D : va_G} {cy : Nat → ClassId} {ad5 ad6 : Nat → Nat} {b L : Nat} {xs : Nat → Int32} {μ μM : Mem} {ν νM : Lem} {H : Heap} {locs : List Loc} {ls : Array Slot} {i cells slots : Nat} (C : LC p s m meth c D cy ad5 ad6 b L xs) (hR : RR μ μM) (X : LW s D cy ad5 ad6 μ ν μM νM H locs) (hi : i + 6 ≤ L) (hl : lv_has ls 4 (lLoc ad5 ad6 b i)) (hcs : cells ≤ 600000 ∧ slots ≤ 7302250)
    (next : ∀ (μ1 μM1 : Mem) (νM1 : Lem) (H1 : Heap) (locs1 : List Loc), RR μ1 μM1 → LW s D cy ad5 ad6 μ1 ν μM1 νM1 H1 locs1 → W p l e room_1 s m #[Value.ref b] below meth c H1 locs1 cells slots (lw_Z below #[Value.ref b] s) (F0 m 1274 ls [])) : W p l e room_1 s m #[Value.ref b] below meth c H locs cells slots (lw_Z below #[Value.ref b] s) (F0 m 562 ls []) := by
  have hx := C.1.1.1
  have hb := C.1.1.2.1
  obtain ⟨r, μ1, μM1, νM1, c5, c6, hR1⟩ := bo_half ν νM hR (xs (i + 1)) (xs (i + 2))
  refine lv_aload_n hx hb dL_law_562 rfl (lv_at hl 2 rfl) ?_
  refine rArg C X hi hl 1 (by decide) rfl dL_law_563 dL_law_564 dL_law_565 dL_law_566 dL_law_567 ?_
  refine rArg C X hi hl 2 (by decide) rfl dL_law_568 dL_law_569 dL_law_570 dL_law_571 dL_law_572 ?_
  refine rK5I (As := [.int (xs (i + 1)), .int (xs (i + 2))]) (rest := []) c5 rfl lX5_half k_528 rfl rfl C X rfl (by decide) hl.1 ⟨Nat.le_of_ble_eq_true rfl, Nat.le_of_ble_eq_true rfl⟩ hcs dL_law_573 (fun H locs X => ?_)
  refine lv_aload_n hx hb dL_law_576 rfl (lv_at hl 1 rfl) ?_
  refine rArg C X hi hl 1 (by decide) rfl dL_law_577 dL_law_578 dL_law_579 dL_law_580 dL_law_581 ?_
  refine rArg C X hi hl 2 (by decide) rfl dL_law_582 dL_law_583 dL_law_584 dL_law_585 dL_law_586 ?_
  refine rK6I (As := [.int (xs (i + 1)), .int (xs (i + 2))]) (rest := [.int r]) c6 rfl lX6_half k_1210 rfl rfl C X rfl (by simp [Value.category]) hl.1 ⟨Nat.le_of_ble_eq_true rfl, Nat.le_of_ble_eq_true rfl⟩ hcs dL_law_587 (fun H locs X => ?_)
  refine lv_icmp_eq (tgt := 1274) hx hb dL_law_590 (by decide) (fun _ => ?_) (fun h => absurd rfl h)
  exact next μ1 μM1 νM1 H locs hR1 X
set_option maxRecDepth 20000 in
theorem lk_meet {p : Program} {l : Launch} {e : Env} {s : State} {m : MethodId} {below : List Frame} {meth : Method} {c : Code} {D : va_G} {cy : Nat → ClassId} {ad5 ad6 : Nat → Nat} {b L : Nat} {xs : Nat → Int32} {μ μM : Mem} {ν νM : Lem} {H : Heap} {locs : List Loc} {ls : Array Slot} {i cells slots : Nat} (C : LC p s m meth c D cy ad5 ad6 b L xs) (hR : RR μ μM) (X : LW s D cy ad5 ad6 μ ν μM νM H locs) (hi : i + 6 ≤ L) (hl : lv_has ls 4 (lLoc ad5 ad6 b i)) (hcs : cells ≤ 600000 ∧ slots ≤ 7302250)
    (next : ∀ (μ1 μM1 : Mem) (νM1 : Lem) (H1 : Heap) (locs1 : List Loc), RR μ1 μM1 → LW s D cy ad5 ad6 μ1 ν μM1 νM1 H1 locs1 → W p l e room_1 s m #[Value.ref b] below meth c H1 locs1 cells slots (lw_Z below #[Value.ref b] s) (F0 m 1274 ls [])) : W p l e room_1 s m #[Value.ref b] below meth c H locs cells slots (lw_Z below #[Value.ref b] s) (F0 m 595 ls []) := by
  have hx := C.1.1.1
  have hb := C.1.1.2.1
  obtain ⟨r, μ1, μM1, νM1, c5, c6, hR1⟩ := bo_meet ν νM hR (xs (i + 1)) (xs (i + 2)) (xs (i + 3))
  refine lv_aload_n hx hb dL_law_595 rfl (lv_at hl 2 rfl) ?_
  refine rArg C X hi hl 1 (by decide) rfl dL_law_596 dL_law_597 dL_law_598 dL_law_599 dL_law_600 ?_
  refine rArg C X hi hl 2 (by decide) rfl dL_law_601 dL_law_602 dL_law_603 dL_law_604 dL_law_605 ?_
  refine rArg C X hi hl 3 (by decide) rfl dL_law_606 dL_law_607 dL_law_608 dL_law_609 dL_law_610 ?_
  refine rK5I (As := [.int (xs (i + 1)), .int (xs (i + 2)), .int (xs (i + 3))]) (rest := []) c5 rfl lX5_meet k_540 rfl rfl C X rfl (by decide) hl.1 ⟨Nat.le_of_ble_eq_true rfl, Nat.le_of_ble_eq_true rfl⟩ hcs dL_law_611 (fun H locs X => ?_)
  refine lv_aload_n hx hb dL_law_614 rfl (lv_at hl 1 rfl) ?_
  refine rArg C X hi hl 1 (by decide) rfl dL_law_615 dL_law_616 dL_law_617 dL_law_618 dL_law_619 ?_
  refine rArg C X hi hl 2 (by decide) rfl dL_law_620 dL_law_621 dL_law_622 dL_law_623 dL_law_624 ?_
  refine rArg C X hi hl 3 (by decide) rfl dL_law_625 dL_law_626 dL_law_627 dL_law_628 dL_law_629 ?_
  refine rK6I (As := [.int (xs (i + 1)), .int (xs (i + 2)), .int (xs (i + 3))]) (rest := [.int r]) c6 rfl lX6_meet k_1214 rfl rfl C X rfl (by simp [Value.category]) hl.1 ⟨Nat.le_of_ble_eq_true rfl, Nat.le_of_ble_eq_true rfl⟩ hcs dL_law_630 (fun H locs X => ?_)
  refine lv_icmp_eq (tgt := 1274) hx hb dL_law_633 (by decide) (fun _ => ?_) (fun h => absurd rfl h)
  exact next μ1 μM1 νM1 H locs hR1 X
set_option maxRecDepth 20000 in
theorem lk_when {p : Program} {l : Launch} {e : Env} {s : State} {m : MethodId} {below : List Frame} {meth : Method} {c : Code} {D : va_G} {cy : Nat → ClassId} {ad5 ad6 : Nat → Nat} {b L : Nat} {xs : Nat → Int32} {μ μM : Mem} {ν νM : Lem} {H : Heap} {locs : List Loc} {ls : Array Slot} {i cells slots : Nat} (C : LC p s m meth c D cy ad5 ad6 b L xs) (hR : RR μ μM) (X : LW s D cy ad5 ad6 μ ν μM νM H locs) (hi : i + 6 ≤ L) (hl : lv_has ls 4 (lLoc ad5 ad6 b i)) (hcs : cells ≤ 600000 ∧ slots ≤ 7302250)
    (next : ∀ (μ1 μM1 : Mem) (νM1 : Lem) (H1 : Heap) (locs1 : List Loc), RR μ1 μM1 → LW s D cy ad5 ad6 μ1 ν μM1 νM1 H1 locs1 → W p l e room_1 s m #[Value.ref b] below meth c H1 locs1 cells slots (lw_Z below #[Value.ref b] s) (F0 m 1274 ls [])) : W p l e room_1 s m #[Value.ref b] below meth c H locs cells slots (lw_Z below #[Value.ref b] s) (F0 m 638 ls []) := by
  have hx := C.1.1.1
  have hb := C.1.1.2.1
  obtain ⟨r, μ1, μM1, νM1, c5, c6, hR1⟩ := bo_when ν νM hR (xs (i + 1)) (xs (i + 2)) (xs (i + 3))
  refine lv_aload_n hx hb dL_law_638 rfl (lv_at hl 2 rfl) ?_
  refine rArg C X hi hl 1 (by decide) rfl dL_law_639 dL_law_640 dL_law_641 dL_law_642 dL_law_643 ?_
  refine rArg C X hi hl 2 (by decide) rfl dL_law_644 dL_law_645 dL_law_646 dL_law_647 dL_law_648 ?_
  refine rArg C X hi hl 3 (by decide) rfl dL_law_649 dL_law_650 dL_law_651 dL_law_652 dL_law_653 ?_
  refine rK5L (As := [.int (xs (i + 1)), .int (xs (i + 2)), .int (xs (i + 3))]) (rest := []) c5 rfl lX5_when k_577 rfl rfl C X rfl (by decide) hl.1 ⟨Nat.le_of_ble_eq_true rfl, Nat.le_of_ble_eq_true rfl⟩ hcs dL_law_654 (fun H locs X => ?_)
  refine lv_aload_n hx hb dL_law_657 rfl (lv_at hl 1 rfl) ?_
  refine rArg C X hi hl 1 (by decide) rfl dL_law_658 dL_law_659 dL_law_660 dL_law_661 dL_law_662 ?_
  refine rArg C X hi hl 2 (by decide) rfl dL_law_663 dL_law_664 dL_law_665 dL_law_666 dL_law_667 ?_
  refine rArg C X hi hl 3 (by decide) rfl dL_law_668 dL_law_669 dL_law_670 dL_law_671 dL_law_672 ?_
  refine rK6L (As := [.int (xs (i + 1)), .int (xs (i + 2)), .int (xs (i + 3))]) (rest := [.long r]) c6 rfl lX6_when k_1239 rfl rfl C X rfl (by simp [Value.category]) hl.1 ⟨Nat.le_of_ble_eq_true rfl, Nat.le_of_ble_eq_true rfl⟩ hcs dL_law_673 (fun H locs X => ?_)
  refine W.lcmp hx hb dL_law_676 ?_
  refine lv_if_eq (tgt := 1274) hx hb dL_law_677 (by decide) (fun _ => ?_) (fun h => absurd ((lg_eq r r).mpr rfl) h)
  exact next μ1 μM1 νM1 H locs hR1 X
set_option maxRecDepth 20000 in
theorem lk_sure {p : Program} {l : Launch} {e : Env} {s : State} {m : MethodId} {below : List Frame} {meth : Method} {c : Code} {D : va_G} {cy : Nat → ClassId} {ad5 ad6 : Nat → Nat} {b L : Nat} {xs : Nat → Int32} {μ μM : Mem} {ν νM : Lem} {H : Heap} {locs : List Loc} {ls : Array Slot} {i cells slots : Nat} (C : LC p s m meth c D cy ad5 ad6 b L xs) (hR : RR μ μM) (X : LW s D cy ad5 ad6 μ ν μM νM H locs) (hi : i + 6 ≤ L) (hl : lv_has ls 4 (lLoc ad5 ad6 b i)) (hcs : cells ≤ 600000 ∧ slots ≤ 7302250)
    (next : ∀ (μ1 μM1 : Mem) (νM1 : Lem) (H1 : Heap) (locs1 : List Loc), RR μ1 μM1 → LW s D cy ad5 ad6 μ1 ν μM1 νM1 H1 locs1 → W p l e room_1 s m #[Value.ref b] below meth c H1 locs1 cells slots (lw_Z below #[Value.ref b] s) (F0 m 1274 ls [])) : W p l e room_1 s m #[Value.ref b] below meth c H locs cells slots (lw_Z below #[Value.ref b] s) (F0 m 682 ls []) := by
  have hx := C.1.1.1
  have hb := C.1.1.2.1
  obtain ⟨r, μ1, μM1, νM1, c5, c6, hR1⟩ := bo_sure ν νM hR (xs (i + 1)) (xs (i + 2))
  refine lv_aload_n hx hb dL_law_682 rfl (lv_at hl 2 rfl) ?_
  refine rArg C X hi hl 1 (by decide) rfl dL_law_683 dL_law_684 dL_law_685 dL_law_686 dL_law_687 ?_
  refine rArg C X hi hl 2 (by decide) rfl dL_law_688 dL_law_689 dL_law_690 dL_law_691 dL_law_692 ?_
  refine rK5I (As := [.int (xs (i + 1)), .int (xs (i + 2))]) (rest := []) c5 rfl lX5_sure k_588 rfl rfl C X rfl (by decide) hl.1 ⟨Nat.le_of_ble_eq_true rfl, Nat.le_of_ble_eq_true rfl⟩ hcs dL_law_693 (fun H locs X => ?_)
  refine lv_aload_n hx hb dL_law_696 rfl (lv_at hl 1 rfl) ?_
  refine rArg C X hi hl 1 (by decide) rfl dL_law_697 dL_law_698 dL_law_699 dL_law_700 dL_law_701 ?_
  refine rArg C X hi hl 2 (by decide) rfl dL_law_702 dL_law_703 dL_law_704 dL_law_705 dL_law_706 ?_
  refine rK6I (As := [.int (xs (i + 1)), .int (xs (i + 2))]) (rest := [.int r]) c6 rfl lX6_sure k_1247 rfl rfl C X rfl (by simp [Value.category]) hl.1 ⟨Nat.le_of_ble_eq_true rfl, Nat.le_of_ble_eq_true rfl⟩ hcs dL_law_707 (fun H locs X => ?_)
  refine lv_icmp_eq (tgt := 1274) hx hb dL_law_710 (by decide) (fun _ => ?_) (fun h => absurd rfl h)
  exact next μ1 μM1 νM1 H locs hR1 X
set_option maxRecDepth 20000 in
theorem lk_apart {p : Program} {l : Launch} {e : Env} {s : State} {m : MethodId} {below : List Frame} {meth : Method} {c : Code} {D : va_G} {cy : Nat → ClassId} {ad5 ad6 : Nat → Nat} {b L : Nat} {xs : Nat → Int32} {μ μM : Mem} {ν νM : Lem} {H : Heap} {locs : List Loc} {ls : Array Slot} {i cells slots : Nat} (C : LC p s m meth c D cy ad5 ad6 b L xs) (hR : RR μ μM) (X : LW s D cy ad5 ad6 μ ν μM νM H locs) (hi : i + 6 ≤ L) (hl : lv_has ls 4 (lLoc ad5 ad6 b i)) (hcs : cells ≤ 600000 ∧ slots ≤ 7302250)
    (next : ∀ (μ1 μM1 : Mem) (νM1 : Lem) (H1 : Heap) (locs1 : List Loc), RR μ1 μM1 → LW s D cy ad5 ad6 μ1 ν μM1 νM1 H1 locs1 → W p l e room_1 s m #[Value.ref b] below meth c H1 locs1 cells slots (lw_Z below #[Value.ref b] s) (F0 m 1274 ls [])) : W p l e room_1 s m #[Value.ref b] below meth c H locs cells slots (lw_Z below #[Value.ref b] s) (F0 m 715 ls []) := by
  have hx := C.1.1.1
  have hb := C.1.1.2.1
  obtain ⟨r, μ1, μM1, νM1, c5, c6, hR1⟩ := bo_apart ν νM hR (xs (i + 1)) (xs (i + 2)) (xs (i + 3))
  refine lv_aload_n hx hb dL_law_715 rfl (lv_at hl 2 rfl) ?_
  refine rArg C X hi hl 1 (by decide) rfl dL_law_716 dL_law_717 dL_law_718 dL_law_719 dL_law_720 ?_
  refine rArg C X hi hl 2 (by decide) rfl dL_law_721 dL_law_722 dL_law_723 dL_law_724 dL_law_725 ?_
  refine rArg C X hi hl 3 (by decide) rfl dL_law_726 dL_law_727 dL_law_728 dL_law_729 dL_law_730 ?_
  refine rK5I (As := [.int (xs (i + 1)), .int (xs (i + 2)), .int (xs (i + 3))]) (rest := []) c5 rfl lX5_apart k_592 rfl rfl C X rfl (by decide) hl.1 ⟨Nat.le_of_ble_eq_true rfl, Nat.le_of_ble_eq_true rfl⟩ hcs dL_law_731 (fun H locs X => ?_)
  refine lv_aload_n hx hb dL_law_734 rfl (lv_at hl 1 rfl) ?_
  refine rArg C X hi hl 1 (by decide) rfl dL_law_735 dL_law_736 dL_law_737 dL_law_738 dL_law_739 ?_
  refine rArg C X hi hl 2 (by decide) rfl dL_law_740 dL_law_741 dL_law_742 dL_law_743 dL_law_744 ?_
  refine rArg C X hi hl 3 (by decide) rfl dL_law_745 dL_law_746 dL_law_747 dL_law_748 dL_law_749 ?_
  refine rK6I (As := [.int (xs (i + 1)), .int (xs (i + 2)), .int (xs (i + 3))]) (rest := [.int r]) c6 rfl lX6_apart k_1251 rfl rfl C X rfl (by simp [Value.category]) hl.1 ⟨Nat.le_of_ble_eq_true rfl, Nat.le_of_ble_eq_true rfl⟩ hcs dL_law_750 (fun H locs X => ?_)
  refine lv_icmp_eq (tgt := 1274) hx hb dL_law_753 (by decide) (fun _ => ?_) (fun h => absurd rfl h)
  exact next μ1 μM1 νM1 H locs hR1 X
set_option maxRecDepth 20000 in
theorem lk_fits {p : Program} {l : Launch} {e : Env} {s : State} {m : MethodId} {below : List Frame} {meth : Method} {c : Code} {D : va_G} {cy : Nat → ClassId} {ad5 ad6 : Nat → Nat} {b L : Nat} {xs : Nat → Int32} {μ μM : Mem} {ν νM : Lem} {H : Heap} {locs : List Loc} {ls : Array Slot} {i cells slots : Nat} (C : LC p s m meth c D cy ad5 ad6 b L xs) (hR : RR μ μM) (X : LW s D cy ad5 ad6 μ ν μM νM H locs) (hi : i + 6 ≤ L) (hl : lv_has ls 4 (lLoc ad5 ad6 b i)) (hcs : cells ≤ 600000 ∧ slots ≤ 7302250)
    (next : ∀ (μ1 μM1 : Mem) (νM1 : Lem) (H1 : Heap) (locs1 : List Loc), RR μ1 μM1 → LW s D cy ad5 ad6 μ1 ν μM1 νM1 H1 locs1 → W p l e room_1 s m #[Value.ref b] below meth c H1 locs1 cells slots (lw_Z below #[Value.ref b] s) (F0 m 1274 ls [])) : W p l e room_1 s m #[Value.ref b] below meth c H locs cells slots (lw_Z below #[Value.ref b] s) (F0 m 758 ls []) := by
  have hx := C.1.1.1
  have hb := C.1.1.2.1
  obtain ⟨r, μ1, μM1, νM1, c5, c6, hR1⟩ := bo_fits ν νM hR (xs (i + 1))
  refine lv_aload_n hx hb dL_law_758 rfl (lv_at hl 2 rfl) ?_
  refine rArg C X hi hl 1 (by decide) rfl dL_law_759 dL_law_760 dL_law_761 dL_law_762 dL_law_763 ?_
  refine rK5I (As := [.int (xs (i + 1))]) (rest := []) c5 rfl lX5_fits k_604 rfl rfl C X rfl (by decide) hl.1 ⟨Nat.le_of_ble_eq_true rfl, Nat.le_of_ble_eq_true rfl⟩ hcs dL_law_764 (fun H locs X => ?_)
  refine lv_aload_n hx hb dL_law_767 rfl (lv_at hl 1 rfl) ?_
  refine rArg C X hi hl 1 (by decide) rfl dL_law_768 dL_law_769 dL_law_770 dL_law_771 dL_law_772 ?_
  refine rK6I (As := [.int (xs (i + 1))]) (rest := [.int r]) c6 rfl lX6_fits k_1255 rfl rfl C X rfl (by simp [Value.category]) hl.1 ⟨Nat.le_of_ble_eq_true rfl, Nat.le_of_ble_eq_true rfl⟩ hcs dL_law_773 (fun H locs X => ?_)
  refine lv_icmp_eq (tgt := 1274) hx hb dL_law_776 (by decide) (fun _ => ?_) (fun h => absurd rfl h)
  exact next μ1 μM1 νM1 H locs hR1 X
set_option maxRecDepth 20000 in
theorem lk_wrong {p : Program} {l : Launch} {e : Env} {s : State} {m : MethodId} {below : List Frame} {meth : Method} {c : Code} {D : va_G} {cy : Nat → ClassId} {ad5 ad6 : Nat → Nat} {b L : Nat} {xs : Nat → Int32} {μ μM : Mem} {ν νM : Lem} {H : Heap} {locs : List Loc} {ls : Array Slot} {i cells slots : Nat} (C : LC p s m meth c D cy ad5 ad6 b L xs) (hR : RR μ μM) (X : LW s D cy ad5 ad6 μ ν μM νM H locs) (hi : i + 6 ≤ L) (hl : lv_has ls 4 (lLoc ad5 ad6 b i)) (hcs : cells ≤ 600000 ∧ slots ≤ 7302250)
    (next : ∀ (μ1 μM1 : Mem) (νM1 : Lem) (H1 : Heap) (locs1 : List Loc), RR μ1 μM1 → LW s D cy ad5 ad6 μ1 ν μM1 νM1 H1 locs1 → W p l e room_1 s m #[Value.ref b] below meth c H1 locs1 cells slots (lw_Z below #[Value.ref b] s) (F0 m 1274 ls [])) : W p l e room_1 s m #[Value.ref b] below meth c H locs cells slots (lw_Z below #[Value.ref b] s) (F0 m 781 ls []) := by
  have hx := C.1.1.1
  have hb := C.1.1.2.1
  obtain ⟨r, μ1, μM1, νM1, c5, c6, hR1⟩ := bo_wrong ν νM hR (xs (i + 1)) (xs (i + 2)) (xs (i + 3))
  refine lv_aload_n hx hb dL_law_781 rfl (lv_at hl 2 rfl) ?_
  refine rArg C X hi hl 1 (by decide) rfl dL_law_782 dL_law_783 dL_law_784 dL_law_785 dL_law_786 ?_
  refine rArg C X hi hl 2 (by decide) rfl dL_law_787 dL_law_788 dL_law_789 dL_law_790 dL_law_791 ?_
  refine rArg C X hi hl 3 (by decide) rfl dL_law_792 dL_law_793 dL_law_794 dL_law_795 dL_law_796 ?_
  refine rK5I (As := [.int (xs (i + 1)), .int (xs (i + 2)), .int (xs (i + 3))]) (rest := []) c5 rfl lX5_wrong k_630 rfl rfl C X rfl (by decide) hl.1 ⟨Nat.le_of_ble_eq_true rfl, Nat.le_of_ble_eq_true rfl⟩ hcs dL_law_797 (fun H locs X => ?_)
  refine lv_aload_n hx hb dL_law_800 rfl (lv_at hl 1 rfl) ?_
  refine rArg C X hi hl 1 (by decide) rfl dL_law_801 dL_law_802 dL_law_803 dL_law_804 dL_law_805 ?_
  refine rArg C X hi hl 2 (by decide) rfl dL_law_806 dL_law_807 dL_law_808 dL_law_809 dL_law_810 ?_
  refine rArg C X hi hl 3 (by decide) rfl dL_law_811 dL_law_812 dL_law_813 dL_law_814 dL_law_815 ?_
  refine rK6I (As := [.int (xs (i + 1)), .int (xs (i + 2)), .int (xs (i + 3))]) (rest := [.int r]) c6 rfl lX6_wrong k_1271 rfl rfl C X rfl (by simp [Value.category]) hl.1 ⟨Nat.le_of_ble_eq_true rfl, Nat.le_of_ble_eq_true rfl⟩ hcs dL_law_816 (fun H locs X => ?_)
  refine lv_icmp_eq (tgt := 1274) hx hb dL_law_819 (by decide) (fun _ => ?_) (fun h => absurd rfl h)
  exact next μ1 μM1 νM1 H locs hR1 X
set_option maxRecDepth 20000 in
theorem lk_posts {p : Program} {l : Launch} {e : Env} {s : State} {m : MethodId} {below : List Frame} {meth : Method} {c : Code} {D : va_G} {cy : Nat → ClassId} {ad5 ad6 : Nat → Nat} {b L : Nat} {xs : Nat → Int32} {μ μM : Mem} {ν νM : Lem} {H : Heap} {locs : List Loc} {ls : Array Slot} {i cells slots : Nat} (C : LC p s m meth c D cy ad5 ad6 b L xs) (hR : RR μ μM) (X : LW s D cy ad5 ad6 μ ν μM νM H locs) (hi : i + 6 ≤ L) (hl : lv_has ls 4 (lLoc ad5 ad6 b i)) (hcs : cells ≤ 600000 ∧ slots ≤ 7302250)
    (next : ∀ (μ1 μM1 : Mem) (νM1 : Lem) (H1 : Heap) (locs1 : List Loc), RR μ1 μM1 → LW s D cy ad5 ad6 μ1 ν μM1 νM1 H1 locs1 → W p l e room_1 s m #[Value.ref b] below meth c H1 locs1 cells slots (lw_Z below #[Value.ref b] s) (F0 m 1274 ls [])) : W p l e room_1 s m #[Value.ref b] below meth c H locs cells slots (lw_Z below #[Value.ref b] s) (F0 m 824 ls []) := by
  have hx := C.1.1.1
  have hb := C.1.1.2.1
  obtain ⟨r, μ1, μM1, νM1, c5, c6, hR1⟩ := bo_posts ν νM hR (xs (i + 1))
  refine lv_aload_n hx hb dL_law_824 rfl (lv_at hl 2 rfl) ?_
  refine rArg C X hi hl 1 (by decide) rfl dL_law_825 dL_law_826 dL_law_827 dL_law_828 dL_law_829 ?_
  refine rK5I (As := [.int (xs (i + 1))]) (rest := []) c5 rfl lX5_posts k_646 rfl rfl C X rfl (by decide) hl.1 ⟨Nat.le_of_ble_eq_true rfl, Nat.le_of_ble_eq_true rfl⟩ hcs dL_law_830 (fun H locs X => ?_)
  refine lv_aload_n hx hb dL_law_833 rfl (lv_at hl 1 rfl) ?_
  refine rArg C X hi hl 1 (by decide) rfl dL_law_834 dL_law_835 dL_law_836 dL_law_837 dL_law_838 ?_
  refine rK6I (As := [.int (xs (i + 1))]) (rest := [.int r]) c6 rfl lX6_posts k_1275 rfl rfl C X rfl (by simp [Value.category]) hl.1 ⟨Nat.le_of_ble_eq_true rfl, Nat.le_of_ble_eq_true rfl⟩ hcs dL_law_839 (fun H locs X => ?_)
  refine lv_icmp_eq (tgt := 1274) hx hb dL_law_842 (by decide) (fun _ => ?_) (fun h => absurd rfl h)
  exact next μ1 μM1 νM1 H locs hR1 X
set_option maxRecDepth 20000 in
theorem lk_beads {p : Program} {l : Launch} {e : Env} {s : State} {m : MethodId} {below : List Frame} {meth : Method} {c : Code} {D : va_G} {cy : Nat → ClassId} {ad5 ad6 : Nat → Nat} {b L : Nat} {xs : Nat → Int32} {μ μM : Mem} {ν νM : Lem} {H : Heap} {locs : List Loc} {ls : Array Slot} {i cells slots : Nat} (C : LC p s m meth c D cy ad5 ad6 b L xs) (hR : RR μ μM) (X : LW s D cy ad5 ad6 μ ν μM νM H locs) (hi : i + 6 ≤ L) (hl : lv_has ls 4 (lLoc ad5 ad6 b i)) (hcs : cells ≤ 600000 ∧ slots ≤ 7302250)
    (next : ∀ (μ1 μM1 : Mem) (νM1 : Lem) (H1 : Heap) (locs1 : List Loc), RR μ1 μM1 → LW s D cy ad5 ad6 μ1 ν μM1 νM1 H1 locs1 → W p l e room_1 s m #[Value.ref b] below meth c H1 locs1 cells slots (lw_Z below #[Value.ref b] s) (F0 m 1274 ls [])) : W p l e room_1 s m #[Value.ref b] below meth c H locs cells slots (lw_Z below #[Value.ref b] s) (F0 m 847 ls []) := by
  have hx := C.1.1.1
  have hb := C.1.1.2.1
  obtain ⟨r, μ1, μM1, νM1, c5, c6, hR1⟩ := bo_beads ν νM hR (xs (i + 1))
  refine lv_aload_n hx hb dL_law_847 rfl (lv_at hl 2 rfl) ?_
  refine rArg C X hi hl 1 (by decide) rfl dL_law_848 dL_law_849 dL_law_850 dL_law_851 dL_law_852 ?_
  refine rK5I (As := [.int (xs (i + 1))]) (rest := []) c5 rfl lX5_beads k_672 rfl rfl C X rfl (by decide) hl.1 ⟨Nat.le_of_ble_eq_true rfl, Nat.le_of_ble_eq_true rfl⟩ hcs dL_law_853 (fun H locs X => ?_)
  refine lv_aload_n hx hb dL_law_856 rfl (lv_at hl 1 rfl) ?_
  refine rArg C X hi hl 1 (by decide) rfl dL_law_857 dL_law_858 dL_law_859 dL_law_860 dL_law_861 ?_
  refine rK6I (As := [.int (xs (i + 1))]) (rest := [.int r]) c6 rfl lX6_beads k_1286 rfl rfl C X rfl (by simp [Value.category]) hl.1 ⟨Nat.le_of_ble_eq_true rfl, Nat.le_of_ble_eq_true rfl⟩ hcs dL_law_862 (fun H locs X => ?_)
  refine lv_icmp_eq (tgt := 1274) hx hb dL_law_865 (by decide) (fun _ => ?_) (fun h => absurd rfl h)
  exact next μ1 μM1 νM1 H locs hR1 X
set_option maxRecDepth 20000 in
theorem lk_heat {p : Program} {l : Launch} {e : Env} {s : State} {m : MethodId} {below : List Frame} {meth : Method} {c : Code} {D : va_G} {cy : Nat → ClassId} {ad5 ad6 : Nat → Nat} {b L : Nat} {xs : Nat → Int32} {μ μM : Mem} {ν νM : Lem} {H : Heap} {locs : List Loc} {ls : Array Slot} {i cells slots : Nat} (C : LC p s m meth c D cy ad5 ad6 b L xs) (hR : RR μ μM) (X : LW s D cy ad5 ad6 μ ν μM νM H locs) (hi : i + 6 ≤ L) (hl : lv_has ls 4 (lLoc ad5 ad6 b i)) (hcs : cells ≤ 600000 ∧ slots ≤ 7302250)
    (next : ∀ (μ1 μM1 : Mem) (νM1 : Lem) (H1 : Heap) (locs1 : List Loc), RR μ1 μM1 → LW s D cy ad5 ad6 μ1 ν μM1 νM1 H1 locs1 → W p l e room_1 s m #[Value.ref b] below meth c H1 locs1 cells slots (lw_Z below #[Value.ref b] s) (F0 m 1274 ls [])) : W p l e room_1 s m #[Value.ref b] below meth c H locs cells slots (lw_Z below #[Value.ref b] s) (F0 m 870 ls []) := by
  have hx := C.1.1.1
  have hb := C.1.1.2.1
  obtain ⟨r, μ1, μM1, νM1, c5, c6, hR1⟩ := bo_heat ν νM hR (xs (i + 1))
  refine lv_aload_n hx hb dL_law_870 rfl (lv_at hl 2 rfl) ?_
  refine rArg C X hi hl 1 (by decide) rfl dL_law_871 dL_law_872 dL_law_873 dL_law_874 dL_law_875 ?_
  refine rK5I (As := [.int (xs (i + 1))]) (rest := []) c5 rfl lX5_heat k_685 rfl rfl C X rfl (by decide) hl.1 ⟨Nat.le_of_ble_eq_true rfl, Nat.le_of_ble_eq_true rfl⟩ hcs dL_law_876 (fun H locs X => ?_)
  refine lv_aload_n hx hb dL_law_879 rfl (lv_at hl 1 rfl) ?_
  refine rArg C X hi hl 1 (by decide) rfl dL_law_880 dL_law_881 dL_law_882 dL_law_883 dL_law_884 ?_
  refine rK6I (As := [.int (xs (i + 1))]) (rest := [.int r]) c6 rfl lX6_heat k_1298 rfl rfl C X rfl (by simp [Value.category]) hl.1 ⟨Nat.le_of_ble_eq_true rfl, Nat.le_of_ble_eq_true rfl⟩ hcs dL_law_885 (fun H locs X => ?_)
  refine lv_icmp_eq (tgt := 1274) hx hb dL_law_888 (by decide) (fun _ => ?_) (fun h => absurd rfl h)
  exact next μ1 μM1 νM1 H locs hR1 X
set_option maxRecDepth 20000 in
theorem lk_drawn {p : Program} {l : Launch} {e : Env} {s : State} {m : MethodId} {below : List Frame} {meth : Method} {c : Code} {D : va_G} {cy : Nat → ClassId} {ad5 ad6 : Nat → Nat} {b L : Nat} {xs : Nat → Int32} {μ μM : Mem} {ν νM : Lem} {H : Heap} {locs : List Loc} {ls : Array Slot} {i cells slots : Nat} (C : LC p s m meth c D cy ad5 ad6 b L xs) (hR : RR μ μM) (X : LW s D cy ad5 ad6 μ ν μM νM H locs) (hi : i + 6 ≤ L) (hl : lv_has ls 4 (lLoc ad5 ad6 b i)) (hcs : cells ≤ 600000 ∧ slots ≤ 7302250)
    (next : ∀ (μ1 μM1 : Mem) (νM1 : Lem) (H1 : Heap) (locs1 : List Loc), RR μ1 μM1 → LW s D cy ad5 ad6 μ1 ν μM1 νM1 H1 locs1 → W p l e room_1 s m #[Value.ref b] below meth c H1 locs1 cells slots (lw_Z below #[Value.ref b] s) (F0 m 1274 ls [])) : W p l e room_1 s m #[Value.ref b] below meth c H locs cells slots (lw_Z below #[Value.ref b] s) (F0 m 893 ls []) := by
  have hx := C.1.1.1
  have hb := C.1.1.2.1
  obtain ⟨r, μ1, μM1, νM1, c5, c6, hR1⟩ := bo_drawn ν νM hR (xs (i + 1)) (xs (i + 2)) (xs (i + 3))
  refine lv_aload_n hx hb dL_law_893 rfl (lv_at hl 2 rfl) ?_
  refine rArg C X hi hl 1 (by decide) rfl dL_law_894 dL_law_895 dL_law_896 dL_law_897 dL_law_898 ?_
  refine rArg C X hi hl 2 (by decide) rfl dL_law_899 dL_law_900 dL_law_901 dL_law_902 dL_law_903 ?_
  refine rArg C X hi hl 3 (by decide) rfl dL_law_904 dL_law_905 dL_law_906 dL_law_907 dL_law_908 ?_
  refine rK5I (As := [.int (xs (i + 1)), .int (xs (i + 2)), .int (xs (i + 3))]) (rest := []) c5 rfl lX5_drawn k_693 rfl rfl C X rfl (by decide) hl.1 ⟨Nat.le_of_ble_eq_true rfl, Nat.le_of_ble_eq_true rfl⟩ hcs dL_law_909 (fun H locs X => ?_)
  refine lv_aload_n hx hb dL_law_912 rfl (lv_at hl 1 rfl) ?_
  refine rArg C X hi hl 1 (by decide) rfl dL_law_913 dL_law_914 dL_law_915 dL_law_916 dL_law_917 ?_
  refine rArg C X hi hl 2 (by decide) rfl dL_law_918 dL_law_919 dL_law_920 dL_law_921 dL_law_922 ?_
  refine rArg C X hi hl 3 (by decide) rfl dL_law_923 dL_law_924 dL_law_925 dL_law_926 dL_law_927 ?_
  refine rK6I (As := [.int (xs (i + 1)), .int (xs (i + 2)), .int (xs (i + 3))]) (rest := [.int r]) c6 rfl lX6_drawn k_1306 rfl rfl C X rfl (by simp [Value.category]) hl.1 ⟨Nat.le_of_ble_eq_true rfl, Nat.le_of_ble_eq_true rfl⟩ hcs dL_law_928 (fun H locs X => ?_)
  refine lv_icmp_eq (tgt := 1274) hx hb dL_law_931 (by decide) (fun _ => ?_) (fun h => absurd rfl h)
  exact next μ1 μM1 νM1 H locs hR1 X
set_option maxRecDepth 20000 in
theorem lk_chance {p : Program} {l : Launch} {e : Env} {s : State} {m : MethodId} {below : List Frame} {meth : Method} {c : Code} {D : va_G} {cy : Nat → ClassId} {ad5 ad6 : Nat → Nat} {b L : Nat} {xs : Nat → Int32} {μ μM : Mem} {ν νM : Lem} {H : Heap} {locs : List Loc} {ls : Array Slot} {i cells slots : Nat} (C : LC p s m meth c D cy ad5 ad6 b L xs) (hR : RR μ μM) (X : LW s D cy ad5 ad6 μ ν μM νM H locs) (hi : i + 6 ≤ L) (hl : lv_has ls 4 (lLoc ad5 ad6 b i)) (hcs : cells ≤ 600000 ∧ slots ≤ 7302250)
    (next : ∀ (μ1 μM1 : Mem) (νM1 : Lem) (H1 : Heap) (locs1 : List Loc), RR μ1 μM1 → LW s D cy ad5 ad6 μ1 ν μM1 νM1 H1 locs1 → W p l e room_1 s m #[Value.ref b] below meth c H1 locs1 cells slots (lw_Z below #[Value.ref b] s) (F0 m 1274 ls [])) : W p l e room_1 s m #[Value.ref b] below meth c H locs cells slots (lw_Z below #[Value.ref b] s) (F0 m 936 ls []) := by
  have hx := C.1.1.1
  have hb := C.1.1.2.1
  obtain ⟨r, μ1, μM1, νM1, c5, c6, hR1⟩ := bo_chance ν νM hR (xs (i + 1)) (xs (i + 2)) (xs (i + 3)) (xs (i + 4))
  refine lv_aload_n hx hb dL_law_936 rfl (lv_at hl 2 rfl) ?_
  refine rArg C X hi hl 1 (by decide) rfl dL_law_937 dL_law_938 dL_law_939 dL_law_940 dL_law_941 ?_
  refine rArg C X hi hl 2 (by decide) rfl dL_law_942 dL_law_943 dL_law_944 dL_law_945 dL_law_946 ?_
  refine rArg C X hi hl 3 (by decide) rfl dL_law_947 dL_law_948 dL_law_949 dL_law_950 dL_law_951 ?_
  refine rArg C X hi hl 4 (by decide) rfl dL_law_952 dL_law_953 dL_law_954 dL_law_955 dL_law_956 ?_
  refine rK5L (As := [.int (xs (i + 1)), .int (xs (i + 2)), .int (xs (i + 3)), .int (xs (i + 4))]) (rest := []) c5 rfl lX5_chance k_703 rfl rfl C X rfl (by decide) hl.1 ⟨Nat.le_of_ble_eq_true rfl, Nat.le_of_ble_eq_true rfl⟩ hcs dL_law_957 (fun H locs X => ?_)
  refine lv_aload_n hx hb dL_law_960 rfl (lv_at hl 1 rfl) ?_
  refine rArg C X hi hl 1 (by decide) rfl dL_law_961 dL_law_962 dL_law_963 dL_law_964 dL_law_965 ?_
  refine rArg C X hi hl 2 (by decide) rfl dL_law_966 dL_law_967 dL_law_968 dL_law_969 dL_law_970 ?_
  refine rArg C X hi hl 3 (by decide) rfl dL_law_971 dL_law_972 dL_law_973 dL_law_974 dL_law_975 ?_
  refine rArg C X hi hl 4 (by decide) rfl dL_law_976 dL_law_977 dL_law_978 dL_law_979 dL_law_980 ?_
  refine rK6L (As := [.int (xs (i + 1)), .int (xs (i + 2)), .int (xs (i + 3)), .int (xs (i + 4))]) (rest := [.long r]) c6 rfl lX6_chance k_1316 rfl rfl C X rfl (by simp [Value.category]) hl.1 ⟨Nat.le_of_ble_eq_true rfl, Nat.le_of_ble_eq_true rfl⟩ hcs dL_law_981 (fun H locs X => ?_)
  refine W.lcmp hx hb dL_law_984 ?_
  refine lv_if_eq (tgt := 1274) hx hb dL_law_985 (by decide) (fun _ => ?_) (fun h => absurd ((lg_eq r r).mpr rfl) h)
  exact next μ1 μM1 νM1 H locs hR1 X
set_option maxRecDepth 20000 in
theorem lk_image {p : Program} {l : Launch} {e : Env} {s : State} {m : MethodId} {below : List Frame} {meth : Method} {c : Code} {D : va_G} {cy : Nat → ClassId} {ad5 ad6 : Nat → Nat} {b L : Nat} {xs : Nat → Int32} {μ μM : Mem} {ν νM : Lem} {H : Heap} {locs : List Loc} {ls : Array Slot} {i cells slots : Nat} (C : LC p s m meth c D cy ad5 ad6 b L xs) (hR : RR μ μM) (X : LW s D cy ad5 ad6 μ ν μM νM H locs) (hi : i + 6 ≤ L) (hl : lv_has ls 4 (lLoc ad5 ad6 b i)) (hcs : cells ≤ 600000 ∧ slots ≤ 7302250)
    (next : ∀ (μ1 μM1 : Mem) (νM1 : Lem) (H1 : Heap) (locs1 : List Loc), RR μ1 μM1 → LW s D cy ad5 ad6 μ1 ν μM1 νM1 H1 locs1 → W p l e room_1 s m #[Value.ref b] below meth c H1 locs1 cells slots (lw_Z below #[Value.ref b] s) (F0 m 1274 ls [])) : W p l e room_1 s m #[Value.ref b] below meth c H locs cells slots (lw_Z below #[Value.ref b] s) (F0 m 990 ls []) := by
  have hx := C.1.1.1
  have hb := C.1.1.2.1
  obtain ⟨r, μ1, μM1, νM1, c5, c6, hR1⟩ := bo_image ν νM hR
  refine lv_aload_n hx hb dL_law_990 rfl (lv_at hl 2 rfl) ?_
  refine rK5I (As := []) (rest := []) c5 rfl lX5_image k_707 rfl rfl C X rfl (by decide) hl.1 ⟨Nat.le_of_ble_eq_true rfl, Nat.le_of_ble_eq_true rfl⟩ hcs dL_law_991 (fun H locs X => ?_)
  refine lv_aload_n hx hb dL_law_994 rfl (lv_at hl 1 rfl) ?_
  refine rK6I (As := []) (rest := [.int r]) c6 rfl lX6_image k_1321 rfl rfl C X rfl (by simp [Value.category]) hl.1 ⟨Nat.le_of_ble_eq_true rfl, Nat.le_of_ble_eq_true rfl⟩ hcs dL_law_995 (fun H locs X => ?_)
  refine lv_icmp_eq (tgt := 1274) hx hb dL_law_998 (by decide) (fun _ => ?_) (fun h => absurd rfl h)
  exact next μ1 μM1 νM1 H locs hR1 X
set_option maxRecDepth 20000 in
theorem lk_back {p : Program} {l : Launch} {e : Env} {s : State} {m : MethodId} {below : List Frame} {meth : Method} {c : Code} {D : va_G} {cy : Nat → ClassId} {ad5 ad6 : Nat → Nat} {b L : Nat} {xs : Nat → Int32} {μ μM : Mem} {ν νM : Lem} {H : Heap} {locs : List Loc} {ls : Array Slot} {i cells slots : Nat} (C : LC p s m meth c D cy ad5 ad6 b L xs) (hR : RR μ μM) (X : LW s D cy ad5 ad6 μ ν μM νM H locs) (hi : i + 6 ≤ L) (hl : lv_has ls 4 (lLoc ad5 ad6 b i)) (hcs : cells ≤ 600000 ∧ slots ≤ 7302250)
    (next : ∀ (μ1 μM1 : Mem) (νM1 : Lem) (H1 : Heap) (locs1 : List Loc), RR μ1 μM1 → LW s D cy ad5 ad6 μ1 ν μM1 νM1 H1 locs1 → W p l e room_1 s m #[Value.ref b] below meth c H1 locs1 cells slots (lw_Z below #[Value.ref b] s) (F0 m 1274 ls [])) : W p l e room_1 s m #[Value.ref b] below meth c H locs cells slots (lw_Z below #[Value.ref b] s) (F0 m 1003 ls []) := by
  have hx := C.1.1.1
  have hb := C.1.1.2.1
  obtain ⟨r, μ1, μM1, νM1, c5, c6, hR1⟩ := bo_back ν νM hR
  refine lv_aload_n hx hb dL_law_1003 rfl (lv_at hl 2 rfl) ?_
  refine rK5I (As := []) (rest := []) c5 rfl lX5_back k_721 rfl rfl C X rfl (by decide) hl.1 ⟨Nat.le_of_ble_eq_true rfl, Nat.le_of_ble_eq_true rfl⟩ hcs dL_law_1004 (fun H locs X => ?_)
  refine lv_aload_n hx hb dL_law_1007 rfl (lv_at hl 1 rfl) ?_
  refine rK6I (As := []) (rest := [.int r]) c6 rfl lX6_back k_1325 rfl rfl C X rfl (by simp [Value.category]) hl.1 ⟨Nat.le_of_ble_eq_true rfl, Nat.le_of_ble_eq_true rfl⟩ hcs dL_law_1008 (fun H locs X => ?_)
  refine lv_icmp_eq (tgt := 1274) hx hb dL_law_1011 (by decide) (fun _ => ?_) (fun h => absurd rfl h)
  exact next μ1 μM1 νM1 H locs hR1 X
set_option maxRecDepth 20000 in
theorem lk_count {p : Program} {l : Launch} {e : Env} {s : State} {m : MethodId} {below : List Frame} {meth : Method} {c : Code} {D : va_G} {cy : Nat → ClassId} {ad5 ad6 : Nat → Nat} {b L : Nat} {xs : Nat → Int32} {μ μM : Mem} {ν νM : Lem} {H : Heap} {locs : List Loc} {ls : Array Slot} {i cells slots : Nat} (C : LC p s m meth c D cy ad5 ad6 b L xs) (hR : RR μ μM) (X : LW s D cy ad5 ad6 μ ν μM νM H locs) (hi : i + 6 ≤ L) (hl : lv_has ls 4 (lLoc ad5 ad6 b i)) (hcs : cells ≤ 600000 ∧ slots ≤ 7302250)
    (next : ∀ (μ1 μM1 : Mem) (νM1 : Lem) (H1 : Heap) (locs1 : List Loc), RR μ1 μM1 → LW s D cy ad5 ad6 μ1 ν μM1 νM1 H1 locs1 → W p l e room_1 s m #[Value.ref b] below meth c H1 locs1 cells slots (lw_Z below #[Value.ref b] s) (F0 m 1274 ls [])) : W p l e room_1 s m #[Value.ref b] below meth c H locs cells slots (lw_Z below #[Value.ref b] s) (F0 m 1016 ls []) := by
  have hx := C.1.1.1
  have hb := C.1.1.2.1
  obtain ⟨r, μ1, μM1, νM1, c5, c6, hR1⟩ := bo_count ν νM hR (xs (i + 1))
  refine lv_aload_n hx hb dL_law_1016 rfl (lv_at hl 2 rfl) ?_
  refine rArg C X hi hl 1 (by decide) rfl dL_law_1017 dL_law_1018 dL_law_1019 dL_law_1020 dL_law_1021 ?_
  refine rK5I (As := [.int (xs (i + 1))]) (rest := []) c5 rfl lX5_count k_725 rfl rfl C X rfl (by decide) hl.1 ⟨Nat.le_of_ble_eq_true rfl, Nat.le_of_ble_eq_true rfl⟩ hcs dL_law_1022 (fun H locs X => ?_)
  refine lv_aload_n hx hb dL_law_1025 rfl (lv_at hl 1 rfl) ?_
  refine rArg C X hi hl 1 (by decide) rfl dL_law_1026 dL_law_1027 dL_law_1028 dL_law_1029 dL_law_1030 ?_
  refine rK6I (As := [.int (xs (i + 1))]) (rest := [.int r]) c6 rfl lX6_count k_1329 rfl rfl C X rfl (by simp [Value.category]) hl.1 ⟨Nat.le_of_ble_eq_true rfl, Nat.le_of_ble_eq_true rfl⟩ hcs dL_law_1031 (fun H locs X => ?_)
  refine lv_icmp_eq (tgt := 1274) hx hb dL_law_1034 (by decide) (fun _ => ?_) (fun h => absurd rfl h)
  exact next μ1 μM1 νM1 H locs hR1 X
set_option maxRecDepth 20000 in
theorem lk_sheet {p : Program} {l : Launch} {e : Env} {s : State} {m : MethodId} {below : List Frame} {meth : Method} {c : Code} {D : va_G} {cy : Nat → ClassId} {ad5 ad6 : Nat → Nat} {b L : Nat} {xs : Nat → Int32} {μ μM : Mem} {ν νM : Lem} {H : Heap} {locs : List Loc} {ls : Array Slot} {i cells slots : Nat} (C : LC p s m meth c D cy ad5 ad6 b L xs) (hR : RR μ μM) (X : LW s D cy ad5 ad6 μ ν μM νM H locs) (hi : i + 6 ≤ L) (hl : lv_has ls 4 (lLoc ad5 ad6 b i)) (hcs : cells ≤ 600000 ∧ slots ≤ 7302250)
    (next : ∀ (μ1 μM1 : Mem) (νM1 : Lem) (H1 : Heap) (locs1 : List Loc), RR μ1 μM1 → LW s D cy ad5 ad6 μ1 ν μM1 νM1 H1 locs1 → W p l e room_1 s m #[Value.ref b] below meth c H1 locs1 cells slots (lw_Z below #[Value.ref b] s) (F0 m 1274 ls [])) : W p l e room_1 s m #[Value.ref b] below meth c H locs cells slots (lw_Z below #[Value.ref b] s) (F0 m 1039 ls []) := by
  have hx := C.1.1.1
  have hb := C.1.1.2.1
  obtain ⟨r, μ1, μM1, νM1, c5, c6, hR1⟩ := bo_sheet ν νM hR (xs (i + 1)) (xs (i + 2)) (xs (i + 3))
  refine lv_aload_n hx hb dL_law_1039 rfl (lv_at hl 2 rfl) ?_
  refine rArg C X hi hl 1 (by decide) rfl dL_law_1040 dL_law_1041 dL_law_1042 dL_law_1043 dL_law_1044 ?_
  refine rArg C X hi hl 2 (by decide) rfl dL_law_1045 dL_law_1046 dL_law_1047 dL_law_1048 dL_law_1049 ?_
  refine rArg C X hi hl 3 (by decide) rfl dL_law_1050 dL_law_1051 dL_law_1052 dL_law_1053 dL_law_1054 ?_
  refine rK5I (As := [.int (xs (i + 1)), .int (xs (i + 2)), .int (xs (i + 3))]) (rest := []) c5 rfl lX5_sheet k_733 rfl rfl C X rfl (by decide) hl.1 ⟨Nat.le_of_ble_eq_true rfl, Nat.le_of_ble_eq_true rfl⟩ hcs dL_law_1055 (fun H locs X => ?_)
  refine lv_aload_n hx hb dL_law_1058 rfl (lv_at hl 1 rfl) ?_
  refine rArg C X hi hl 1 (by decide) rfl dL_law_1059 dL_law_1060 dL_law_1061 dL_law_1062 dL_law_1063 ?_
  refine rArg C X hi hl 2 (by decide) rfl dL_law_1064 dL_law_1065 dL_law_1066 dL_law_1067 dL_law_1068 ?_
  refine rArg C X hi hl 3 (by decide) rfl dL_law_1069 dL_law_1070 dL_law_1071 dL_law_1072 dL_law_1073 ?_
  refine rK6I (As := [.int (xs (i + 1)), .int (xs (i + 2)), .int (xs (i + 3))]) (rest := [.int r]) c6 rfl lX6_sheet k_1333 rfl rfl C X rfl (by simp [Value.category]) hl.1 ⟨Nat.le_of_ble_eq_true rfl, Nat.le_of_ble_eq_true rfl⟩ hcs dL_law_1074 (fun H locs X => ?_)
  refine lv_icmp_eq (tgt := 1274) hx hb dL_law_1077 (by decide) (fun _ => ?_) (fun h => absurd rfl h)
  exact next μ1 μM1 νM1 H locs hR1 X
set_option maxRecDepth 20000 in
theorem lk_cell {p : Program} {l : Launch} {e : Env} {s : State} {m : MethodId} {below : List Frame} {meth : Method} {c : Code} {D : va_G} {cy : Nat → ClassId} {ad5 ad6 : Nat → Nat} {b L : Nat} {xs : Nat → Int32} {μ μM : Mem} {ν νM : Lem} {H : Heap} {locs : List Loc} {ls : Array Slot} {i cells slots : Nat} (C : LC p s m meth c D cy ad5 ad6 b L xs) (hR : RR μ μM) (X : LW s D cy ad5 ad6 μ ν μM νM H locs) (hi : i + 6 ≤ L) (hl : lv_has ls 4 (lLoc ad5 ad6 b i)) (hcs : cells ≤ 600000 ∧ slots ≤ 7302250)
    (next : ∀ (μ1 μM1 : Mem) (νM1 : Lem) (H1 : Heap) (locs1 : List Loc), RR μ1 μM1 → LW s D cy ad5 ad6 μ1 ν μM1 νM1 H1 locs1 → W p l e room_1 s m #[Value.ref b] below meth c H1 locs1 cells slots (lw_Z below #[Value.ref b] s) (F0 m 1274 ls [])) : W p l e room_1 s m #[Value.ref b] below meth c H locs cells slots (lw_Z below #[Value.ref b] s) (F0 m 1082 ls []) := by
  have hx := C.1.1.1
  have hb := C.1.1.2.1
  obtain ⟨r, μ1, μM1, νM1, c5, c6, hR1⟩ := bo_cell ν νM hR (xs (i + 1)) (xs (i + 2)) (xs (i + 3))
  refine lv_aload_n hx hb dL_law_1082 rfl (lv_at hl 2 rfl) ?_
  refine rArg C X hi hl 1 (by decide) rfl dL_law_1083 dL_law_1084 dL_law_1085 dL_law_1086 dL_law_1087 ?_
  refine rArg C X hi hl 2 (by decide) rfl dL_law_1088 dL_law_1089 dL_law_1090 dL_law_1091 dL_law_1092 ?_
  refine rArg C X hi hl 3 (by decide) rfl dL_law_1093 dL_law_1094 dL_law_1095 dL_law_1096 dL_law_1097 ?_
  refine rK5I (As := [.int (xs (i + 1)), .int (xs (i + 2)), .int (xs (i + 3))]) (rest := []) c5 rfl lX5_cell k_745 rfl rfl C X rfl (by decide) hl.1 ⟨Nat.le_of_ble_eq_true rfl, Nat.le_of_ble_eq_true rfl⟩ hcs dL_law_1098 (fun H locs X => ?_)
  refine lv_aload_n hx hb dL_law_1101 rfl (lv_at hl 1 rfl) ?_
  refine rArg C X hi hl 1 (by decide) rfl dL_law_1102 dL_law_1103 dL_law_1104 dL_law_1105 dL_law_1106 ?_
  refine rArg C X hi hl 2 (by decide) rfl dL_law_1107 dL_law_1108 dL_law_1109 dL_law_1110 dL_law_1111 ?_
  refine rArg C X hi hl 3 (by decide) rfl dL_law_1112 dL_law_1113 dL_law_1114 dL_law_1115 dL_law_1116 ?_
  refine rK6I (As := [.int (xs (i + 1)), .int (xs (i + 2)), .int (xs (i + 3))]) (rest := [.int r]) c6 rfl lX6_cell k_1338 rfl rfl C X rfl (by simp [Value.category]) hl.1 ⟨Nat.le_of_ble_eq_true rfl, Nat.le_of_ble_eq_true rfl⟩ hcs dL_law_1117 (fun H locs X => ?_)
  refine lv_icmp_eq (tgt := 1274) hx hb dL_law_1120 (by decide) (fun _ => ?_) (fun h => absurd rfl h)
  exact next μ1 μM1 νM1 H locs hR1 X
set_option maxRecDepth 20000 in
theorem lk_copy {p : Program} {l : Launch} {e : Env} {s : State} {m : MethodId} {below : List Frame} {meth : Method} {c : Code} {D : va_G} {cy : Nat → ClassId} {ad5 ad6 : Nat → Nat} {b L : Nat} {xs : Nat → Int32} {μ μM : Mem} {ν νM : Lem} {H : Heap} {locs : List Loc} {ls : Array Slot} {i cells slots : Nat} (C : LC p s m meth c D cy ad5 ad6 b L xs) (hR : RR μ μM) (X : LW s D cy ad5 ad6 μ ν μM νM H locs) (hi : i + 6 ≤ L) (hl : lv_has ls 4 (lLoc ad5 ad6 b i)) (hcs : cells ≤ 600000 ∧ slots ≤ 7302250)
    (next : ∀ (μ1 μM1 : Mem) (νM1 : Lem) (H1 : Heap) (locs1 : List Loc), RR μ1 μM1 → LW s D cy ad5 ad6 μ1 ν μM1 νM1 H1 locs1 → W p l e room_1 s m #[Value.ref b] below meth c H1 locs1 cells slots (lw_Z below #[Value.ref b] s) (F0 m 1274 ls [])) : W p l e room_1 s m #[Value.ref b] below meth c H locs cells slots (lw_Z below #[Value.ref b] s) (F0 m 1125 ls []) := by
  have hx := C.1.1.1
  have hb := C.1.1.2.1
  obtain ⟨r, μ1, μM1, νM1, c5, c6, hR1⟩ := bo_copy ν νM hR (xs (i + 1)) (xs (i + 2)) (xs (i + 3)) (xs (i + 4)) (xs (i + 5))
  refine lv_aload_n hx hb dL_law_1125 rfl (lv_at hl 2 rfl) ?_
  refine rArg C X hi hl 1 (by decide) rfl dL_law_1126 dL_law_1127 dL_law_1128 dL_law_1129 dL_law_1130 ?_
  refine rArg C X hi hl 2 (by decide) rfl dL_law_1131 dL_law_1132 dL_law_1133 dL_law_1134 dL_law_1135 ?_
  refine rArg C X hi hl 3 (by decide) rfl dL_law_1136 dL_law_1137 dL_law_1138 dL_law_1139 dL_law_1140 ?_
  refine rArg C X hi hl 4 (by decide) rfl dL_law_1141 dL_law_1142 dL_law_1143 dL_law_1144 dL_law_1145 ?_
  refine rArg C X hi hl 5 (by decide) rfl dL_law_1146 dL_law_1147 dL_law_1148 dL_law_1149 dL_law_1150 ?_
  refine rK5I (As := [.int (xs (i + 1)), .int (xs (i + 2)), .int (xs (i + 3)), .int (xs (i + 4)), .int (xs (i + 5))]) (rest := []) c5 rfl lX5_copy k_757 rfl rfl C X rfl (by decide) hl.1 ⟨Nat.le_of_ble_eq_true rfl, Nat.le_of_ble_eq_true rfl⟩ hcs dL_law_1151 (fun H locs X => ?_)
  refine lv_aload_n hx hb dL_law_1154 rfl (lv_at hl 1 rfl) ?_
  refine rArg C X hi hl 1 (by decide) rfl dL_law_1155 dL_law_1156 dL_law_1157 dL_law_1158 dL_law_1159 ?_
  refine rArg C X hi hl 2 (by decide) rfl dL_law_1160 dL_law_1161 dL_law_1162 dL_law_1163 dL_law_1164 ?_
  refine rArg C X hi hl 3 (by decide) rfl dL_law_1165 dL_law_1166 dL_law_1167 dL_law_1168 dL_law_1169 ?_
  refine rArg C X hi hl 4 (by decide) rfl dL_law_1170 dL_law_1171 dL_law_1172 dL_law_1173 dL_law_1174 ?_
  refine rArg C X hi hl 5 (by decide) rfl dL_law_1175 dL_law_1176 dL_law_1177 dL_law_1178 dL_law_1179 ?_
  refine rK6I (As := [.int (xs (i + 1)), .int (xs (i + 2)), .int (xs (i + 3)), .int (xs (i + 4)), .int (xs (i + 5))]) (rest := [.int r]) c6 rfl lX6_copy k_1342 rfl rfl C X rfl (by simp [Value.category]) hl.1 ⟨Nat.le_of_ble_eq_true rfl, Nat.le_of_ble_eq_true rfl⟩ hcs dL_law_1180 (fun H locs X => ?_)
  refine lv_icmp_eq (tgt := 1274) hx hb dL_law_1183 (by decide) (fun _ => ?_) (fun h => absurd rfl h)
  exact next μ1 μM1 νM1 H locs hR1 X
set_option maxRecDepth 20000 in
theorem lk_points {p : Program} {l : Launch} {e : Env} {s : State} {m : MethodId} {below : List Frame} {meth : Method} {c : Code} {D : va_G} {cy : Nat → ClassId} {ad5 ad6 : Nat → Nat} {b L : Nat} {xs : Nat → Int32} {μ μM : Mem} {ν νM : Lem} {H : Heap} {locs : List Loc} {ls : Array Slot} {i cells slots : Nat} (C : LC p s m meth c D cy ad5 ad6 b L xs) (hR : RR μ μM) (X : LW s D cy ad5 ad6 μ ν μM νM H locs) (hi : i + 6 ≤ L) (hl : lv_has ls 4 (lLoc ad5 ad6 b i)) (hcs : cells ≤ 600000 ∧ slots ≤ 7302250)
    (next : ∀ (μ1 μM1 : Mem) (νM1 : Lem) (H1 : Heap) (locs1 : List Loc), RR μ1 μM1 → LW s D cy ad5 ad6 μ1 ν μM1 νM1 H1 locs1 → W p l e room_1 s m #[Value.ref b] below meth c H1 locs1 cells slots (lw_Z below #[Value.ref b] s) (F0 m 1274 ls [])) : W p l e room_1 s m #[Value.ref b] below meth c H locs cells slots (lw_Z below #[Value.ref b] s) (F0 m 1188 ls []) := by
  have hx := C.1.1.1
  have hb := C.1.1.2.1
  obtain ⟨r, μ1, μM1, νM1, c5, c6, hR1⟩ := bo_points ν νM hR (xs (i + 1)) (xs (i + 2)) (xs (i + 3)) (xs (i + 4))
  refine lv_aload_n hx hb dL_law_1188 rfl (lv_at hl 2 rfl) ?_
  refine rArg C X hi hl 1 (by decide) rfl dL_law_1189 dL_law_1190 dL_law_1191 dL_law_1192 dL_law_1193 ?_
  refine rArg C X hi hl 2 (by decide) rfl dL_law_1194 dL_law_1195 dL_law_1196 dL_law_1197 dL_law_1198 ?_
  refine rArg C X hi hl 3 (by decide) rfl dL_law_1199 dL_law_1200 dL_law_1201 dL_law_1202 dL_law_1203 ?_
  refine rArg C X hi hl 4 (by decide) rfl dL_law_1204 dL_law_1205 dL_law_1206 dL_law_1207 dL_law_1208 ?_
  refine rK5I (As := [.int (xs (i + 1)), .int (xs (i + 2)), .int (xs (i + 3)), .int (xs (i + 4))]) (rest := []) c5 rfl lX5_points k_764 rfl rfl C X rfl (by decide) hl.1 ⟨Nat.le_of_ble_eq_true rfl, Nat.le_of_ble_eq_true rfl⟩ hcs dL_law_1209 (fun H locs X => ?_)
  refine lv_aload_n hx hb dL_law_1212 rfl (lv_at hl 1 rfl) ?_
  refine rArg C X hi hl 1 (by decide) rfl dL_law_1213 dL_law_1214 dL_law_1215 dL_law_1216 dL_law_1217 ?_
  refine rArg C X hi hl 2 (by decide) rfl dL_law_1218 dL_law_1219 dL_law_1220 dL_law_1221 dL_law_1222 ?_
  refine rArg C X hi hl 3 (by decide) rfl dL_law_1223 dL_law_1224 dL_law_1225 dL_law_1226 dL_law_1227 ?_
  refine rArg C X hi hl 4 (by decide) rfl dL_law_1228 dL_law_1229 dL_law_1230 dL_law_1231 dL_law_1232 ?_
  refine rK6I (As := [.int (xs (i + 1)), .int (xs (i + 2)), .int (xs (i + 3)), .int (xs (i + 4))]) (rest := [.int r]) c6 rfl lX6_points k_1346 rfl rfl C X rfl (by simp [Value.category]) hl.1 ⟨Nat.le_of_ble_eq_true rfl, Nat.le_of_ble_eq_true rfl⟩ hcs dL_law_1233 (fun H locs X => ?_)
  refine lv_icmp_eq (tgt := 1274) hx hb dL_law_1236 (by decide) (fun _ => ?_) (fun h => absurd rfl h)
  exact next μ1 μM1 νM1 H locs hR1 X
set_option maxRecDepth 20000 in
theorem lk_taken {p : Program} {l : Launch} {e : Env} {s : State} {m : MethodId} {below : List Frame} {meth : Method} {c : Code} {D : va_G} {cy : Nat → ClassId} {ad5 ad6 : Nat → Nat} {b L : Nat} {xs : Nat → Int32} {μ μM : Mem} {ν νM : Lem} {H : Heap} {locs : List Loc} {ls : Array Slot} {i cells slots : Nat} (C : LC p s m meth c D cy ad5 ad6 b L xs) (hR : RR μ μM) (X : LW s D cy ad5 ad6 μ ν μM νM H locs) (hi : i + 6 ≤ L) (hl : lv_has ls 4 (lLoc ad5 ad6 b i)) (hcs : cells ≤ 600000 ∧ slots ≤ 7302250)
    (next : ∀ (μ1 μM1 : Mem) (νM1 : Lem) (H1 : Heap) (locs1 : List Loc), RR μ1 μM1 → LW s D cy ad5 ad6 μ1 ν μM1 νM1 H1 locs1 → W p l e room_1 s m #[Value.ref b] below meth c H1 locs1 cells slots (lw_Z below #[Value.ref b] s) (F0 m 1274 ls [])) : W p l e room_1 s m #[Value.ref b] below meth c H locs cells slots (lw_Z below #[Value.ref b] s) (F0 m 1241 ls []) := by
  have hx := C.1.1.1
  have hb := C.1.1.2.1
  obtain ⟨r, μ1, μM1, νM1, c5, c6, hR1⟩ := bo_taken ν νM hR (xs (i + 1)) (xs (i + 2))
  refine lv_aload_n hx hb dL_law_1241 rfl (lv_at hl 2 rfl) ?_
  refine rArg C X hi hl 1 (by decide) rfl dL_law_1242 dL_law_1243 dL_law_1244 dL_law_1245 dL_law_1246 ?_
  refine rArg C X hi hl 2 (by decide) rfl dL_law_1247 dL_law_1248 dL_law_1249 dL_law_1250 dL_law_1251 ?_
  refine rK5I (As := [.int (xs (i + 1)), .int (xs (i + 2))]) (rest := []) c5 rfl lX5_taken k_768 rfl rfl C X rfl (by decide) hl.1 ⟨Nat.le_of_ble_eq_true rfl, Nat.le_of_ble_eq_true rfl⟩ hcs dL_law_1252 (fun H locs X => ?_)
  refine lv_aload_n hx hb dL_law_1255 rfl (lv_at hl 1 rfl) ?_
  refine rArg C X hi hl 1 (by decide) rfl dL_law_1256 dL_law_1257 dL_law_1258 dL_law_1259 dL_law_1260 ?_
  refine rArg C X hi hl 2 (by decide) rfl dL_law_1261 dL_law_1262 dL_law_1263 dL_law_1264 dL_law_1265 ?_
  refine rK6I (As := [.int (xs (i + 1)), .int (xs (i + 2))]) (rest := [.int r]) c6 rfl lX6_taken k_1352 rfl rfl C X rfl (by simp [Value.category]) hl.1 ⟨Nat.le_of_ble_eq_true rfl, Nat.le_of_ble_eq_true rfl⟩ hcs dL_law_1266 (fun H locs X => ?_)
  refine lv_icmp_eq (tgt := 1274) hx hb dL_law_1269 (by decide) (fun _ => ?_) (fun h => absurd rfl h)
  exact next μ1 μM1 νM1 H locs hR1 X
