theorem nT_sub {a b : Nat} (ha : a < 1000000) (hb : b < 1000000) : (nI a - nI b).toInt = (a : Int) - (b : Int) := by
  rw [Int32.toInt_sub, nT, nT, Int.bmod_def]; omega
theorem law_go {i L : Nat} (hL : L ≤ 384) (h : i + 6 ≤ L) : ¬ nI L - nI 6 < nI i := by
  rw [sI_lt, nT_sub (by omega) (by decide), nT]; omega
theorem law_end {i L : Nat} (hL : L ≤ 384) (hi : i ≤ 400) (h : ¬ i + 6 ≤ L) : nI L - nI 6 < nI i := by
  rw [sI_lt, nT_sub (by omega) (by decide), nT]; omega
theorem law_c0 {V : VV} {d i : Nat} {μ : Memo} {Q : Option AVal → Memo → Prop} (hL : V.2.1.1 ≤ 384) (hi : i + 6 ≤ V.2.1.1) (hS : Sim μ) (hk : ∀ μ', Sim μ' → Go V (d + 68) mL_law 1408 [some (vR 220), some (vR 0), some (vR 76), some (vI (nI i))] [] μ' Q) : Go V (d + 68) mL_law 208 [some (vR 220), some (vR 0), some (vR 76), some (vI (nI i))] [] μ Q := by
  refine Go.aload_n dL_law_208 rfl ?_
  refine Go.aload_n dL_law_209 rfl ?_
  refine Go.iload_n dL_law_210 rfl ?_
  refine Go.iconst (v := nI 1) dL_law_211 rfl ?_
  refine Go.iaddN dL_law_212 ?_
  refine Go.ialoadR (i + 1) dL_law_213 rfl (Nat.lt_of_le_of_lt hL (by decide)) (Nat.lt_of_lt_of_le (Nat.add_lt_add_left (by decide) i) hi) rfl ?_
  refine Go.at 214 rfl ?_
  refine Go.aload_n dL_law_214 rfl ?_
  refine Go.iload_n dL_law_215 rfl ?_
  refine Go.iconst (v := nI 2) dL_law_216 rfl ?_
  refine Go.iaddN dL_law_217 ?_
  refine Go.ialoadR (i + 2) dL_law_218 rfl (Nat.lt_of_le_of_lt hL (by decide)) (Nat.lt_of_lt_of_le (Nat.add_lt_add_left (by decide) i) hi) rfl ?_
  refine Go.aload_n dL_law_219 rfl ?_
  refine Go.at 220 rfl ?_
  refine Go.iload_n dL_law_220 rfl ?_
  refine Go.iconst (v := nI 3) dL_law_221 rfl ?_
  refine Go.iaddN dL_law_222 ?_
  refine Go.ialoadR (i + 3) dL_law_223 rfl (Nat.lt_of_le_of_lt hL (by decide)) (Nat.lt_of_lt_of_le (Nat.add_lt_add_left (by decide) i) hi) rfl ?_
  refine Go.callV 0 [vI (V.2.1.2 (i + 1)), vI (V.2.1.2 (i + 2)), vI (V.2.1.2 (i + 3))] [] dL_law_224 lkL_13.1 lkL_13.2.1 lkL_13.2.2.1 lkL_13.2.2.2 (Or.inl ⟨_, _, _, rfl, rfl, rfl⟩) rfl (Nat.le_of_ble_eq_true rfl) rfl (Nat.le_of_ble_eq_true rfl) (Go.mono (op_land hS (V.2.1.2 (i + 1)) (V.2.1.2 (i + 2)) (V.2.1.2 (i + 3))) ?_)
  rintro r μ1 ⟨x, rfl, hm⟩
  show Go V (d + 68) mL_law 227 [some (vR 220), some (vR 0), some (vR 76), some (vI (nI i))] [vI x] μ1 _
  refine Go.aload_n dL_law_227 rfl ?_
  refine Go.aload_n dL_law_228 rfl ?_
  refine Go.iload_n dL_law_229 rfl ?_
  refine Go.iconst (v := nI 1) dL_law_230 rfl ?_
  refine Go.iaddN dL_law_231 ?_
  refine Go.ialoadR (i + 1) dL_law_232 rfl (Nat.lt_of_le_of_lt hL (by decide)) (Nat.lt_of_lt_of_le (Nat.add_lt_add_left (by decide) i) hi) rfl ?_
  refine Go.at 233 rfl ?_
  refine Go.aload_n dL_law_233 rfl ?_
  refine Go.iload_n dL_law_234 rfl ?_
  refine Go.iconst (v := nI 2) dL_law_235 rfl ?_
  refine Go.iaddN dL_law_236 ?_
  refine Go.ialoadR (i + 2) dL_law_237 rfl (Nat.lt_of_le_of_lt hL (by decide)) (Nat.lt_of_lt_of_le (Nat.add_lt_add_left (by decide) i) hi) rfl ?_
  refine Go.aload_n dL_law_238 rfl ?_
  refine Go.at 239 rfl ?_
  refine Go.iload_n dL_law_239 rfl ?_
  refine Go.iconst (v := nI 3) dL_law_240 rfl ?_
  refine Go.iaddN dL_law_241 ?_
  refine Go.ialoadR (i + 3) dL_law_242 rfl (Nat.lt_of_le_of_lt hL (by decide)) (Nat.lt_of_lt_of_le (Nat.add_lt_add_left (by decide) i) hi) rfl ?_
  refine Go.callV 76 [vI (V.2.1.2 (i + 1)), vI (V.2.1.2 (i + 2)), vI (V.2.1.2 (i + 3))] [vI x] dL_law_243 lkL_17.1 lkL_17.2.1 lkL_17.2.2.1 lkL_17.2.2.2 (Or.inl ⟨_, _, _, rfl, rfl, rfl⟩) rfl (Nat.le_of_ble_eq_true rfl) rfl (Nat.le_of_ble_eq_true rfl) (Go.mono hm ?_)
  rintro r μ2 ⟨rfl, hS2⟩
  show Go V (d + 68) mL_law 246 [some (vR 220), some (vR 0), some (vR 76), some (vI (nI i))] [vI x, vI x] μ2 _
  refine Go.icmp_eq_t (tgt := 1408) dL_law_246 (by decide) rfl ?_
  exact hk μ2 hS2
theorem law_c1 {V : VV} {d i : Nat} {μ : Memo} {Q : Option AVal → Memo → Prop} (hL : V.2.1.1 ≤ 384) (hi : i + 6 ≤ V.2.1.1) (hS : Sim μ) (hk : ∀ μ', Sim μ' → Go V (d + 68) mL_law 1408 [some (vR 220), some (vR 0), some (vR 76), some (vI (nI i))] [] μ' Q) : Go V (d + 68) mL_law 251 [some (vR 220), some (vR 0), some (vR 76), some (vI (nI i))] [] μ Q := by
  refine Go.aload_n dL_law_251 rfl ?_
  refine Go.aload_n dL_law_252 rfl ?_
  refine Go.iload_n dL_law_253 rfl ?_
  refine Go.iconst (v := nI 1) dL_law_254 rfl ?_
  refine Go.iaddN dL_law_255 ?_
  refine Go.ialoadR (i + 1) dL_law_256 rfl (Nat.lt_of_le_of_lt hL (by decide)) (Nat.lt_of_lt_of_le (Nat.add_lt_add_left (by decide) i) hi) rfl ?_
  refine Go.at 257 rfl ?_
  refine Go.aload_n dL_law_257 rfl ?_
  refine Go.iload_n dL_law_258 rfl ?_
  refine Go.iconst (v := nI 2) dL_law_259 rfl ?_
  refine Go.iaddN dL_law_260 ?_
  refine Go.ialoadR (i + 2) dL_law_261 rfl (Nat.lt_of_le_of_lt hL (by decide)) (Nat.lt_of_lt_of_le (Nat.add_lt_add_left (by decide) i) hi) rfl ?_
  refine Go.callV 0 [vI (V.2.1.2 (i + 1)), vI (V.2.1.2 (i + 2))] [] dL_law_262 lkL_18.1 lkL_18.2.1 lkL_18.2.2.1 lkL_18.2.2.2 (Or.inl ⟨_, _, _, rfl, rfl, rfl⟩) rfl (Nat.le_of_ble_eq_true rfl) rfl (Nat.le_of_ble_eq_true rfl) (Go.mono (op_told hS (V.2.1.2 (i + 1)) (V.2.1.2 (i + 2))) ?_)
  rintro r μ1 ⟨x, rfl, hm⟩
  show Go V (d + 68) mL_law 265 [some (vR 220), some (vR 0), some (vR 76), some (vI (nI i))] [vI x] μ1 _
  refine Go.aload_n dL_law_265 rfl ?_
  refine Go.aload_n dL_law_266 rfl ?_
  refine Go.iload_n dL_law_267 rfl ?_
  refine Go.iconst (v := nI 1) dL_law_268 rfl ?_
  refine Go.iaddN dL_law_269 ?_
  refine Go.ialoadR (i + 1) dL_law_270 rfl (Nat.lt_of_le_of_lt hL (by decide)) (Nat.lt_of_lt_of_le (Nat.add_lt_add_left (by decide) i) hi) rfl ?_
  refine Go.at 271 rfl ?_
  refine Go.aload_n dL_law_271 rfl ?_
  refine Go.iload_n dL_law_272 rfl ?_
  refine Go.iconst (v := nI 2) dL_law_273 rfl ?_
  refine Go.iaddN dL_law_274 ?_
  refine Go.ialoadR (i + 2) dL_law_275 rfl (Nat.lt_of_le_of_lt hL (by decide)) (Nat.lt_of_lt_of_le (Nat.add_lt_add_left (by decide) i) hi) rfl ?_
  refine Go.callV 76 [vI (V.2.1.2 (i + 1)), vI (V.2.1.2 (i + 2))] [vI x] dL_law_276 lkL_22.1 lkL_22.2.1 lkL_22.2.2.1 lkL_22.2.2.2 (Or.inl ⟨_, _, _, rfl, rfl, rfl⟩) rfl (Nat.le_of_ble_eq_true rfl) rfl (Nat.le_of_ble_eq_true rfl) (Go.mono hm ?_)
  rintro r μ2 ⟨rfl, hS2⟩
  show Go V (d + 68) mL_law 279 [some (vR 220), some (vR 0), some (vR 76), some (vI (nI i))] [vI x, vI x] μ2 _
  refine Go.icmp_eq_t (tgt := 1408) dL_law_279 (by decide) rfl ?_
  exact hk μ2 hS2
theorem law_c2 {V : VV} {d i : Nat} {μ : Memo} {Q : Option AVal → Memo → Prop} (hL : V.2.1.1 ≤ 384) (hi : i + 6 ≤ V.2.1.1) (hS : Sim μ) (hk : ∀ μ', Sim μ' → Go V (d + 68) mL_law 1408 [some (vR 220), some (vR 0), some (vR 76), some (vI (nI i))] [] μ' Q) : Go V (d + 68) mL_law 284 [some (vR 220), some (vR 0), some (vR 76), some (vI (nI i))] [] μ Q := by
  refine Go.aload_n dL_law_284 rfl ?_
  refine Go.aload_n dL_law_285 rfl ?_
  refine Go.iload_n dL_law_286 rfl ?_
  refine Go.iconst (v := nI 1) dL_law_287 rfl ?_
  refine Go.iaddN dL_law_288 ?_
  refine Go.ialoadR (i + 1) dL_law_289 rfl (Nat.lt_of_le_of_lt hL (by decide)) (Nat.lt_of_lt_of_le (Nat.add_lt_add_left (by decide) i) hi) rfl ?_
  refine Go.at 290 rfl ?_
  refine Go.aload_n dL_law_290 rfl ?_
  refine Go.iload_n dL_law_291 rfl ?_
  refine Go.iconst (v := nI 2) dL_law_292 rfl ?_
  refine Go.iaddN dL_law_293 ?_
  refine Go.ialoadR (i + 2) dL_law_294 rfl (Nat.lt_of_le_of_lt hL (by decide)) (Nat.lt_of_lt_of_le (Nat.add_lt_add_left (by decide) i) hi) rfl ?_
  refine Go.callV 0 [vI (V.2.1.2 (i + 1)), vI (V.2.1.2 (i + 2))] [] dL_law_295 lkL_23.1 lkL_23.2.1 lkL_23.2.2.1 lkL_23.2.2.2 (Or.inl ⟨_, _, _, rfl, rfl, rfl⟩) rfl (Nat.le_of_ble_eq_true rfl) rfl (Nat.le_of_ble_eq_true rfl) (Go.mono (op_as hS (V.2.1.2 (i + 1)) (V.2.1.2 (i + 2))) ?_)
  rintro r μ1 ⟨x, rfl, hm⟩
  show Go V (d + 68) mL_law 298 [some (vR 220), some (vR 0), some (vR 76), some (vI (nI i))] [vI x] μ1 _
  refine Go.aload_n dL_law_298 rfl ?_
  refine Go.aload_n dL_law_299 rfl ?_
  refine Go.iload_n dL_law_300 rfl ?_
  refine Go.iconst (v := nI 1) dL_law_301 rfl ?_
  refine Go.iaddN dL_law_302 ?_
  refine Go.ialoadR (i + 1) dL_law_303 rfl (Nat.lt_of_le_of_lt hL (by decide)) (Nat.lt_of_lt_of_le (Nat.add_lt_add_left (by decide) i) hi) rfl ?_
  refine Go.at 304 rfl ?_
  refine Go.aload_n dL_law_304 rfl ?_
  refine Go.iload_n dL_law_305 rfl ?_
  refine Go.iconst (v := nI 2) dL_law_306 rfl ?_
  refine Go.iaddN dL_law_307 ?_
  refine Go.ialoadR (i + 2) dL_law_308 rfl (Nat.lt_of_le_of_lt hL (by decide)) (Nat.lt_of_lt_of_le (Nat.add_lt_add_left (by decide) i) hi) rfl ?_
  refine Go.callV 76 [vI (V.2.1.2 (i + 1)), vI (V.2.1.2 (i + 2))] [vI x] dL_law_309 lkL_26.1 lkL_26.2.1 lkL_26.2.2.1 lkL_26.2.2.2 (Or.inl ⟨_, _, _, rfl, rfl, rfl⟩) rfl (Nat.le_of_ble_eq_true rfl) rfl (Nat.le_of_ble_eq_true rfl) (Go.mono hm ?_)
  rintro r μ2 ⟨rfl, hS2⟩
  show Go V (d + 68) mL_law 312 [some (vR 220), some (vR 0), some (vR 76), some (vI (nI i))] [vI x, vI x] μ2 _
  refine Go.icmp_eq_t (tgt := 1408) dL_law_312 (by decide) rfl ?_
  exact hk μ2 hS2
theorem law_c3 {V : VV} {d i : Nat} {μ : Memo} {Q : Option AVal → Memo → Prop} (hL : V.2.1.1 ≤ 384) (hi : i + 6 ≤ V.2.1.1) (hS : Sim μ) (hk : ∀ μ', Sim μ' → Go V (d + 68) mL_law 1408 [some (vR 220), some (vR 0), some (vR 76), some (vI (nI i))] [] μ' Q) : Go V (d + 68) mL_law 317 [some (vR 220), some (vR 0), some (vR 76), some (vI (nI i))] [] μ Q := by
  refine Go.aload_n dL_law_317 rfl ?_
  refine Go.aload_n dL_law_318 rfl ?_
  refine Go.iload_n dL_law_319 rfl ?_
  refine Go.iconst (v := nI 1) dL_law_320 rfl ?_
  refine Go.iaddN dL_law_321 ?_
  refine Go.ialoadR (i + 1) dL_law_322 rfl (Nat.lt_of_le_of_lt hL (by decide)) (Nat.lt_of_lt_of_le (Nat.add_lt_add_left (by decide) i) hi) rfl ?_
  refine Go.at 323 rfl ?_
  refine Go.aload_n dL_law_323 rfl ?_
  refine Go.iload_n dL_law_324 rfl ?_
  refine Go.iconst (v := nI 2) dL_law_325 rfl ?_
  refine Go.iaddN dL_law_326 ?_
  refine Go.ialoadR (i + 2) dL_law_327 rfl (Nat.lt_of_le_of_lt hL (by decide)) (Nat.lt_of_lt_of_le (Nat.add_lt_add_left (by decide) i) hi) rfl ?_
  refine Go.callV 0 [vI (V.2.1.2 (i + 1)), vI (V.2.1.2 (i + 2))] [] dL_law_328 lkL_27.1 lkL_27.2.1 lkL_27.2.2.1 lkL_27.2.2.2 (Or.inl ⟨_, _, _, rfl, rfl, rfl⟩) rfl (Nat.le_of_ble_eq_true rfl) rfl (Nat.le_of_ble_eq_true rfl) (Go.mono (op_turns hS (V.2.1.2 (i + 1)) (V.2.1.2 (i + 2))) ?_)
  rintro r μ1 ⟨x, rfl, hm⟩
  show Go V (d + 68) mL_law 331 [some (vR 220), some (vR 0), some (vR 76), some (vI (nI i))] [vI x] μ1 _
  refine Go.aload_n dL_law_331 rfl ?_
  refine Go.aload_n dL_law_332 rfl ?_
  refine Go.iload_n dL_law_333 rfl ?_
  refine Go.iconst (v := nI 1) dL_law_334 rfl ?_
  refine Go.iaddN dL_law_335 ?_
  refine Go.ialoadR (i + 1) dL_law_336 rfl (Nat.lt_of_le_of_lt hL (by decide)) (Nat.lt_of_lt_of_le (Nat.add_lt_add_left (by decide) i) hi) rfl ?_
  refine Go.at 337 rfl ?_
  refine Go.aload_n dL_law_337 rfl ?_
  refine Go.iload_n dL_law_338 rfl ?_
  refine Go.iconst (v := nI 2) dL_law_339 rfl ?_
  refine Go.iaddN dL_law_340 ?_
  refine Go.ialoadR (i + 2) dL_law_341 rfl (Nat.lt_of_le_of_lt hL (by decide)) (Nat.lt_of_lt_of_le (Nat.add_lt_add_left (by decide) i) hi) rfl ?_
  refine Go.callV 76 [vI (V.2.1.2 (i + 1)), vI (V.2.1.2 (i + 2))] [vI x] dL_law_342 lkL_30.1 lkL_30.2.1 lkL_30.2.2.1 lkL_30.2.2.2 (Or.inl ⟨_, _, _, rfl, rfl, rfl⟩) rfl (Nat.le_of_ble_eq_true rfl) rfl (Nat.le_of_ble_eq_true rfl) (Go.mono hm ?_)
  rintro r μ2 ⟨rfl, hS2⟩
  show Go V (d + 68) mL_law 345 [some (vR 220), some (vR 0), some (vR 76), some (vI (nI i))] [vI x, vI x] μ2 _
  refine Go.icmp_eq_t (tgt := 1408) dL_law_345 (by decide) rfl ?_
  exact hk μ2 hS2
theorem law_c4 {V : VV} {d i : Nat} {μ : Memo} {Q : Option AVal → Memo → Prop} (hL : V.2.1.1 ≤ 384) (hi : i + 6 ≤ V.2.1.1) (hS : Sim μ) (hk : ∀ μ', Sim μ' → Go V (d + 68) mL_law 1408 [some (vR 220), some (vR 0), some (vR 76), some (vI (nI i))] [] μ' Q) : Go V (d + 68) mL_law 350 [some (vR 220), some (vR 0), some (vR 76), some (vI (nI i))] [] μ Q := by
  refine Go.aload_n dL_law_350 rfl ?_
  refine Go.aload_n dL_law_351 rfl ?_
  refine Go.iload_n dL_law_352 rfl ?_
  refine Go.iconst (v := nI 1) dL_law_353 rfl ?_
  refine Go.iaddN dL_law_354 ?_
  refine Go.ialoadR (i + 1) dL_law_355 rfl (Nat.lt_of_le_of_lt hL (by decide)) (Nat.lt_of_lt_of_le (Nat.add_lt_add_left (by decide) i) hi) rfl ?_
  refine Go.at 356 rfl ?_
  refine Go.aload_n dL_law_356 rfl ?_
  refine Go.iload_n dL_law_357 rfl ?_
  refine Go.iconst (v := nI 2) dL_law_358 rfl ?_
  refine Go.iaddN dL_law_359 ?_
  refine Go.ialoadR (i + 2) dL_law_360 rfl (Nat.lt_of_le_of_lt hL (by decide)) (Nat.lt_of_lt_of_le (Nat.add_lt_add_left (by decide) i) hi) rfl ?_
  refine Go.aload_n dL_law_361 rfl ?_
  refine Go.at 362 rfl ?_
  refine Go.iload_n dL_law_362 rfl ?_
  refine Go.iconst (v := nI 3) dL_law_363 rfl ?_
  refine Go.iaddN dL_law_364 ?_
  refine Go.ialoadR (i + 3) dL_law_365 rfl (Nat.lt_of_le_of_lt hL (by decide)) (Nat.lt_of_lt_of_le (Nat.add_lt_add_left (by decide) i) hi) rfl ?_
  refine Go.callV 0 [vI (V.2.1.2 (i + 1)), vI (V.2.1.2 (i + 2)), vI (V.2.1.2 (i + 3))] [] dL_law_366 lkL_31.1 lkL_31.2.1 lkL_31.2.2.1 lkL_31.2.2.2 (Or.inl ⟨_, _, _, rfl, rfl, rfl⟩) rfl (Nat.le_of_ble_eq_true rfl) rfl (Nat.le_of_ble_eq_true rfl) (Go.mono (op_set hS (V.2.1.2 (i + 1)) (V.2.1.2 (i + 2)) (V.2.1.2 (i + 3))) ?_)
  rintro r μ1 ⟨x, rfl, hm⟩
  show Go V (d + 68) mL_law 369 [some (vR 220), some (vR 0), some (vR 76), some (vI (nI i))] [vI x] μ1 _
  refine Go.aload_n dL_law_369 rfl ?_
  refine Go.aload_n dL_law_370 rfl ?_
  refine Go.iload_n dL_law_371 rfl ?_
  refine Go.iconst (v := nI 1) dL_law_372 rfl ?_
  refine Go.iaddN dL_law_373 ?_
  refine Go.ialoadR (i + 1) dL_law_374 rfl (Nat.lt_of_le_of_lt hL (by decide)) (Nat.lt_of_lt_of_le (Nat.add_lt_add_left (by decide) i) hi) rfl ?_
  refine Go.at 375 rfl ?_
  refine Go.aload_n dL_law_375 rfl ?_
  refine Go.iload_n dL_law_376 rfl ?_
  refine Go.iconst (v := nI 2) dL_law_377 rfl ?_
  refine Go.iaddN dL_law_378 ?_
  refine Go.ialoadR (i + 2) dL_law_379 rfl (Nat.lt_of_le_of_lt hL (by decide)) (Nat.lt_of_lt_of_le (Nat.add_lt_add_left (by decide) i) hi) rfl ?_
  refine Go.aload_n dL_law_380 rfl ?_
  refine Go.at 381 rfl ?_
  refine Go.iload_n dL_law_381 rfl ?_
  refine Go.iconst (v := nI 3) dL_law_382 rfl ?_
  refine Go.iaddN dL_law_383 ?_
  refine Go.ialoadR (i + 3) dL_law_384 rfl (Nat.lt_of_le_of_lt hL (by decide)) (Nat.lt_of_lt_of_le (Nat.add_lt_add_left (by decide) i) hi) rfl ?_
  refine Go.callV 76 [vI (V.2.1.2 (i + 1)), vI (V.2.1.2 (i + 2)), vI (V.2.1.2 (i + 3))] [vI x] dL_law_385 lkL_34.1 lkL_34.2.1 lkL_34.2.2.1 lkL_34.2.2.2 (Or.inl ⟨_, _, _, rfl, rfl, rfl⟩) rfl (Nat.le_of_ble_eq_true rfl) rfl (Nat.le_of_ble_eq_true rfl) (Go.mono hm ?_)
  rintro r μ2 ⟨rfl, hS2⟩
  show Go V (d + 68) mL_law 388 [some (vR 220), some (vR 0), some (vR 76), some (vI (nI i))] [vI x, vI x] μ2 _
  refine Go.icmp_eq_t (tgt := 1408) dL_law_388 (by decide) rfl ?_
  exact hk μ2 hS2
theorem law_c5 {V : VV} {d i : Nat} {μ : Memo} {Q : Option AVal → Memo → Prop} (hL : V.2.1.1 ≤ 384) (hi : i + 6 ≤ V.2.1.1) (hS : Sim μ) (hk : ∀ μ', Sim μ' → Go V (d + 68) mL_law 1408 [some (vR 220), some (vR 0), some (vR 76), some (vI (nI i))] [] μ' Q) : Go V (d + 68) mL_law 393 [some (vR 220), some (vR 0), some (vR 76), some (vI (nI i))] [] μ Q := by
  refine Go.aload_n dL_law_393 rfl ?_
  refine Go.aload_n dL_law_394 rfl ?_
  refine Go.iload_n dL_law_395 rfl ?_
  refine Go.iconst (v := nI 1) dL_law_396 rfl ?_
  refine Go.iaddN dL_law_397 ?_
  refine Go.ialoadR (i + 1) dL_law_398 rfl (Nat.lt_of_le_of_lt hL (by decide)) (Nat.lt_of_lt_of_le (Nat.add_lt_add_left (by decide) i) hi) rfl ?_
  refine Go.at 399 rfl ?_
  refine Go.aload_n dL_law_399 rfl ?_
  refine Go.iload_n dL_law_400 rfl ?_
  refine Go.iconst (v := nI 2) dL_law_401 rfl ?_
  refine Go.iaddN dL_law_402 ?_
  refine Go.ialoadR (i + 2) dL_law_403 rfl (Nat.lt_of_le_of_lt hL (by decide)) (Nat.lt_of_lt_of_le (Nat.add_lt_add_left (by decide) i) hi) rfl ?_
  refine Go.callV 0 [vI (V.2.1.2 (i + 1)), vI (V.2.1.2 (i + 2))] [] dL_law_404 lkL_35.1 lkL_35.2.1 lkL_35.2.2.1 lkL_35.2.2.2 (Or.inl ⟨_, _, _, rfl, rfl, rfl⟩) rfl (Nat.le_of_ble_eq_true rfl) rfl (Nat.le_of_ble_eq_true rfl) (Go.mono (op_sea hS (V.2.1.2 (i + 1)) (V.2.1.2 (i + 2))) ?_)
  rintro r μ1 ⟨x, rfl, hm⟩
  show Go V (d + 68) mL_law 407 [some (vR 220), some (vR 0), some (vR 76), some (vI (nI i))] [vI x] μ1 _
  refine Go.aload_n dL_law_407 rfl ?_
  refine Go.aload_n dL_law_408 rfl ?_
  refine Go.iload_n dL_law_409 rfl ?_
  refine Go.iconst (v := nI 1) dL_law_410 rfl ?_
  refine Go.iaddN dL_law_411 ?_
  refine Go.ialoadR (i + 1) dL_law_412 rfl (Nat.lt_of_le_of_lt hL (by decide)) (Nat.lt_of_lt_of_le (Nat.add_lt_add_left (by decide) i) hi) rfl ?_
  refine Go.at 413 rfl ?_
  refine Go.aload_n dL_law_413 rfl ?_
  refine Go.iload_n dL_law_414 rfl ?_
  refine Go.iconst (v := nI 2) dL_law_415 rfl ?_
  refine Go.iaddN dL_law_416 ?_
  refine Go.ialoadR (i + 2) dL_law_417 rfl (Nat.lt_of_le_of_lt hL (by decide)) (Nat.lt_of_lt_of_le (Nat.add_lt_add_left (by decide) i) hi) rfl ?_
  refine Go.callV 76 [vI (V.2.1.2 (i + 1)), vI (V.2.1.2 (i + 2))] [vI x] dL_law_418 lkL_38.1 lkL_38.2.1 lkL_38.2.2.1 lkL_38.2.2.2 (Or.inl ⟨_, _, _, rfl, rfl, rfl⟩) rfl (Nat.le_of_ble_eq_true rfl) rfl (Nat.le_of_ble_eq_true rfl) (Go.mono hm ?_)
  rintro r μ2 ⟨rfl, hS2⟩
  show Go V (d + 68) mL_law 421 [some (vR 220), some (vR 0), some (vR 76), some (vI (nI i))] [vI x, vI x] μ2 _
  refine Go.icmp_eq_t (tgt := 1408) dL_law_421 (by decide) rfl ?_
  exact hk μ2 hS2
theorem law_c6 {V : VV} {d i : Nat} {μ : Memo} {Q : Option AVal → Memo → Prop} (hL : V.2.1.1 ≤ 384) (hi : i + 6 ≤ V.2.1.1) (hS : Sim μ) (hk : ∀ μ', Sim μ' → Go V (d + 68) mL_law 1408 [some (vR 220), some (vR 0), some (vR 76), some (vI (nI i))] [] μ' Q) : Go V (d + 68) mL_law 426 [some (vR 220), some (vR 0), some (vR 76), some (vI (nI i))] [] μ Q := by
  refine Go.aload_n dL_law_426 rfl ?_
  refine Go.callV 0 [] [] dL_law_427 lkL_39.1 lkL_39.2.1 lkL_39.2.2.1 lkL_39.2.2.2 (Or.inl ⟨_, _, _, rfl, rfl, rfl⟩) rfl (Nat.le_of_ble_eq_true rfl) rfl (Nat.le_of_ble_eq_true rfl) (Go.mono (op_deal hS) ?_)
  rintro r μ1 ⟨x, rfl, hm⟩
  show Go V (d + 68) mL_law 430 [some (vR 220), some (vR 0), some (vR 76), some (vI (nI i))] [vI x] μ1 _
  refine Go.aload_n dL_law_430 rfl ?_
  refine Go.callV 76 [] [vI x] dL_law_431 lkL_43.1 lkL_43.2.1 lkL_43.2.2.1 lkL_43.2.2.2 (Or.inl ⟨_, _, _, rfl, rfl, rfl⟩) rfl (Nat.le_of_ble_eq_true rfl) rfl (Nat.le_of_ble_eq_true rfl) (Go.mono hm ?_)
  rintro r μ2 ⟨rfl, hS2⟩
  show Go V (d + 68) mL_law 434 [some (vR 220), some (vR 0), some (vR 76), some (vI (nI i))] [vI x, vI x] μ2 _
  refine Go.icmp_eq_t (tgt := 1408) dL_law_434 (by decide) rfl ?_
  exact hk μ2 hS2
theorem law_c7 {V : VV} {d i : Nat} {μ : Memo} {Q : Option AVal → Memo → Prop} (hL : V.2.1.1 ≤ 384) (hi : i + 6 ≤ V.2.1.1) (hS : Sim μ) (hk : ∀ μ', Sim μ' → Go V (d + 68) mL_law 1408 [some (vR 220), some (vR 0), some (vR 76), some (vI (nI i))] [] μ' Q) : Go V (d + 68) mL_law 439 [some (vR 220), some (vR 0), some (vR 76), some (vI (nI i))] [] μ Q := by
  refine Go.aload_n dL_law_439 rfl ?_
  refine Go.aload_n dL_law_440 rfl ?_
  refine Go.iload_n dL_law_441 rfl ?_
  refine Go.iconst (v := nI 1) dL_law_442 rfl ?_
  refine Go.iaddN dL_law_443 ?_
  refine Go.ialoadR (i + 1) dL_law_444 rfl (Nat.lt_of_le_of_lt hL (by decide)) (Nat.lt_of_lt_of_le (Nat.add_lt_add_left (by decide) i) hi) rfl ?_
  refine Go.at 445 rfl ?_
  refine Go.callV 0 [vI (V.2.1.2 (i + 1))] [] dL_law_445 lkL_44.1 lkL_44.2.1 lkL_44.2.2.1 lkL_44.2.2.2 (Or.inl ⟨_, _, _, rfl, rfl, rfl⟩) rfl (Nat.le_of_ble_eq_true rfl) rfl (Nat.le_of_ble_eq_true rfl) (Go.mono (op_seed hS (V.2.1.2 (i + 1))) ?_)
  rintro r μ1 ⟨x, rfl, hm⟩
  show Go V (d + 68) mL_law 448 [some (vR 220), some (vR 0), some (vR 76), some (vI (nI i))] [vI x] μ1 _
  refine Go.aload_n dL_law_448 rfl ?_
  refine Go.aload_n dL_law_449 rfl ?_
  refine Go.iload_n dL_law_450 rfl ?_
  refine Go.iconst (v := nI 1) dL_law_451 rfl ?_
  refine Go.iaddN dL_law_452 ?_
  refine Go.ialoadR (i + 1) dL_law_453 rfl (Nat.lt_of_le_of_lt hL (by decide)) (Nat.lt_of_lt_of_le (Nat.add_lt_add_left (by decide) i) hi) rfl ?_
  refine Go.at 454 rfl ?_
  refine Go.callV 76 [vI (V.2.1.2 (i + 1))] [vI x] dL_law_454 lkL_48.1 lkL_48.2.1 lkL_48.2.2.1 lkL_48.2.2.2 (Or.inl ⟨_, _, _, rfl, rfl, rfl⟩) rfl (Nat.le_of_ble_eq_true rfl) rfl (Nat.le_of_ble_eq_true rfl) (Go.mono hm ?_)
  rintro r μ2 ⟨rfl, hS2⟩
  show Go V (d + 68) mL_law 457 [some (vR 220), some (vR 0), some (vR 76), some (vI (nI i))] [vI x, vI x] μ2 _
  refine Go.icmp_eq_t (tgt := 1408) dL_law_457 (by decide) rfl ?_
  exact hk μ2 hS2
theorem law_c8 {V : VV} {d i : Nat} {μ : Memo} {Q : Option AVal → Memo → Prop} (hL : V.2.1.1 ≤ 384) (hi : i + 6 ≤ V.2.1.1) (hS : Sim μ) (hk : ∀ μ', Sim μ' → Go V (d + 68) mL_law 1408 [some (vR 220), some (vR 0), some (vR 76), some (vI (nI i))] [] μ' Q) : Go V (d + 68) mL_law 462 [some (vR 220), some (vR 0), some (vR 76), some (vI (nI i))] [] μ Q := by
  refine Go.aload_n dL_law_462 rfl ?_
  refine Go.aload_n dL_law_463 rfl ?_
  refine Go.iload_n dL_law_464 rfl ?_
  refine Go.iconst (v := nI 1) dL_law_465 rfl ?_
  refine Go.iaddN dL_law_466 ?_
  refine Go.ialoadR (i + 1) dL_law_467 rfl (Nat.lt_of_le_of_lt hL (by decide)) (Nat.lt_of_lt_of_le (Nat.add_lt_add_left (by decide) i) hi) rfl ?_
  refine Go.at 468 rfl ?_
  refine Go.aload_n dL_law_468 rfl ?_
  refine Go.iload_n dL_law_469 rfl ?_
  refine Go.iconst (v := nI 2) dL_law_470 rfl ?_
  refine Go.iaddN dL_law_471 ?_
  refine Go.ialoadR (i + 2) dL_law_472 rfl (Nat.lt_of_le_of_lt hL (by decide)) (Nat.lt_of_lt_of_le (Nat.add_lt_add_left (by decide) i) hi) rfl ?_
  refine Go.callV 0 [vI (V.2.1.2 (i + 1)), vI (V.2.1.2 (i + 2))] [] dL_law_473 lkL_49.1 lkL_49.2.1 lkL_49.2.2.1 lkL_49.2.2.2 (Or.inl ⟨_, _, _, rfl, rfl, rfl⟩) rfl (Nat.le_of_ble_eq_true rfl) rfl (Nat.le_of_ble_eq_true rfl) (Go.mono (op_sky hS (V.2.1.2 (i + 1)) (V.2.1.2 (i + 2))) ?_)
  rintro r μ1 ⟨x, rfl, hm⟩
  show Go V (d + 68) mL_law 476 [some (vR 220), some (vR 0), some (vR 76), some (vI (nI i))] [vI x] μ1 _
  refine Go.aload_n dL_law_476 rfl ?_
  refine Go.aload_n dL_law_477 rfl ?_
  refine Go.iload_n dL_law_478 rfl ?_
  refine Go.iconst (v := nI 1) dL_law_479 rfl ?_
  refine Go.iaddN dL_law_480 ?_
  refine Go.ialoadR (i + 1) dL_law_481 rfl (Nat.lt_of_le_of_lt hL (by decide)) (Nat.lt_of_lt_of_le (Nat.add_lt_add_left (by decide) i) hi) rfl ?_
  refine Go.at 482 rfl ?_
  refine Go.aload_n dL_law_482 rfl ?_
  refine Go.iload_n dL_law_483 rfl ?_
  refine Go.iconst (v := nI 2) dL_law_484 rfl ?_
  refine Go.iaddN dL_law_485 ?_
  refine Go.ialoadR (i + 2) dL_law_486 rfl (Nat.lt_of_le_of_lt hL (by decide)) (Nat.lt_of_lt_of_le (Nat.add_lt_add_left (by decide) i) hi) rfl ?_
  refine Go.callV 76 [vI (V.2.1.2 (i + 1)), vI (V.2.1.2 (i + 2))] [vI x] dL_law_487 lkL_52.1 lkL_52.2.1 lkL_52.2.2.1 lkL_52.2.2.2 (Or.inl ⟨_, _, _, rfl, rfl, rfl⟩) rfl (Nat.le_of_ble_eq_true rfl) rfl (Nat.le_of_ble_eq_true rfl) (Go.mono hm ?_)
  rintro r μ2 ⟨rfl, hS2⟩
  show Go V (d + 68) mL_law 490 [some (vR 220), some (vR 0), some (vR 76), some (vI (nI i))] [vI x, vI x] μ2 _
  refine Go.icmp_eq_t (tgt := 1408) dL_law_490 (by decide) rfl ?_
  exact hk μ2 hS2
theorem law_c9 {V : VV} {d i : Nat} {μ : Memo} {Q : Option AVal → Memo → Prop} (hL : V.2.1.1 ≤ 384) (hi : i + 6 ≤ V.2.1.1) (hS : Sim μ) (hk : ∀ μ', Sim μ' → Go V (d + 68) mL_law 1408 [some (vR 220), some (vR 0), some (vR 76), some (vI (nI i))] [] μ' Q) : Go V (d + 68) mL_law 495 [some (vR 220), some (vR 0), some (vR 76), some (vI (nI i))] [] μ Q := by
  refine Go.aload_n dL_law_495 rfl ?_
  refine Go.aload_n dL_law_496 rfl ?_
  refine Go.iload_n dL_law_497 rfl ?_
  refine Go.iconst (v := nI 1) dL_law_498 rfl ?_
  refine Go.iaddN dL_law_499 ?_
  refine Go.ialoadR (i + 1) dL_law_500 rfl (Nat.lt_of_le_of_lt hL (by decide)) (Nat.lt_of_lt_of_le (Nat.add_lt_add_left (by decide) i) hi) rfl ?_
  refine Go.at 501 rfl ?_
  refine Go.aload_n dL_law_501 rfl ?_
  refine Go.iload_n dL_law_502 rfl ?_
  refine Go.iconst (v := nI 2) dL_law_503 rfl ?_
  refine Go.iaddN dL_law_504 ?_
  refine Go.ialoadR (i + 2) dL_law_505 rfl (Nat.lt_of_le_of_lt hL (by decide)) (Nat.lt_of_lt_of_le (Nat.add_lt_add_left (by decide) i) hi) rfl ?_
  refine Go.callV 0 [vI (V.2.1.2 (i + 1)), vI (V.2.1.2 (i + 2))] [] dL_law_506 lkL_53.1 lkL_53.2.1 lkL_53.2.2.1 lkL_53.2.2.2 (Or.inl ⟨_, _, _, rfl, rfl, rfl⟩) rfl (Nat.le_of_ble_eq_true rfl) rfl (Nat.le_of_ble_eq_true rfl) (Go.mono (op_worst hS (V.2.1.2 (i + 1)) (V.2.1.2 (i + 2))) ?_)
  rintro r μ1 ⟨x, rfl, hm⟩
  show Go V (d + 68) mL_law 509 [some (vR 220), some (vR 0), some (vR 76), some (vI (nI i))] [vI x] μ1 _
  refine Go.aload_n dL_law_509 rfl ?_
  refine Go.aload_n dL_law_510 rfl ?_
  refine Go.iload_n dL_law_511 rfl ?_
  refine Go.iconst (v := nI 1) dL_law_512 rfl ?_
  refine Go.iaddN dL_law_513 ?_
  refine Go.ialoadR (i + 1) dL_law_514 rfl (Nat.lt_of_le_of_lt hL (by decide)) (Nat.lt_of_lt_of_le (Nat.add_lt_add_left (by decide) i) hi) rfl ?_
  refine Go.at 515 rfl ?_
  refine Go.aload_n dL_law_515 rfl ?_
  refine Go.iload_n dL_law_516 rfl ?_
  refine Go.iconst (v := nI 2) dL_law_517 rfl ?_
  refine Go.iaddN dL_law_518 ?_
  refine Go.ialoadR (i + 2) dL_law_519 rfl (Nat.lt_of_le_of_lt hL (by decide)) (Nat.lt_of_lt_of_le (Nat.add_lt_add_left (by decide) i) hi) rfl ?_
  refine Go.callV 76 [vI (V.2.1.2 (i + 1)), vI (V.2.1.2 (i + 2))] [vI x] dL_law_520 lkL_56.1 lkL_56.2.1 lkL_56.2.2.1 lkL_56.2.2.2 (Or.inl ⟨_, _, _, rfl, rfl, rfl⟩) rfl (Nat.le_of_ble_eq_true rfl) rfl (Nat.le_of_ble_eq_true rfl) (Go.mono hm ?_)
  rintro r μ2 ⟨rfl, hS2⟩
  show Go V (d + 68) mL_law 523 [some (vR 220), some (vR 0), some (vR 76), some (vI (nI i))] [vI x, vI x] μ2 _
  refine Go.icmp_eq_t (tgt := 1408) dL_law_523 (by decide) rfl ?_
  exact hk μ2 hS2
theorem law_c10 {V : VV} {d i : Nat} {μ : Memo} {Q : Option AVal → Memo → Prop} (hL : V.2.1.1 ≤ 384) (hi : i + 6 ≤ V.2.1.1) (hS : Sim μ) (hk : ∀ μ', Sim μ' → Go V (d + 68) mL_law 1408 [some (vR 220), some (vR 0), some (vR 76), some (vI (nI i))] [] μ' Q) : Go V (d + 68) mL_law 528 [some (vR 220), some (vR 0), some (vR 76), some (vI (nI i))] [] μ Q := by
  refine Go.aload_n dL_law_528 rfl ?_
  refine Go.aload_n dL_law_529 rfl ?_
  refine Go.iload_n dL_law_530 rfl ?_
  refine Go.iconst (v := nI 1) dL_law_531 rfl ?_
  refine Go.iaddN dL_law_532 ?_
  refine Go.ialoadR (i + 1) dL_law_533 rfl (Nat.lt_of_le_of_lt hL (by decide)) (Nat.lt_of_lt_of_le (Nat.add_lt_add_left (by decide) i) hi) rfl ?_
  refine Go.at 534 rfl ?_
  refine Go.callV 0 [vI (V.2.1.2 (i + 1))] [] dL_law_534 lkL_57.1 lkL_57.2.1 lkL_57.2.2.1 lkL_57.2.2.2 (Or.inl ⟨_, _, _, rfl, rfl, rfl⟩) rfl (Nat.le_of_ble_eq_true rfl) rfl (Nat.le_of_ble_eq_true rfl) (Go.mono (op_dryFor hS (V.2.1.2 (i + 1))) ?_)
  rintro r μ1 ⟨x, rfl, hm⟩
  show Go V (d + 68) mL_law 537 [some (vR 220), some (vR 0), some (vR 76), some (vI (nI i))] [vI x] μ1 _
  refine Go.aload_n dL_law_537 rfl ?_
  refine Go.aload_n dL_law_538 rfl ?_
  refine Go.iload_n dL_law_539 rfl ?_
  refine Go.iconst (v := nI 1) dL_law_540 rfl ?_
  refine Go.iaddN dL_law_541 ?_
  refine Go.ialoadR (i + 1) dL_law_542 rfl (Nat.lt_of_le_of_lt hL (by decide)) (Nat.lt_of_lt_of_le (Nat.add_lt_add_left (by decide) i) hi) rfl ?_
  refine Go.at 543 rfl ?_
  refine Go.callV 76 [vI (V.2.1.2 (i + 1))] [vI x] dL_law_543 lkL_60.1 lkL_60.2.1 lkL_60.2.2.1 lkL_60.2.2.2 (Or.inl ⟨_, _, _, rfl, rfl, rfl⟩) rfl (Nat.le_of_ble_eq_true rfl) rfl (Nat.le_of_ble_eq_true rfl) (Go.mono hm ?_)
  rintro r μ2 ⟨rfl, hS2⟩
  show Go V (d + 68) mL_law 546 [some (vR 220), some (vR 0), some (vR 76), some (vI (nI i))] [vI x, vI x] μ2 _
  refine Go.icmp_eq_t (tgt := 1408) dL_law_546 (by decide) rfl ?_
  exact hk μ2 hS2
theorem law_c11 {V : VV} {d i : Nat} {μ : Memo} {Q : Option AVal → Memo → Prop} (hL : V.2.1.1 ≤ 384) (hi : i + 6 ≤ V.2.1.1) (hS : Sim μ) (hk : ∀ μ', Sim μ' → Go V (d + 68) mL_law 1408 [some (vR 220), some (vR 0), some (vR 76), some (vI (nI i))] [] μ' Q) : Go V (d + 68) mL_law 551 [some (vR 220), some (vR 0), some (vR 76), some (vI (nI i))] [] μ Q := by
  refine Go.aload_n dL_law_551 rfl ?_
  refine Go.aload_n dL_law_552 rfl ?_
  refine Go.iload_n dL_law_553 rfl ?_
  refine Go.iconst (v := nI 1) dL_law_554 rfl ?_
  refine Go.iaddN dL_law_555 ?_
  refine Go.ialoadR (i + 1) dL_law_556 rfl (Nat.lt_of_le_of_lt hL (by decide)) (Nat.lt_of_lt_of_le (Nat.add_lt_add_left (by decide) i) hi) rfl ?_
  refine Go.at 557 rfl ?_
  refine Go.aload_n dL_law_557 rfl ?_
  refine Go.iload_n dL_law_558 rfl ?_
  refine Go.iconst (v := nI 2) dL_law_559 rfl ?_
  refine Go.iaddN dL_law_560 ?_
  refine Go.ialoadR (i + 2) dL_law_561 rfl (Nat.lt_of_le_of_lt hL (by decide)) (Nat.lt_of_lt_of_le (Nat.add_lt_add_left (by decide) i) hi) rfl ?_
  refine Go.callV 0 [vI (V.2.1.2 (i + 1)), vI (V.2.1.2 (i + 2))] [] dL_law_562 lkL_61.1 lkL_61.2.1 lkL_61.2.2.1 lkL_61.2.2.2 (Or.inl ⟨_, _, _, rfl, rfl, rfl⟩) rfl (Nat.le_of_ble_eq_true rfl) rfl (Nat.le_of_ble_eq_true rfl) (Go.mono (op_window hS (V.2.1.2 (i + 1)) (V.2.1.2 (i + 2))) ?_)
  rintro r μ1 ⟨x, rfl, hm⟩
  show Go V (d + 68) mL_law 565 [some (vR 220), some (vR 0), some (vR 76), some (vI (nI i))] [vI x] μ1 _
  refine Go.aload_n dL_law_565 rfl ?_
  refine Go.aload_n dL_law_566 rfl ?_
  refine Go.iload_n dL_law_567 rfl ?_
  refine Go.iconst (v := nI 1) dL_law_568 rfl ?_
  refine Go.iaddN dL_law_569 ?_
  refine Go.ialoadR (i + 1) dL_law_570 rfl (Nat.lt_of_le_of_lt hL (by decide)) (Nat.lt_of_lt_of_le (Nat.add_lt_add_left (by decide) i) hi) rfl ?_
  refine Go.at 571 rfl ?_
  refine Go.aload_n dL_law_571 rfl ?_
  refine Go.iload_n dL_law_572 rfl ?_
  refine Go.iconst (v := nI 2) dL_law_573 rfl ?_
  refine Go.iaddN dL_law_574 ?_
  refine Go.ialoadR (i + 2) dL_law_575 rfl (Nat.lt_of_le_of_lt hL (by decide)) (Nat.lt_of_lt_of_le (Nat.add_lt_add_left (by decide) i) hi) rfl ?_
  refine Go.callV 76 [vI (V.2.1.2 (i + 1)), vI (V.2.1.2 (i + 2))] [vI x] dL_law_576 lkL_64.1 lkL_64.2.1 lkL_64.2.2.1 lkL_64.2.2.2 (Or.inl ⟨_, _, _, rfl, rfl, rfl⟩) rfl (Nat.le_of_ble_eq_true rfl) rfl (Nat.le_of_ble_eq_true rfl) (Go.mono hm ?_)
  rintro r μ2 ⟨rfl, hS2⟩
  show Go V (d + 68) mL_law 579 [some (vR 220), some (vR 0), some (vR 76), some (vI (nI i))] [vI x, vI x] μ2 _
  refine Go.icmp_eq_t (tgt := 1408) dL_law_579 (by decide) rfl ?_
  exact hk μ2 hS2
theorem law_c12 {V : VV} {d i : Nat} {μ : Memo} {Q : Option AVal → Memo → Prop} (hL : V.2.1.1 ≤ 384) (hi : i + 6 ≤ V.2.1.1) (hS : Sim μ) (hk : ∀ μ', Sim μ' → Go V (d + 68) mL_law 1408 [some (vR 220), some (vR 0), some (vR 76), some (vI (nI i))] [] μ' Q) : Go V (d + 68) mL_law 584 [some (vR 220), some (vR 0), some (vR 76), some (vI (nI i))] [] μ Q := by
  refine Go.aload_n dL_law_584 rfl ?_
  refine Go.aload_n dL_law_585 rfl ?_
  refine Go.iload_n dL_law_586 rfl ?_
  refine Go.iconst (v := nI 1) dL_law_587 rfl ?_
  refine Go.iaddN dL_law_588 ?_
  refine Go.ialoadR (i + 1) dL_law_589 rfl (Nat.lt_of_le_of_lt hL (by decide)) (Nat.lt_of_lt_of_le (Nat.add_lt_add_left (by decide) i) hi) rfl ?_
  refine Go.at 590 rfl ?_
  refine Go.aload_n dL_law_590 rfl ?_
  refine Go.iload_n dL_law_591 rfl ?_
  refine Go.iconst (v := nI 2) dL_law_592 rfl ?_
  refine Go.iaddN dL_law_593 ?_
  refine Go.ialoadR (i + 2) dL_law_594 rfl (Nat.lt_of_le_of_lt hL (by decide)) (Nat.lt_of_lt_of_le (Nat.add_lt_add_left (by decide) i) hi) rfl ?_
  refine Go.callV 0 [vI (V.2.1.2 (i + 1)), vI (V.2.1.2 (i + 2))] [] dL_law_595 lkL_65.1 lkL_65.2.1 lkL_65.2.2.1 lkL_65.2.2.2 (Or.inl ⟨_, _, _, rfl, rfl, rfl⟩) rfl (Nat.le_of_ble_eq_true rfl) rfl (Nat.le_of_ble_eq_true rfl) (Go.mono (op_owns hS (V.2.1.2 (i + 1)) (V.2.1.2 (i + 2))) ?_)
  rintro r μ1 ⟨x, rfl, hm⟩
  show Go V (d + 68) mL_law 598 [some (vR 220), some (vR 0), some (vR 76), some (vI (nI i))] [vI x] μ1 _
  refine Go.aload_n dL_law_598 rfl ?_
  refine Go.aload_n dL_law_599 rfl ?_
  refine Go.iload_n dL_law_600 rfl ?_
  refine Go.iconst (v := nI 1) dL_law_601 rfl ?_
  refine Go.iaddN dL_law_602 ?_
  refine Go.ialoadR (i + 1) dL_law_603 rfl (Nat.lt_of_le_of_lt hL (by decide)) (Nat.lt_of_lt_of_le (Nat.add_lt_add_left (by decide) i) hi) rfl ?_
  refine Go.at 604 rfl ?_
  refine Go.aload_n dL_law_604 rfl ?_
  refine Go.iload_n dL_law_605 rfl ?_
  refine Go.iconst (v := nI 2) dL_law_606 rfl ?_
  refine Go.iaddN dL_law_607 ?_
  refine Go.ialoadR (i + 2) dL_law_608 rfl (Nat.lt_of_le_of_lt hL (by decide)) (Nat.lt_of_lt_of_le (Nat.add_lt_add_left (by decide) i) hi) rfl ?_
  refine Go.callV 76 [vI (V.2.1.2 (i + 1)), vI (V.2.1.2 (i + 2))] [vI x] dL_law_609 lkL_68.1 lkL_68.2.1 lkL_68.2.2.1 lkL_68.2.2.2 (Or.inl ⟨_, _, _, rfl, rfl, rfl⟩) rfl (Nat.le_of_ble_eq_true rfl) rfl (Nat.le_of_ble_eq_true rfl) (Go.mono hm ?_)
  rintro r μ2 ⟨rfl, hS2⟩
  show Go V (d + 68) mL_law 612 [some (vR 220), some (vR 0), some (vR 76), some (vI (nI i))] [vI x, vI x] μ2 _
  refine Go.icmp_eq_t (tgt := 1408) dL_law_612 (by decide) rfl ?_
  exact hk μ2 hS2
theorem law_c13 {V : VV} {d i : Nat} {μ : Memo} {Q : Option AVal → Memo → Prop} (hL : V.2.1.1 ≤ 384) (hi : i + 6 ≤ V.2.1.1) (hS : Sim μ) (hk : ∀ μ', Sim μ' → Go V (d + 68) mL_law 1408 [some (vR 220), some (vR 0), some (vR 76), some (vI (nI i))] [] μ' Q) : Go V (d + 68) mL_law 617 [some (vR 220), some (vR 0), some (vR 76), some (vI (nI i))] [] μ Q := by
  refine Go.aload_n dL_law_617 rfl ?_
  refine Go.aload_n dL_law_618 rfl ?_
  refine Go.iload_n dL_law_619 rfl ?_
  refine Go.iconst (v := nI 1) dL_law_620 rfl ?_
  refine Go.iaddN dL_law_621 ?_
  refine Go.ialoadR (i + 1) dL_law_622 rfl (Nat.lt_of_le_of_lt hL (by decide)) (Nat.lt_of_lt_of_le (Nat.add_lt_add_left (by decide) i) hi) rfl ?_
  refine Go.at 623 rfl ?_
  refine Go.callV 0 [vI (V.2.1.2 (i + 1))] [] dL_law_623 lkL_69.1 lkL_69.2.1 lkL_69.2.2.1 lkL_69.2.2.2 (Or.inl ⟨_, _, _, rfl, rfl, rfl⟩) rfl (Nat.le_of_ble_eq_true rfl) rfl (Nat.le_of_ble_eq_true rfl) (Go.mono (op_richest hS (V.2.1.2 (i + 1))) ?_)
  rintro r μ1 ⟨x, rfl, hm⟩
  show Go V (d + 68) mL_law 626 [some (vR 220), some (vR 0), some (vR 76), some (vI (nI i))] [vI x] μ1 _
  refine Go.aload_n dL_law_626 rfl ?_
  refine Go.aload_n dL_law_627 rfl ?_
  refine Go.iload_n dL_law_628 rfl ?_
  refine Go.iconst (v := nI 1) dL_law_629 rfl ?_
  refine Go.iaddN dL_law_630 ?_
  refine Go.ialoadR (i + 1) dL_law_631 rfl (Nat.lt_of_le_of_lt hL (by decide)) (Nat.lt_of_lt_of_le (Nat.add_lt_add_left (by decide) i) hi) rfl ?_
  refine Go.at 632 rfl ?_
  refine Go.callV 76 [vI (V.2.1.2 (i + 1))] [vI x] dL_law_632 lkL_72.1 lkL_72.2.1 lkL_72.2.2.1 lkL_72.2.2.2 (Or.inl ⟨_, _, _, rfl, rfl, rfl⟩) rfl (Nat.le_of_ble_eq_true rfl) rfl (Nat.le_of_ble_eq_true rfl) (Go.mono hm ?_)
  rintro r μ2 ⟨rfl, hS2⟩
  show Go V (d + 68) mL_law 635 [some (vR 220), some (vR 0), some (vR 76), some (vI (nI i))] [vI x, vI x] μ2 _
  refine Go.icmp_eq_t (tgt := 1408) dL_law_635 (by decide) rfl ?_
  exact hk μ2 hS2
theorem law_c14 {V : VV} {d i : Nat} {μ : Memo} {Q : Option AVal → Memo → Prop} (hL : V.2.1.1 ≤ 384) (hi : i + 6 ≤ V.2.1.1) (hS : Sim μ) (hk : ∀ μ', Sim μ' → Go V (d + 68) mL_law 1408 [some (vR 220), some (vR 0), some (vR 76), some (vI (nI i))] [] μ' Q) : Go V (d + 68) mL_law 640 [some (vR 220), some (vR 0), some (vR 76), some (vI (nI i))] [] μ Q := by
  refine Go.aload_n dL_law_640 rfl ?_
  refine Go.aload_n dL_law_641 rfl ?_
  refine Go.iload_n dL_law_642 rfl ?_
  refine Go.iconst (v := nI 1) dL_law_643 rfl ?_
  refine Go.iaddN dL_law_644 ?_
  refine Go.ialoadR (i + 1) dL_law_645 rfl (Nat.lt_of_le_of_lt hL (by decide)) (Nat.lt_of_lt_of_le (Nat.add_lt_add_left (by decide) i) hi) rfl ?_
  refine Go.at 646 rfl ?_
  refine Go.callV 0 [vI (V.2.1.2 (i + 1))] [] dL_law_646 lkL_73.1 lkL_73.2.1 lkL_73.2.2.1 lkL_73.2.2.2 (Or.inl ⟨_, _, _, rfl, rfl, rfl⟩) rfl (Nat.le_of_ble_eq_true rfl) rfl (Nat.le_of_ble_eq_true rfl) (Go.mono (op_house hS (V.2.1.2 (i + 1))) ?_)
  rintro r μ1 ⟨x, rfl, hm⟩
  show Go V (d + 68) mL_law 649 [some (vR 220), some (vR 0), some (vR 76), some (vI (nI i))] [vI x] μ1 _
  refine Go.aload_n dL_law_649 rfl ?_
  refine Go.aload_n dL_law_650 rfl ?_
  refine Go.iload_n dL_law_651 rfl ?_
  refine Go.iconst (v := nI 1) dL_law_652 rfl ?_
  refine Go.iaddN dL_law_653 ?_
  refine Go.ialoadR (i + 1) dL_law_654 rfl (Nat.lt_of_le_of_lt hL (by decide)) (Nat.lt_of_lt_of_le (Nat.add_lt_add_left (by decide) i) hi) rfl ?_
  refine Go.at 655 rfl ?_
  refine Go.callV 76 [vI (V.2.1.2 (i + 1))] [vI x] dL_law_655 lkL_76.1 lkL_76.2.1 lkL_76.2.2.1 lkL_76.2.2.2 (Or.inl ⟨_, _, _, rfl, rfl, rfl⟩) rfl (Nat.le_of_ble_eq_true rfl) rfl (Nat.le_of_ble_eq_true rfl) (Go.mono hm ?_)
  rintro r μ2 ⟨rfl, hS2⟩
  show Go V (d + 68) mL_law 658 [some (vR 220), some (vR 0), some (vR 76), some (vI (nI i))] [vI x, vI x] μ2 _
  refine Go.icmp_eq_t (tgt := 1408) dL_law_658 (by decide) rfl ?_
  exact hk μ2 hS2
theorem law_c15 {V : VV} {d i : Nat} {μ : Memo} {Q : Option AVal → Memo → Prop} (hL : V.2.1.1 ≤ 384) (hi : i + 6 ≤ V.2.1.1) (hS : Sim μ) (hk : ∀ μ', Sim μ' → Go V (d + 68) mL_law 1408 [some (vR 220), some (vR 0), some (vR 76), some (vI (nI i))] [] μ' Q) : Go V (d + 68) mL_law 663 [some (vR 220), some (vR 0), some (vR 76), some (vI (nI i))] [] μ Q := by
  refine Go.aload_n dL_law_663 rfl ?_
  refine Go.aload_n dL_law_664 rfl ?_
  refine Go.iload_n dL_law_665 rfl ?_
  refine Go.iconst (v := nI 1) dL_law_666 rfl ?_
  refine Go.iaddN dL_law_667 ?_
  refine Go.ialoadR (i + 1) dL_law_668 rfl (Nat.lt_of_le_of_lt hL (by decide)) (Nat.lt_of_lt_of_le (Nat.add_lt_add_left (by decide) i) hi) rfl ?_
  refine Go.at 669 rfl ?_
  refine Go.aload_n dL_law_669 rfl ?_
  refine Go.iload_n dL_law_670 rfl ?_
  refine Go.iconst (v := nI 2) dL_law_671 rfl ?_
  refine Go.iaddN dL_law_672 ?_
  refine Go.ialoadR (i + 2) dL_law_673 rfl (Nat.lt_of_le_of_lt hL (by decide)) (Nat.lt_of_lt_of_le (Nat.add_lt_add_left (by decide) i) hi) rfl ?_
  refine Go.callV 0 [vI (V.2.1.2 (i + 1)), vI (V.2.1.2 (i + 2))] [] dL_law_674 lkL_77.1 lkL_77.2.1 lkL_77.2.2.1 lkL_77.2.2.2 (Or.inl ⟨_, _, _, rfl, rfl, rfl⟩) rfl (Nat.le_of_ble_eq_true rfl) rfl (Nat.le_of_ble_eq_true rfl) (Go.mono (op_houseTold hS (V.2.1.2 (i + 1)) (V.2.1.2 (i + 2))) ?_)
  rintro r μ1 ⟨x, rfl, hm⟩
  show Go V (d + 68) mL_law 677 [some (vR 220), some (vR 0), some (vR 76), some (vI (nI i))] [vI x] μ1 _
  refine Go.aload_n dL_law_677 rfl ?_
  refine Go.aload_n dL_law_678 rfl ?_
  refine Go.iload_n dL_law_679 rfl ?_
  refine Go.iconst (v := nI 1) dL_law_680 rfl ?_
  refine Go.iaddN dL_law_681 ?_
  refine Go.ialoadR (i + 1) dL_law_682 rfl (Nat.lt_of_le_of_lt hL (by decide)) (Nat.lt_of_lt_of_le (Nat.add_lt_add_left (by decide) i) hi) rfl ?_
  refine Go.at 683 rfl ?_
  refine Go.aload_n dL_law_683 rfl ?_
  refine Go.iload_n dL_law_684 rfl ?_
  refine Go.iconst (v := nI 2) dL_law_685 rfl ?_
  refine Go.iaddN dL_law_686 ?_
  refine Go.ialoadR (i + 2) dL_law_687 rfl (Nat.lt_of_le_of_lt hL (by decide)) (Nat.lt_of_lt_of_le (Nat.add_lt_add_left (by decide) i) hi) rfl ?_
  refine Go.callV 76 [vI (V.2.1.2 (i + 1)), vI (V.2.1.2 (i + 2))] [vI x] dL_law_688 lkL_80.1 lkL_80.2.1 lkL_80.2.2.1 lkL_80.2.2.2 (Or.inl ⟨_, _, _, rfl, rfl, rfl⟩) rfl (Nat.le_of_ble_eq_true rfl) rfl (Nat.le_of_ble_eq_true rfl) (Go.mono hm ?_)
  rintro r μ2 ⟨rfl, hS2⟩
  show Go V (d + 68) mL_law 691 [some (vR 220), some (vR 0), some (vR 76), some (vI (nI i))] [vI x, vI x] μ2 _
  refine Go.icmp_eq_t (tgt := 1408) dL_law_691 (by decide) rfl ?_
  exact hk μ2 hS2
theorem law_c16 {V : VV} {d i : Nat} {μ : Memo} {Q : Option AVal → Memo → Prop} (hL : V.2.1.1 ≤ 384) (hi : i + 6 ≤ V.2.1.1) (hS : Sim μ) (hk : ∀ μ', Sim μ' → Go V (d + 68) mL_law 1408 [some (vR 220), some (vR 0), some (vR 76), some (vI (nI i))] [] μ' Q) : Go V (d + 68) mL_law 696 [some (vR 220), some (vR 0), some (vR 76), some (vI (nI i))] [] μ Q := by
  refine Go.aload_n dL_law_696 rfl ?_
  refine Go.aload_n dL_law_697 rfl ?_
  refine Go.iload_n dL_law_698 rfl ?_
  refine Go.iconst (v := nI 1) dL_law_699 rfl ?_
  refine Go.iaddN dL_law_700 ?_
  refine Go.ialoadR (i + 1) dL_law_701 rfl (Nat.lt_of_le_of_lt hL (by decide)) (Nat.lt_of_lt_of_le (Nat.add_lt_add_left (by decide) i) hi) rfl ?_
  refine Go.at 702 rfl ?_
  refine Go.aload_n dL_law_702 rfl ?_
  refine Go.iload_n dL_law_703 rfl ?_
  refine Go.iconst (v := nI 2) dL_law_704 rfl ?_
  refine Go.iaddN dL_law_705 ?_
  refine Go.ialoadR (i + 2) dL_law_706 rfl (Nat.lt_of_le_of_lt hL (by decide)) (Nat.lt_of_lt_of_le (Nat.add_lt_add_left (by decide) i) hi) rfl ?_
  refine Go.callV 0 [vI (V.2.1.2 (i + 1)), vI (V.2.1.2 (i + 2))] [] dL_law_707 lkL_81.1 lkL_81.2.1 lkL_81.2.2.1 lkL_81.2.2.2 (Or.inl ⟨_, _, _, rfl, rfl, rfl⟩) rfl (Nat.le_of_ble_eq_true rfl) rfl (Nat.le_of_ble_eq_true rfl) (Go.mono (op_settle hS (V.2.1.2 (i + 1)) (V.2.1.2 (i + 2))) ?_)
  rintro r μ1 ⟨x, rfl, hm⟩
  show Go V (d + 68) mL_law 710 [some (vR 220), some (vR 0), some (vR 76), some (vI (nI i))] [vI x] μ1 _
  refine Go.aload_n dL_law_710 rfl ?_
  refine Go.aload_n dL_law_711 rfl ?_
  refine Go.iload_n dL_law_712 rfl ?_
  refine Go.iconst (v := nI 1) dL_law_713 rfl ?_
  refine Go.iaddN dL_law_714 ?_
  refine Go.ialoadR (i + 1) dL_law_715 rfl (Nat.lt_of_le_of_lt hL (by decide)) (Nat.lt_of_lt_of_le (Nat.add_lt_add_left (by decide) i) hi) rfl ?_
  refine Go.at 716 rfl ?_
  refine Go.aload_n dL_law_716 rfl ?_
  refine Go.iload_n dL_law_717 rfl ?_
  refine Go.iconst (v := nI 2) dL_law_718 rfl ?_
  refine Go.iaddN dL_law_719 ?_
  refine Go.ialoadR (i + 2) dL_law_720 rfl (Nat.lt_of_le_of_lt hL (by decide)) (Nat.lt_of_lt_of_le (Nat.add_lt_add_left (by decide) i) hi) rfl ?_
  refine Go.callV 76 [vI (V.2.1.2 (i + 1)), vI (V.2.1.2 (i + 2))] [vI x] dL_law_721 lkL_84.1 lkL_84.2.1 lkL_84.2.2.1 lkL_84.2.2.2 (Or.inl ⟨_, _, _, rfl, rfl, rfl⟩) rfl (Nat.le_of_ble_eq_true rfl) rfl (Nat.le_of_ble_eq_true rfl) (Go.mono hm ?_)
  rintro r μ2 ⟨rfl, hS2⟩
  show Go V (d + 68) mL_law 724 [some (vR 220), some (vR 0), some (vR 76), some (vI (nI i))] [vI x, vI x] μ2 _
  refine Go.icmp_eq_t (tgt := 1408) dL_law_724 (by decide) rfl ?_
  exact hk μ2 hS2
theorem law_c17 {V : VV} {d i : Nat} {μ : Memo} {Q : Option AVal → Memo → Prop} (hL : V.2.1.1 ≤ 384) (hi : i + 6 ≤ V.2.1.1) (hS : Sim μ) (hk : ∀ μ', Sim μ' → Go V (d + 68) mL_law 1408 [some (vR 220), some (vR 0), some (vR 76), some (vI (nI i))] [] μ' Q) : Go V (d + 68) mL_law 729 [some (vR 220), some (vR 0), some (vR 76), some (vI (nI i))] [] μ Q := by
  refine Go.aload_n dL_law_729 rfl ?_
  refine Go.aload_n dL_law_730 rfl ?_
  refine Go.iload_n dL_law_731 rfl ?_
  refine Go.iconst (v := nI 1) dL_law_732 rfl ?_
  refine Go.iaddN dL_law_733 ?_
  refine Go.ialoadR (i + 1) dL_law_734 rfl (Nat.lt_of_le_of_lt hL (by decide)) (Nat.lt_of_lt_of_le (Nat.add_lt_add_left (by decide) i) hi) rfl ?_
  refine Go.at 735 rfl ?_
  refine Go.callV 0 [vI (V.2.1.2 (i + 1))] [] dL_law_735 lkL_85.1 lkL_85.2.1 lkL_85.2.2.1 lkL_85.2.2.2 (Or.inl ⟨_, _, _, rfl, rfl, rfl⟩) rfl (Nat.le_of_ble_eq_true rfl) rfl (Nat.le_of_ble_eq_true rfl) (Go.mono (op_cut hS (V.2.1.2 (i + 1))) ?_)
  rintro r μ1 ⟨x, rfl, hm⟩
  show Go V (d + 68) mL_law 738 [some (vR 220), some (vR 0), some (vR 76), some (vI (nI i))] [vI x] μ1 _
  refine Go.aload_n dL_law_738 rfl ?_
  refine Go.aload_n dL_law_739 rfl ?_
  refine Go.iload_n dL_law_740 rfl ?_
  refine Go.iconst (v := nI 1) dL_law_741 rfl ?_
  refine Go.iaddN dL_law_742 ?_
  refine Go.ialoadR (i + 1) dL_law_743 rfl (Nat.lt_of_le_of_lt hL (by decide)) (Nat.lt_of_lt_of_le (Nat.add_lt_add_left (by decide) i) hi) rfl ?_
  refine Go.at 744 rfl ?_
  refine Go.callV 76 [vI (V.2.1.2 (i + 1))] [vI x] dL_law_744 lkL_88.1 lkL_88.2.1 lkL_88.2.2.1 lkL_88.2.2.2 (Or.inl ⟨_, _, _, rfl, rfl, rfl⟩) rfl (Nat.le_of_ble_eq_true rfl) rfl (Nat.le_of_ble_eq_true rfl) (Go.mono hm ?_)
  rintro r μ2 ⟨rfl, hS2⟩
  show Go V (d + 68) mL_law 747 [some (vR 220), some (vR 0), some (vR 76), some (vI (nI i))] [vI x, vI x] μ2 _
  refine Go.icmp_eq_t (tgt := 1408) dL_law_747 (by decide) rfl ?_
  exact hk μ2 hS2
theorem law_c18 {V : VV} {d i : Nat} {μ : Memo} {Q : Option AVal → Memo → Prop} (hL : V.2.1.1 ≤ 384) (hi : i + 6 ≤ V.2.1.1) (hS : Sim μ) (hk : ∀ μ', Sim μ' → Go V (d + 68) mL_law 1408 [some (vR 220), some (vR 0), some (vR 76), some (vI (nI i))] [] μ' Q) : Go V (d + 68) mL_law 752 [some (vR 220), some (vR 0), some (vR 76), some (vI (nI i))] [] μ Q := by
  refine Go.aload_n dL_law_752 rfl ?_
  refine Go.aload_n dL_law_753 rfl ?_
  refine Go.iload_n dL_law_754 rfl ?_
  refine Go.iconst (v := nI 1) dL_law_755 rfl ?_
  refine Go.iaddN dL_law_756 ?_
  refine Go.ialoadR (i + 1) dL_law_757 rfl (Nat.lt_of_le_of_lt hL (by decide)) (Nat.lt_of_lt_of_le (Nat.add_lt_add_left (by decide) i) hi) rfl ?_
  refine Go.at 758 rfl ?_
  refine Go.callV 0 [vI (V.2.1.2 (i + 1))] [] dL_law_758 lkL_89.1 lkL_89.2.1 lkL_89.2.2.1 lkL_89.2.2.2 (Or.inl ⟨_, _, _, rfl, rfl, rfl⟩) rfl (Nat.le_of_ble_eq_true rfl) rfl (Nat.le_of_ble_eq_true rfl) (Go.mono (op_lack hS (V.2.1.2 (i + 1))) ?_)
  rintro r μ1 ⟨x, rfl, hm⟩
  show Go V (d + 68) mL_law 761 [some (vR 220), some (vR 0), some (vR 76), some (vI (nI i))] [vI x] μ1 _
  refine Go.aload_n dL_law_761 rfl ?_
  refine Go.aload_n dL_law_762 rfl ?_
  refine Go.iload_n dL_law_763 rfl ?_
  refine Go.iconst (v := nI 1) dL_law_764 rfl ?_
  refine Go.iaddN dL_law_765 ?_
  refine Go.ialoadR (i + 1) dL_law_766 rfl (Nat.lt_of_le_of_lt hL (by decide)) (Nat.lt_of_lt_of_le (Nat.add_lt_add_left (by decide) i) hi) rfl ?_
  refine Go.at 767 rfl ?_
  refine Go.callV 76 [vI (V.2.1.2 (i + 1))] [vI x] dL_law_767 lkL_92.1 lkL_92.2.1 lkL_92.2.2.1 lkL_92.2.2.2 (Or.inl ⟨_, _, _, rfl, rfl, rfl⟩) rfl (Nat.le_of_ble_eq_true rfl) rfl (Nat.le_of_ble_eq_true rfl) (Go.mono hm ?_)
  rintro r μ2 ⟨rfl, hS2⟩
  show Go V (d + 68) mL_law 770 [some (vR 220), some (vR 0), some (vR 76), some (vI (nI i))] [vI x, vI x] μ2 _
  refine Go.icmp_eq_t (tgt := 1408) dL_law_770 (by decide) rfl ?_
  exact hk μ2 hS2
theorem law_c19 {V : VV} {d i : Nat} {μ : Memo} {Q : Option AVal → Memo → Prop} (hL : V.2.1.1 ≤ 384) (hi : i + 6 ≤ V.2.1.1) (hS : Sim μ) (hk : ∀ μ', Sim μ' → Go V (d + 68) mL_law 1408 [some (vR 220), some (vR 0), some (vR 76), some (vI (nI i))] [] μ' Q) : Go V (d + 68) mL_law 775 [some (vR 220), some (vR 0), some (vR 76), some (vI (nI i))] [] μ Q := by
  refine Go.aload_n dL_law_775 rfl ?_
  refine Go.aload_n dL_law_776 rfl ?_
  refine Go.iload_n dL_law_777 rfl ?_
  refine Go.iconst (v := nI 1) dL_law_778 rfl ?_
  refine Go.iaddN dL_law_779 ?_
  refine Go.ialoadR (i + 1) dL_law_780 rfl (Nat.lt_of_le_of_lt hL (by decide)) (Nat.lt_of_lt_of_le (Nat.add_lt_add_left (by decide) i) hi) rfl ?_
  refine Go.at 781 rfl ?_
  refine Go.aload_n dL_law_781 rfl ?_
  refine Go.iload_n dL_law_782 rfl ?_
  refine Go.iconst (v := nI 2) dL_law_783 rfl ?_
  refine Go.iaddN dL_law_784 ?_
  refine Go.ialoadR (i + 2) dL_law_785 rfl (Nat.lt_of_le_of_lt hL (by decide)) (Nat.lt_of_lt_of_le (Nat.add_lt_add_left (by decide) i) hi) rfl ?_
  refine Go.callV 0 [vI (V.2.1.2 (i + 1)), vI (V.2.1.2 (i + 2))] [] dL_law_786 lkL_93.1 lkL_93.2.1 lkL_93.2.2.1 lkL_93.2.2.2 (Or.inl ⟨_, _, _, rfl, rfl, rfl⟩) rfl (Nat.le_of_ble_eq_true rfl) rfl (Nat.le_of_ble_eq_true rfl) (Go.mono (op_going hS (V.2.1.2 (i + 1)) (V.2.1.2 (i + 2))) ?_)
  rintro r μ1 ⟨x, rfl, hm⟩
  show Go V (d + 68) mL_law 789 [some (vR 220), some (vR 0), some (vR 76), some (vI (nI i))] [vI x] μ1 _
  refine Go.aload_n dL_law_789 rfl ?_
  refine Go.aload_n dL_law_790 rfl ?_
  refine Go.iload_n dL_law_791 rfl ?_
  refine Go.iconst (v := nI 1) dL_law_792 rfl ?_
  refine Go.iaddN dL_law_793 ?_
  refine Go.ialoadR (i + 1) dL_law_794 rfl (Nat.lt_of_le_of_lt hL (by decide)) (Nat.lt_of_lt_of_le (Nat.add_lt_add_left (by decide) i) hi) rfl ?_
  refine Go.at 795 rfl ?_
  refine Go.aload_n dL_law_795 rfl ?_
  refine Go.iload_n dL_law_796 rfl ?_
  refine Go.iconst (v := nI 2) dL_law_797 rfl ?_
  refine Go.iaddN dL_law_798 ?_
  refine Go.ialoadR (i + 2) dL_law_799 rfl (Nat.lt_of_le_of_lt hL (by decide)) (Nat.lt_of_lt_of_le (Nat.add_lt_add_left (by decide) i) hi) rfl ?_
  refine Go.callV 76 [vI (V.2.1.2 (i + 1)), vI (V.2.1.2 (i + 2))] [vI x] dL_law_800 lkL_96.1 lkL_96.2.1 lkL_96.2.2.1 lkL_96.2.2.2 (Or.inl ⟨_, _, _, rfl, rfl, rfl⟩) rfl (Nat.le_of_ble_eq_true rfl) rfl (Nat.le_of_ble_eq_true rfl) (Go.mono hm ?_)
  rintro r μ2 ⟨rfl, hS2⟩
  show Go V (d + 68) mL_law 803 [some (vR 220), some (vR 0), some (vR 76), some (vI (nI i))] [vI x, vI x] μ2 _
  refine Go.icmp_eq_t (tgt := 1408) dL_law_803 (by decide) rfl ?_
  exact hk μ2 hS2
theorem law_c20 {V : VV} {d i : Nat} {μ : Memo} {Q : Option AVal → Memo → Prop} (hL : V.2.1.1 ≤ 384) (hi : i + 6 ≤ V.2.1.1) (hS : Sim μ) (hk : ∀ μ', Sim μ' → Go V (d + 68) mL_law 1408 [some (vR 220), some (vR 0), some (vR 76), some (vI (nI i))] [] μ' Q) : Go V (d + 68) mL_law 808 [some (vR 220), some (vR 0), some (vR 76), some (vI (nI i))] [] μ Q := by
  refine Go.aload_n dL_law_808 rfl ?_
  refine Go.aload_n dL_law_809 rfl ?_
  refine Go.iload_n dL_law_810 rfl ?_
  refine Go.iconst (v := nI 1) dL_law_811 rfl ?_
  refine Go.iaddN dL_law_812 ?_
  refine Go.ialoadR (i + 1) dL_law_813 rfl (Nat.lt_of_le_of_lt hL (by decide)) (Nat.lt_of_lt_of_le (Nat.add_lt_add_left (by decide) i) hi) rfl ?_
  refine Go.at 814 rfl ?_
  refine Go.callV 0 [vI (V.2.1.2 (i + 1))] [] dL_law_814 lkL_97.1 lkL_97.2.1 lkL_97.2.2.1 lkL_97.2.2.2 (Or.inl ⟨_, _, _, rfl, rfl, rfl⟩) rfl (Nat.le_of_ble_eq_true rfl) rfl (Nat.le_of_ble_eq_true rfl) (Go.mono (op_run hS (V.2.1.2 (i + 1))) ?_)
  rintro r μ1 ⟨x, rfl, hm⟩
  show Go V (d + 68) mL_law 817 [some (vR 220), some (vR 0), some (vR 76), some (vI (nI i))] [vI x] μ1 _
  refine Go.aload_n dL_law_817 rfl ?_
  refine Go.aload_n dL_law_818 rfl ?_
  refine Go.iload_n dL_law_819 rfl ?_
  refine Go.iconst (v := nI 1) dL_law_820 rfl ?_
  refine Go.iaddN dL_law_821 ?_
  refine Go.ialoadR (i + 1) dL_law_822 rfl (Nat.lt_of_le_of_lt hL (by decide)) (Nat.lt_of_lt_of_le (Nat.add_lt_add_left (by decide) i) hi) rfl ?_
  refine Go.at 823 rfl ?_
  refine Go.callV 76 [vI (V.2.1.2 (i + 1))] [vI x] dL_law_823 lkL_100.1 lkL_100.2.1 lkL_100.2.2.1 lkL_100.2.2.2 (Or.inl ⟨_, _, _, rfl, rfl, rfl⟩) rfl (Nat.le_of_ble_eq_true rfl) rfl (Nat.le_of_ble_eq_true rfl) (Go.mono hm ?_)
  rintro r μ2 ⟨rfl, hS2⟩
  show Go V (d + 68) mL_law 826 [some (vR 220), some (vR 0), some (vR 76), some (vI (nI i))] [vI x, vI x] μ2 _
  refine Go.icmp_eq_t (tgt := 1408) dL_law_826 (by decide) rfl ?_
  exact hk μ2 hS2
theorem law_c21 {V : VV} {d i : Nat} {μ : Memo} {Q : Option AVal → Memo → Prop} (hL : V.2.1.1 ≤ 384) (hi : i + 6 ≤ V.2.1.1) (hS : Sim μ) (hk : ∀ μ', Sim μ' → Go V (d + 68) mL_law 1408 [some (vR 220), some (vR 0), some (vR 76), some (vI (nI i))] [] μ' Q) : Go V (d + 68) mL_law 831 [some (vR 220), some (vR 0), some (vR 76), some (vI (nI i))] [] μ Q := by
  refine Go.aload_n dL_law_831 rfl ?_
  refine Go.aload_n dL_law_832 rfl ?_
  refine Go.iload_n dL_law_833 rfl ?_
  refine Go.iconst (v := nI 1) dL_law_834 rfl ?_
  refine Go.iaddN dL_law_835 ?_
  refine Go.ialoadR (i + 1) dL_law_836 rfl (Nat.lt_of_le_of_lt hL (by decide)) (Nat.lt_of_lt_of_le (Nat.add_lt_add_left (by decide) i) hi) rfl ?_
  refine Go.at 837 rfl ?_
  refine Go.aload_n dL_law_837 rfl ?_
  refine Go.iload_n dL_law_838 rfl ?_
  refine Go.iconst (v := nI 2) dL_law_839 rfl ?_
  refine Go.iaddN dL_law_840 ?_
  refine Go.ialoadR (i + 2) dL_law_841 rfl (Nat.lt_of_le_of_lt hL (by decide)) (Nat.lt_of_lt_of_le (Nat.add_lt_add_left (by decide) i) hi) rfl ?_
  refine Go.aload_n dL_law_842 rfl ?_
  refine Go.at 843 rfl ?_
  refine Go.iload_n dL_law_843 rfl ?_
  refine Go.iconst (v := nI 3) dL_law_844 rfl ?_
  refine Go.iaddN dL_law_845 ?_
  refine Go.ialoadR (i + 3) dL_law_846 rfl (Nat.lt_of_le_of_lt hL (by decide)) (Nat.lt_of_lt_of_le (Nat.add_lt_add_left (by decide) i) hi) rfl ?_
  refine Go.callV 0 [vI (V.2.1.2 (i + 1)), vI (V.2.1.2 (i + 2)), vI (V.2.1.2 (i + 3))] [] dL_law_847 lkL_101.1 lkL_101.2.1 lkL_101.2.2.1 lkL_101.2.2.2 (Or.inl ⟨_, _, _, rfl, rfl, rfl⟩) rfl (Nat.le_of_ble_eq_true rfl) rfl (Nat.le_of_ble_eq_true rfl) (Go.mono (op_feed hS (V.2.1.2 (i + 1)) (V.2.1.2 (i + 2)) (V.2.1.2 (i + 3))) ?_)
  rintro r μ1 ⟨x, rfl, hm⟩
  show Go V (d + 68) mL_law 850 [some (vR 220), some (vR 0), some (vR 76), some (vI (nI i))] [vI x] μ1 _
  refine Go.aload_n dL_law_850 rfl ?_
  refine Go.aload_n dL_law_851 rfl ?_
  refine Go.iload_n dL_law_852 rfl ?_
  refine Go.iconst (v := nI 1) dL_law_853 rfl ?_
  refine Go.iaddN dL_law_854 ?_
  refine Go.ialoadR (i + 1) dL_law_855 rfl (Nat.lt_of_le_of_lt hL (by decide)) (Nat.lt_of_lt_of_le (Nat.add_lt_add_left (by decide) i) hi) rfl ?_
  refine Go.at 856 rfl ?_
  refine Go.aload_n dL_law_856 rfl ?_
  refine Go.iload_n dL_law_857 rfl ?_
  refine Go.iconst (v := nI 2) dL_law_858 rfl ?_
  refine Go.iaddN dL_law_859 ?_
  refine Go.ialoadR (i + 2) dL_law_860 rfl (Nat.lt_of_le_of_lt hL (by decide)) (Nat.lt_of_lt_of_le (Nat.add_lt_add_left (by decide) i) hi) rfl ?_
  refine Go.aload_n dL_law_861 rfl ?_
  refine Go.at 862 rfl ?_
  refine Go.iload_n dL_law_862 rfl ?_
  refine Go.iconst (v := nI 3) dL_law_863 rfl ?_
  refine Go.iaddN dL_law_864 ?_
  refine Go.ialoadR (i + 3) dL_law_865 rfl (Nat.lt_of_le_of_lt hL (by decide)) (Nat.lt_of_lt_of_le (Nat.add_lt_add_left (by decide) i) hi) rfl ?_
  refine Go.callV 76 [vI (V.2.1.2 (i + 1)), vI (V.2.1.2 (i + 2)), vI (V.2.1.2 (i + 3))] [vI x] dL_law_866 lkL_104.1 lkL_104.2.1 lkL_104.2.2.1 lkL_104.2.2.2 (Or.inl ⟨_, _, _, rfl, rfl, rfl⟩) rfl (Nat.le_of_ble_eq_true rfl) rfl (Nat.le_of_ble_eq_true rfl) (Go.mono hm ?_)
  rintro r μ2 ⟨rfl, hS2⟩
  show Go V (d + 68) mL_law 869 [some (vR 220), some (vR 0), some (vR 76), some (vI (nI i))] [vI x, vI x] μ2 _
  refine Go.icmp_eq_t (tgt := 1408) dL_law_869 (by decide) rfl ?_
  exact hk μ2 hS2
theorem law_c22 {V : VV} {d i : Nat} {μ : Memo} {Q : Option AVal → Memo → Prop} (hL : V.2.1.1 ≤ 384) (hi : i + 6 ≤ V.2.1.1) (hS : Sim μ) (hk : ∀ μ', Sim μ' → Go V (d + 68) mL_law 1408 [some (vR 220), some (vR 0), some (vR 76), some (vI (nI i))] [] μ' Q) : Go V (d + 68) mL_law 874 [some (vR 220), some (vR 0), some (vR 76), some (vI (nI i))] [] μ Q := by
  refine Go.aload_n dL_law_874 rfl ?_
  refine Go.aload_n dL_law_875 rfl ?_
  refine Go.iload_n dL_law_876 rfl ?_
  refine Go.iconst (v := nI 1) dL_law_877 rfl ?_
  refine Go.iaddN dL_law_878 ?_
  refine Go.ialoadR (i + 1) dL_law_879 rfl (Nat.lt_of_le_of_lt hL (by decide)) (Nat.lt_of_lt_of_le (Nat.add_lt_add_left (by decide) i) hi) rfl ?_
  refine Go.at 880 rfl ?_
  refine Go.callV 0 [vI (V.2.1.2 (i + 1))] [] dL_law_880 lkL_105.1 lkL_105.2.1 lkL_105.2.2.1 lkL_105.2.2.2 (Or.inl ⟨_, _, _, rfl, rfl, rfl⟩) rfl (Nat.le_of_ble_eq_true rfl) rfl (Nat.le_of_ble_eq_true rfl) (Go.mono (op_trim hS (V.2.1.2 (i + 1))) ?_)
  rintro r μ1 ⟨x, rfl, hm⟩
  show Go V (d + 68) mL_law 883 [some (vR 220), some (vR 0), some (vR 76), some (vI (nI i))] [vI x] μ1 _
  refine Go.aload_n dL_law_883 rfl ?_
  refine Go.aload_n dL_law_884 rfl ?_
  refine Go.iload_n dL_law_885 rfl ?_
  refine Go.iconst (v := nI 1) dL_law_886 rfl ?_
  refine Go.iaddN dL_law_887 ?_
  refine Go.ialoadR (i + 1) dL_law_888 rfl (Nat.lt_of_le_of_lt hL (by decide)) (Nat.lt_of_lt_of_le (Nat.add_lt_add_left (by decide) i) hi) rfl ?_
  refine Go.at 889 rfl ?_
  refine Go.callV 76 [vI (V.2.1.2 (i + 1))] [vI x] dL_law_889 lkL_108.1 lkL_108.2.1 lkL_108.2.2.1 lkL_108.2.2.2 (Or.inl ⟨_, _, _, rfl, rfl, rfl⟩) rfl (Nat.le_of_ble_eq_true rfl) rfl (Nat.le_of_ble_eq_true rfl) (Go.mono hm ?_)
  rintro r μ2 ⟨rfl, hS2⟩
  show Go V (d + 68) mL_law 892 [some (vR 220), some (vR 0), some (vR 76), some (vI (nI i))] [vI x, vI x] μ2 _
  refine Go.icmp_eq_t (tgt := 1408) dL_law_892 (by decide) rfl ?_
  exact hk μ2 hS2
theorem law_c23 {V : VV} {d i : Nat} {μ : Memo} {Q : Option AVal → Memo → Prop} (hL : V.2.1.1 ≤ 384) (hi : i + 6 ≤ V.2.1.1) (hS : Sim μ) (hk : ∀ μ', Sim μ' → Go V (d + 68) mL_law 1408 [some (vR 220), some (vR 0), some (vR 76), some (vI (nI i))] [] μ' Q) : Go V (d + 68) mL_law 897 [some (vR 220), some (vR 0), some (vR 76), some (vI (nI i))] [] μ Q := by
  refine Go.aload_n dL_law_897 rfl ?_
  refine Go.callV 0 [] [] dL_law_898 lkL_109.1 lkL_109.2.1 lkL_109.2.2.1 lkL_109.2.2.2 (Or.inl ⟨_, _, _, rfl, rfl, rfl⟩) rfl (Nat.le_of_ble_eq_true rfl) rfl (Nat.le_of_ble_eq_true rfl) (Go.mono (op_text hS) ?_)
  rintro r μ1 ⟨x, rfl, hm⟩
  show Go V (d + 68) mL_law 901 [some (vR 220), some (vR 0), some (vR 76), some (vI (nI i))] [vI x] μ1 _
  refine Go.aload_n dL_law_901 rfl ?_
  refine Go.callV 76 [] [vI x] dL_law_902 lkL_112.1 lkL_112.2.1 lkL_112.2.2.1 lkL_112.2.2.2 (Or.inl ⟨_, _, _, rfl, rfl, rfl⟩) rfl (Nat.le_of_ble_eq_true rfl) rfl (Nat.le_of_ble_eq_true rfl) (Go.mono hm ?_)
  rintro r μ2 ⟨rfl, hS2⟩
  show Go V (d + 68) mL_law 905 [some (vR 220), some (vR 0), some (vR 76), some (vI (nI i))] [vI x, vI x] μ2 _
  refine Go.icmp_eq_t (tgt := 1408) dL_law_905 (by decide) rfl ?_
  exact hk μ2 hS2
theorem law_c24 {V : VV} {d i : Nat} {μ : Memo} {Q : Option AVal → Memo → Prop} (hL : V.2.1.1 ≤ 384) (hi : i + 6 ≤ V.2.1.1) (hS : Sim μ) (hk : ∀ μ', Sim μ' → Go V (d + 68) mL_law 1408 [some (vR 220), some (vR 0), some (vR 76), some (vI (nI i))] [] μ' Q) : Go V (d + 68) mL_law 910 [some (vR 220), some (vR 0), some (vR 76), some (vI (nI i))] [] μ Q := by
  refine Go.aload_n dL_law_910 rfl ?_
  refine Go.aload_n dL_law_911 rfl ?_
  refine Go.iload_n dL_law_912 rfl ?_
  refine Go.iconst (v := nI 1) dL_law_913 rfl ?_
  refine Go.iaddN dL_law_914 ?_
  refine Go.ialoadR (i + 1) dL_law_915 rfl (Nat.lt_of_le_of_lt hL (by decide)) (Nat.lt_of_lt_of_le (Nat.add_lt_add_left (by decide) i) hi) rfl ?_
  refine Go.at 916 rfl ?_
  refine Go.aload_n dL_law_916 rfl ?_
  refine Go.iload_n dL_law_917 rfl ?_
  refine Go.iconst (v := nI 2) dL_law_918 rfl ?_
  refine Go.iaddN dL_law_919 ?_
  refine Go.ialoadR (i + 2) dL_law_920 rfl (Nat.lt_of_le_of_lt hL (by decide)) (Nat.lt_of_lt_of_le (Nat.add_lt_add_left (by decide) i) hi) rfl ?_
  refine Go.callV 0 [vI (V.2.1.2 (i + 1)), vI (V.2.1.2 (i + 2))] [] dL_law_921 lkL_113.1 lkL_113.2.1 lkL_113.2.2.1 lkL_113.2.2.2 (Or.inl ⟨_, _, _, rfl, rfl, rfl⟩) rfl (Nat.le_of_ble_eq_true rfl) rfl (Nat.le_of_ble_eq_true rfl) (Go.mono (op_textTold hS (V.2.1.2 (i + 1)) (V.2.1.2 (i + 2))) ?_)
  rintro r μ1 ⟨x, rfl, hm⟩
  show Go V (d + 68) mL_law 924 [some (vR 220), some (vR 0), some (vR 76), some (vI (nI i))] [vI x] μ1 _
  refine Go.aload_n dL_law_924 rfl ?_
  refine Go.aload_n dL_law_925 rfl ?_
  refine Go.iload_n dL_law_926 rfl ?_
  refine Go.iconst (v := nI 1) dL_law_927 rfl ?_
  refine Go.iaddN dL_law_928 ?_
  refine Go.ialoadR (i + 1) dL_law_929 rfl (Nat.lt_of_le_of_lt hL (by decide)) (Nat.lt_of_lt_of_le (Nat.add_lt_add_left (by decide) i) hi) rfl ?_
  refine Go.at 930 rfl ?_
  refine Go.aload_n dL_law_930 rfl ?_
  refine Go.iload_n dL_law_931 rfl ?_
  refine Go.iconst (v := nI 2) dL_law_932 rfl ?_
  refine Go.iaddN dL_law_933 ?_
  refine Go.ialoadR (i + 2) dL_law_934 rfl (Nat.lt_of_le_of_lt hL (by decide)) (Nat.lt_of_lt_of_le (Nat.add_lt_add_left (by decide) i) hi) rfl ?_
  refine Go.callV 76 [vI (V.2.1.2 (i + 1)), vI (V.2.1.2 (i + 2))] [vI x] dL_law_935 lkL_116.1 lkL_116.2.1 lkL_116.2.2.1 lkL_116.2.2.2 (Or.inl ⟨_, _, _, rfl, rfl, rfl⟩) rfl (Nat.le_of_ble_eq_true rfl) rfl (Nat.le_of_ble_eq_true rfl) (Go.mono hm ?_)
  rintro r μ2 ⟨rfl, hS2⟩
  show Go V (d + 68) mL_law 938 [some (vR 220), some (vR 0), some (vR 76), some (vI (nI i))] [vI x, vI x] μ2 _
  refine Go.icmp_eq_t (tgt := 1408) dL_law_938 (by decide) rfl ?_
  exact hk μ2 hS2
theorem law_c25 {V : VV} {d i : Nat} {μ : Memo} {Q : Option AVal → Memo → Prop} (hL : V.2.1.1 ≤ 384) (hi : i + 6 ≤ V.2.1.1) (hS : Sim μ) (hk : ∀ μ', Sim μ' → Go V (d + 68) mL_law 1408 [some (vR 220), some (vR 0), some (vR 76), some (vI (nI i))] [] μ' Q) : Go V (d + 68) mL_law 943 [some (vR 220), some (vR 0), some (vR 76), some (vI (nI i))] [] μ Q := by
  refine Go.aload_n dL_law_943 rfl ?_
  refine Go.aload_n dL_law_944 rfl ?_
  refine Go.iload_n dL_law_945 rfl ?_
  refine Go.iconst (v := nI 1) dL_law_946 rfl ?_
  refine Go.iaddN dL_law_947 ?_
  refine Go.ialoadR (i + 1) dL_law_948 rfl (Nat.lt_of_le_of_lt hL (by decide)) (Nat.lt_of_lt_of_le (Nat.add_lt_add_left (by decide) i) hi) rfl ?_
  refine Go.at 949 rfl ?_
  refine Go.callV 0 [vI (V.2.1.2 (i + 1))] [] dL_law_949 lkL_117.1 lkL_117.2.1 lkL_117.2.2.1 lkL_117.2.2.2 (Or.inl ⟨_, _, _, rfl, rfl, rfl⟩) rfl (Nat.le_of_ble_eq_true rfl) rfl (Nat.le_of_ble_eq_true rfl) (Go.mono (op_why hS (V.2.1.2 (i + 1))) ?_)
  rintro r μ1 ⟨x, rfl, hm⟩
  show Go V (d + 68) mL_law 952 [some (vR 220), some (vR 0), some (vR 76), some (vI (nI i))] [vI x] μ1 _
  refine Go.aload_n dL_law_952 rfl ?_
  refine Go.aload_n dL_law_953 rfl ?_
  refine Go.iload_n dL_law_954 rfl ?_
  refine Go.iconst (v := nI 1) dL_law_955 rfl ?_
  refine Go.iaddN dL_law_956 ?_
  refine Go.ialoadR (i + 1) dL_law_957 rfl (Nat.lt_of_le_of_lt hL (by decide)) (Nat.lt_of_lt_of_le (Nat.add_lt_add_left (by decide) i) hi) rfl ?_
  refine Go.at 958 rfl ?_
  refine Go.callV 76 [vI (V.2.1.2 (i + 1))] [vI x] dL_law_958 lkL_120.1 lkL_120.2.1 lkL_120.2.2.1 lkL_120.2.2.2 (Or.inl ⟨_, _, _, rfl, rfl, rfl⟩) rfl (Nat.le_of_ble_eq_true rfl) rfl (Nat.le_of_ble_eq_true rfl) (Go.mono hm ?_)
  rintro r μ2 ⟨rfl, hS2⟩
  show Go V (d + 68) mL_law 961 [some (vR 220), some (vR 0), some (vR 76), some (vI (nI i))] [vI x, vI x] μ2 _
  refine Go.icmp_eq_t (tgt := 1408) dL_law_961 (by decide) rfl ?_
  exact hk μ2 hS2
theorem law_c26 {V : VV} {d i : Nat} {μ : Memo} {Q : Option AVal → Memo → Prop} (hL : V.2.1.1 ≤ 384) (hi : i + 6 ≤ V.2.1.1) (hS : Sim μ) (hk : ∀ μ', Sim μ' → Go V (d + 68) mL_law 1408 [some (vR 220), some (vR 0), some (vR 76), some (vI (nI i))] [] μ' Q) : Go V (d + 68) mL_law 966 [some (vR 220), some (vR 0), some (vR 76), some (vI (nI i))] [] μ Q := by
  refine Go.aload_n dL_law_966 rfl ?_
  refine Go.aload_n dL_law_967 rfl ?_
  refine Go.iload_n dL_law_968 rfl ?_
  refine Go.iconst (v := nI 1) dL_law_969 rfl ?_
  refine Go.iaddN dL_law_970 ?_
  refine Go.ialoadR (i + 1) dL_law_971 rfl (Nat.lt_of_le_of_lt hL (by decide)) (Nat.lt_of_lt_of_le (Nat.add_lt_add_left (by decide) i) hi) rfl ?_
  refine Go.at 972 rfl ?_
  refine Go.aload_n dL_law_972 rfl ?_
  refine Go.iload_n dL_law_973 rfl ?_
  refine Go.iconst (v := nI 2) dL_law_974 rfl ?_
  refine Go.iaddN dL_law_975 ?_
  refine Go.ialoadR (i + 2) dL_law_976 rfl (Nat.lt_of_le_of_lt hL (by decide)) (Nat.lt_of_lt_of_le (Nat.add_lt_add_left (by decide) i) hi) rfl ?_
  refine Go.aload_n dL_law_977 rfl ?_
  refine Go.at 978 rfl ?_
  refine Go.iload_n dL_law_978 rfl ?_
  refine Go.iconst (v := nI 3) dL_law_979 rfl ?_
  refine Go.iaddN dL_law_980 ?_
  refine Go.ialoadR (i + 3) dL_law_981 rfl (Nat.lt_of_le_of_lt hL (by decide)) (Nat.lt_of_lt_of_le (Nat.add_lt_add_left (by decide) i) hi) rfl ?_
  refine Go.callV 0 [vI (V.2.1.2 (i + 1)), vI (V.2.1.2 (i + 2)), vI (V.2.1.2 (i + 3))] [] dL_law_982 lkL_121.1 lkL_121.2.1 lkL_121.2.2.1 lkL_121.2.2.2 (Or.inl ⟨_, _, _, rfl, rfl, rfl⟩) rfl (Nat.le_of_ble_eq_true rfl) rfl (Nat.le_of_ble_eq_true rfl) (Go.mono (op_sheet hS (V.2.1.2 (i + 1)) (V.2.1.2 (i + 2)) (V.2.1.2 (i + 3))) ?_)
  rintro r μ1 ⟨x, rfl, hm⟩
  show Go V (d + 68) mL_law 985 [some (vR 220), some (vR 0), some (vR 76), some (vI (nI i))] [vI x] μ1 _
  refine Go.aload_n dL_law_985 rfl ?_
  refine Go.aload_n dL_law_986 rfl ?_
  refine Go.iload_n dL_law_987 rfl ?_
  refine Go.iconst (v := nI 1) dL_law_988 rfl ?_
  refine Go.iaddN dL_law_989 ?_
  refine Go.ialoadR (i + 1) dL_law_990 rfl (Nat.lt_of_le_of_lt hL (by decide)) (Nat.lt_of_lt_of_le (Nat.add_lt_add_left (by decide) i) hi) rfl ?_
  refine Go.at 991 rfl ?_
  refine Go.aload_n dL_law_991 rfl ?_
  refine Go.iload_n dL_law_992 rfl ?_
  refine Go.iconst (v := nI 2) dL_law_993 rfl ?_
  refine Go.iaddN dL_law_994 ?_
  refine Go.ialoadR (i + 2) dL_law_995 rfl (Nat.lt_of_le_of_lt hL (by decide)) (Nat.lt_of_lt_of_le (Nat.add_lt_add_left (by decide) i) hi) rfl ?_
  refine Go.aload_n dL_law_996 rfl ?_
  refine Go.at 997 rfl ?_
  refine Go.iload_n dL_law_997 rfl ?_
  refine Go.iconst (v := nI 3) dL_law_998 rfl ?_
  refine Go.iaddN dL_law_999 ?_
  refine Go.ialoadR (i + 3) dL_law_1000 rfl (Nat.lt_of_le_of_lt hL (by decide)) (Nat.lt_of_lt_of_le (Nat.add_lt_add_left (by decide) i) hi) rfl ?_
  refine Go.callV 76 [vI (V.2.1.2 (i + 1)), vI (V.2.1.2 (i + 2)), vI (V.2.1.2 (i + 3))] [vI x] dL_law_1001 lkL_124.1 lkL_124.2.1 lkL_124.2.2.1 lkL_124.2.2.2 (Or.inl ⟨_, _, _, rfl, rfl, rfl⟩) rfl (Nat.le_of_ble_eq_true rfl) rfl (Nat.le_of_ble_eq_true rfl) (Go.mono hm ?_)
  rintro r μ2 ⟨rfl, hS2⟩
  show Go V (d + 68) mL_law 1004 [some (vR 220), some (vR 0), some (vR 76), some (vI (nI i))] [vI x, vI x] μ2 _
  refine Go.icmp_eq_t (tgt := 1408) dL_law_1004 (by decide) rfl ?_
  exact hk μ2 hS2
theorem law_c27 {V : VV} {d i : Nat} {μ : Memo} {Q : Option AVal → Memo → Prop} (hL : V.2.1.1 ≤ 384) (hi : i + 6 ≤ V.2.1.1) (hS : Sim μ) (hk : ∀ μ', Sim μ' → Go V (d + 68) mL_law 1408 [some (vR 220), some (vR 0), some (vR 76), some (vI (nI i))] [] μ' Q) : Go V (d + 68) mL_law 1009 [some (vR 220), some (vR 0), some (vR 76), some (vI (nI i))] [] μ Q := by
  refine Go.aload_n dL_law_1009 rfl ?_
  refine Go.aload_n dL_law_1010 rfl ?_
  refine Go.iload_n dL_law_1011 rfl ?_
  refine Go.iconst (v := nI 1) dL_law_1012 rfl ?_
  refine Go.iaddN dL_law_1013 ?_
  refine Go.ialoadR (i + 1) dL_law_1014 rfl (Nat.lt_of_le_of_lt hL (by decide)) (Nat.lt_of_lt_of_le (Nat.add_lt_add_left (by decide) i) hi) rfl ?_
  refine Go.at 1015 rfl ?_
  refine Go.aload_n dL_law_1015 rfl ?_
  refine Go.iload_n dL_law_1016 rfl ?_
  refine Go.iconst (v := nI 2) dL_law_1017 rfl ?_
  refine Go.iaddN dL_law_1018 ?_
  refine Go.ialoadR (i + 2) dL_law_1019 rfl (Nat.lt_of_le_of_lt hL (by decide)) (Nat.lt_of_lt_of_le (Nat.add_lt_add_left (by decide) i) hi) rfl ?_
  refine Go.aload_n dL_law_1020 rfl ?_
  refine Go.at 1021 rfl ?_
  refine Go.iload_n dL_law_1021 rfl ?_
  refine Go.iconst (v := nI 3) dL_law_1022 rfl ?_
  refine Go.iaddN dL_law_1023 ?_
  refine Go.ialoadR (i + 3) dL_law_1024 rfl (Nat.lt_of_le_of_lt hL (by decide)) (Nat.lt_of_lt_of_le (Nat.add_lt_add_left (by decide) i) hi) rfl ?_
  refine Go.callV 0 [vI (V.2.1.2 (i + 1)), vI (V.2.1.2 (i + 2)), vI (V.2.1.2 (i + 3))] [] dL_law_1025 lkL_125.1 lkL_125.2.1 lkL_125.2.2.1 lkL_125.2.2.2 (Or.inl ⟨_, _, _, rfl, rfl, rfl⟩) rfl (Nat.le_of_ble_eq_true rfl) rfl (Nat.le_of_ble_eq_true rfl) (Go.mono (op_mark hS (V.2.1.2 (i + 1)) (V.2.1.2 (i + 2)) (V.2.1.2 (i + 3))) ?_)
  rintro r μ1 ⟨x, rfl, hm⟩
  show Go V (d + 68) mL_law 1028 [some (vR 220), some (vR 0), some (vR 76), some (vI (nI i))] [vI x] μ1 _
  refine Go.aload_n dL_law_1028 rfl ?_
  refine Go.aload_n dL_law_1029 rfl ?_
  refine Go.iload_n dL_law_1030 rfl ?_
  refine Go.iconst (v := nI 1) dL_law_1031 rfl ?_
  refine Go.iaddN dL_law_1032 ?_
  refine Go.ialoadR (i + 1) dL_law_1033 rfl (Nat.lt_of_le_of_lt hL (by decide)) (Nat.lt_of_lt_of_le (Nat.add_lt_add_left (by decide) i) hi) rfl ?_
  refine Go.at 1034 rfl ?_
  refine Go.aload_n dL_law_1034 rfl ?_
  refine Go.iload_n dL_law_1035 rfl ?_
  refine Go.iconst (v := nI 2) dL_law_1036 rfl ?_
  refine Go.iaddN dL_law_1037 ?_
  refine Go.ialoadR (i + 2) dL_law_1038 rfl (Nat.lt_of_le_of_lt hL (by decide)) (Nat.lt_of_lt_of_le (Nat.add_lt_add_left (by decide) i) hi) rfl ?_
  refine Go.aload_n dL_law_1039 rfl ?_
  refine Go.at 1040 rfl ?_
  refine Go.iload_n dL_law_1040 rfl ?_
  refine Go.iconst (v := nI 3) dL_law_1041 rfl ?_
  refine Go.iaddN dL_law_1042 ?_
  refine Go.ialoadR (i + 3) dL_law_1043 rfl (Nat.lt_of_le_of_lt hL (by decide)) (Nat.lt_of_lt_of_le (Nat.add_lt_add_left (by decide) i) hi) rfl ?_
  refine Go.callV 76 [vI (V.2.1.2 (i + 1)), vI (V.2.1.2 (i + 2)), vI (V.2.1.2 (i + 3))] [vI x] dL_law_1044 lkL_128.1 lkL_128.2.1 lkL_128.2.2.1 lkL_128.2.2.2 (Or.inl ⟨_, _, _, rfl, rfl, rfl⟩) rfl (Nat.le_of_ble_eq_true rfl) rfl (Nat.le_of_ble_eq_true rfl) (Go.mono hm ?_)
  rintro r μ2 ⟨rfl, hS2⟩
  show Go V (d + 68) mL_law 1047 [some (vR 220), some (vR 0), some (vR 76), some (vI (nI i))] [vI x, vI x] μ2 _
  refine Go.icmp_eq_t (tgt := 1408) dL_law_1047 (by decide) rfl ?_
  exact hk μ2 hS2
theorem law_c28 {V : VV} {d i : Nat} {μ : Memo} {Q : Option AVal → Memo → Prop} (hL : V.2.1.1 ≤ 384) (hi : i + 6 ≤ V.2.1.1) (hS : Sim μ) (hk : ∀ μ', Sim μ' → Go V (d + 68) mL_law 1408 [some (vR 220), some (vR 0), some (vR 76), some (vI (nI i))] [] μ' Q) : Go V (d + 68) mL_law 1052 [some (vR 220), some (vR 0), some (vR 76), some (vI (nI i))] [] μ Q := by
  refine Go.aload_n dL_law_1052 rfl ?_
  refine Go.aload_n dL_law_1053 rfl ?_
  refine Go.iload_n dL_law_1054 rfl ?_
  refine Go.iconst (v := nI 1) dL_law_1055 rfl ?_
  refine Go.iaddN dL_law_1056 ?_
  refine Go.ialoadR (i + 1) dL_law_1057 rfl (Nat.lt_of_le_of_lt hL (by decide)) (Nat.lt_of_lt_of_le (Nat.add_lt_add_left (by decide) i) hi) rfl ?_
  refine Go.at 1058 rfl ?_
  refine Go.aload_n dL_law_1058 rfl ?_
  refine Go.iload_n dL_law_1059 rfl ?_
  refine Go.iconst (v := nI 2) dL_law_1060 rfl ?_
  refine Go.iaddN dL_law_1061 ?_
  refine Go.ialoadR (i + 2) dL_law_1062 rfl (Nat.lt_of_le_of_lt hL (by decide)) (Nat.lt_of_lt_of_le (Nat.add_lt_add_left (by decide) i) hi) rfl ?_
  refine Go.callV 0 [vI (V.2.1.2 (i + 1)), vI (V.2.1.2 (i + 2))] [] dL_law_1063 lkL_129.1 lkL_129.2.1 lkL_129.2.2.1 lkL_129.2.2.2 (Or.inl ⟨_, _, _, rfl, rfl, rfl⟩) rfl (Nat.le_of_ble_eq_true rfl) rfl (Nat.le_of_ble_eq_true rfl) (Go.mono (op_pour hS (V.2.1.2 (i + 1)) (V.2.1.2 (i + 2))) ?_)
  rintro r μ1 ⟨x, rfl, hm⟩
  show Go V (d + 68) mL_law 1066 [some (vR 220), some (vR 0), some (vR 76), some (vI (nI i))] [vI x] μ1 _
  refine Go.aload_n dL_law_1066 rfl ?_
  refine Go.aload_n dL_law_1067 rfl ?_
  refine Go.iload_n dL_law_1068 rfl ?_
  refine Go.iconst (v := nI 1) dL_law_1069 rfl ?_
  refine Go.iaddN dL_law_1070 ?_
  refine Go.ialoadR (i + 1) dL_law_1071 rfl (Nat.lt_of_le_of_lt hL (by decide)) (Nat.lt_of_lt_of_le (Nat.add_lt_add_left (by decide) i) hi) rfl ?_
  refine Go.at 1072 rfl ?_
  refine Go.aload_n dL_law_1072 rfl ?_
  refine Go.iload_n dL_law_1073 rfl ?_
  refine Go.iconst (v := nI 2) dL_law_1074 rfl ?_
  refine Go.iaddN dL_law_1075 ?_
  refine Go.ialoadR (i + 2) dL_law_1076 rfl (Nat.lt_of_le_of_lt hL (by decide)) (Nat.lt_of_lt_of_le (Nat.add_lt_add_left (by decide) i) hi) rfl ?_
  refine Go.callV 76 [vI (V.2.1.2 (i + 1)), vI (V.2.1.2 (i + 2))] [vI x] dL_law_1077 lkL_132.1 lkL_132.2.1 lkL_132.2.2.1 lkL_132.2.2.2 (Or.inl ⟨_, _, _, rfl, rfl, rfl⟩) rfl (Nat.le_of_ble_eq_true rfl) rfl (Nat.le_of_ble_eq_true rfl) (Go.mono hm ?_)
  rintro r μ2 ⟨rfl, hS2⟩
  show Go V (d + 68) mL_law 1080 [some (vR 220), some (vR 0), some (vR 76), some (vI (nI i))] [vI x, vI x] μ2 _
  refine Go.icmp_eq_t (tgt := 1408) dL_law_1080 (by decide) rfl ?_
  exact hk μ2 hS2
theorem law_c29 {V : VV} {d i : Nat} {μ : Memo} {Q : Option AVal → Memo → Prop} (hL : V.2.1.1 ≤ 384) (hi : i + 6 ≤ V.2.1.1) (hS : Sim μ) (hk : ∀ μ', Sim μ' → Go V (d + 68) mL_law 1408 [some (vR 220), some (vR 0), some (vR 76), some (vI (nI i))] [] μ' Q) : Go V (d + 68) mL_law 1085 [some (vR 220), some (vR 0), some (vR 76), some (vI (nI i))] [] μ Q := by
  refine Go.aload_n dL_law_1085 rfl ?_
  refine Go.aload_n dL_law_1086 rfl ?_
  refine Go.iload_n dL_law_1087 rfl ?_
  refine Go.iconst (v := nI 1) dL_law_1088 rfl ?_
  refine Go.iaddN dL_law_1089 ?_
  refine Go.ialoadR (i + 1) dL_law_1090 rfl (Nat.lt_of_le_of_lt hL (by decide)) (Nat.lt_of_lt_of_le (Nat.add_lt_add_left (by decide) i) hi) rfl ?_
  refine Go.at 1091 rfl ?_
  refine Go.callV 0 [vI (V.2.1.2 (i + 1))] [] dL_law_1091 lkL_133.1 lkL_133.2.1 lkL_133.2.2.1 lkL_133.2.2.2 (Or.inl ⟨_, _, _, rfl, rfl, rfl⟩) rfl (Nat.le_of_ble_eq_true rfl) rfl (Nat.le_of_ble_eq_true rfl) (Go.mono (op_reads hS (V.2.1.2 (i + 1))) ?_)
  rintro r μ1 ⟨x, rfl, hm⟩
  show Go V (d + 68) mL_law 1094 [some (vR 220), some (vR 0), some (vR 76), some (vI (nI i))] [vI x] μ1 _
  refine Go.aload_n dL_law_1094 rfl ?_
  refine Go.aload_n dL_law_1095 rfl ?_
  refine Go.iload_n dL_law_1096 rfl ?_
  refine Go.iconst (v := nI 1) dL_law_1097 rfl ?_
  refine Go.iaddN dL_law_1098 ?_
  refine Go.ialoadR (i + 1) dL_law_1099 rfl (Nat.lt_of_le_of_lt hL (by decide)) (Nat.lt_of_lt_of_le (Nat.add_lt_add_left (by decide) i) hi) rfl ?_
  refine Go.at 1100 rfl ?_
  refine Go.callV 76 [vI (V.2.1.2 (i + 1))] [vI x] dL_law_1100 lkL_136.1 lkL_136.2.1 lkL_136.2.2.1 lkL_136.2.2.2 (Or.inl ⟨_, _, _, rfl, rfl, rfl⟩) rfl (Nat.le_of_ble_eq_true rfl) rfl (Nat.le_of_ble_eq_true rfl) (Go.mono hm ?_)
  rintro r μ2 ⟨rfl, hS2⟩
  show Go V (d + 68) mL_law 1103 [some (vR 220), some (vR 0), some (vR 76), some (vI (nI i))] [vI x, vI x] μ2 _
  refine Go.icmp_eq_t (tgt := 1408) dL_law_1103 (by decide) rfl ?_
  exact hk μ2 hS2
theorem law_c30 {V : VV} {d i : Nat} {μ : Memo} {Q : Option AVal → Memo → Prop} (hL : V.2.1.1 ≤ 384) (hi : i + 6 ≤ V.2.1.1) (hS : Sim μ) (hk : ∀ μ', Sim μ' → Go V (d + 68) mL_law 1408 [some (vR 220), some (vR 0), some (vR 76), some (vI (nI i))] [] μ' Q) : Go V (d + 68) mL_law 1108 [some (vR 220), some (vR 0), some (vR 76), some (vI (nI i))] [] μ Q := by
  refine Go.aload_n dL_law_1108 rfl ?_
  refine Go.aload_n dL_law_1109 rfl ?_
  refine Go.iload_n dL_law_1110 rfl ?_
  refine Go.iconst (v := nI 1) dL_law_1111 rfl ?_
  refine Go.iaddN dL_law_1112 ?_
  refine Go.ialoadR (i + 1) dL_law_1113 rfl (Nat.lt_of_le_of_lt hL (by decide)) (Nat.lt_of_lt_of_le (Nat.add_lt_add_left (by decide) i) hi) rfl ?_
  refine Go.at 1114 rfl ?_
  refine Go.aload_n dL_law_1114 rfl ?_
  refine Go.iload_n dL_law_1115 rfl ?_
  refine Go.iconst (v := nI 2) dL_law_1116 rfl ?_
  refine Go.iaddN dL_law_1117 ?_
  refine Go.ialoadR (i + 2) dL_law_1118 rfl (Nat.lt_of_le_of_lt hL (by decide)) (Nat.lt_of_lt_of_le (Nat.add_lt_add_left (by decide) i) hi) rfl ?_
  refine Go.aload_n dL_law_1119 rfl ?_
  refine Go.at 1120 rfl ?_
  refine Go.iload_n dL_law_1120 rfl ?_
  refine Go.iconst (v := nI 3) dL_law_1121 rfl ?_
  refine Go.iaddN dL_law_1122 ?_
  refine Go.ialoadR (i + 3) dL_law_1123 rfl (Nat.lt_of_le_of_lt hL (by decide)) (Nat.lt_of_lt_of_le (Nat.add_lt_add_left (by decide) i) hi) rfl ?_
  refine Go.aload_n dL_law_1124 rfl ?_
  refine Go.iload_n dL_law_1125 rfl ?_
  refine Go.at 1126 rfl ?_
  refine Go.iconst (v := nI 4) dL_law_1126 rfl ?_
  refine Go.iaddN dL_law_1127 ?_
  refine Go.ialoadR (i + 4) dL_law_1128 rfl (Nat.lt_of_le_of_lt hL (by decide)) (Nat.lt_of_lt_of_le (Nat.add_lt_add_left (by decide) i) hi) rfl ?_
  refine Go.aload_n dL_law_1129 rfl ?_
  refine Go.iload_n dL_law_1130 rfl ?_
  refine Go.iconst (v := nI 5) dL_law_1131 rfl ?_
  refine Go.at 1132 rfl ?_
  refine Go.iaddN dL_law_1132 ?_
  refine Go.ialoadR (i + 5) dL_law_1133 rfl (Nat.lt_of_le_of_lt hL (by decide)) (Nat.lt_of_lt_of_le (Nat.add_lt_add_left (by decide) i) hi) rfl ?_
  refine Go.callV 0 [vI (V.2.1.2 (i + 1)), vI (V.2.1.2 (i + 2)), vI (V.2.1.2 (i + 3)), vI (V.2.1.2 (i + 4)), vI (V.2.1.2 (i + 5))] [] dL_law_1134 lkL_137.1 lkL_137.2.1 lkL_137.2.2.1 lkL_137.2.2.2 (Or.inl ⟨_, _, _, rfl, rfl, rfl⟩) rfl (Nat.le_of_ble_eq_true rfl) rfl (Nat.le_of_ble_eq_true rfl) (Go.mono (op_copy hS (V.2.1.2 (i + 1)) (V.2.1.2 (i + 2)) (V.2.1.2 (i + 3)) (V.2.1.2 (i + 4)) (V.2.1.2 (i + 5))) ?_)
  rintro r μ1 ⟨x, rfl, hm⟩
  show Go V (d + 68) mL_law 1137 [some (vR 220), some (vR 0), some (vR 76), some (vI (nI i))] [vI x] μ1 _
  refine Go.aload_n dL_law_1137 rfl ?_
  refine Go.aload_n dL_law_1138 rfl ?_
  refine Go.iload_n dL_law_1139 rfl ?_
  refine Go.iconst (v := nI 1) dL_law_1140 rfl ?_
  refine Go.iaddN dL_law_1141 ?_
  refine Go.ialoadR (i + 1) dL_law_1142 rfl (Nat.lt_of_le_of_lt hL (by decide)) (Nat.lt_of_lt_of_le (Nat.add_lt_add_left (by decide) i) hi) rfl ?_
  refine Go.at 1143 rfl ?_
  refine Go.aload_n dL_law_1143 rfl ?_
  refine Go.iload_n dL_law_1144 rfl ?_
  refine Go.iconst (v := nI 2) dL_law_1145 rfl ?_
  refine Go.iaddN dL_law_1146 ?_
  refine Go.ialoadR (i + 2) dL_law_1147 rfl (Nat.lt_of_le_of_lt hL (by decide)) (Nat.lt_of_lt_of_le (Nat.add_lt_add_left (by decide) i) hi) rfl ?_
  refine Go.aload_n dL_law_1148 rfl ?_
  refine Go.at 1149 rfl ?_
  refine Go.iload_n dL_law_1149 rfl ?_
  refine Go.iconst (v := nI 3) dL_law_1150 rfl ?_
  refine Go.iaddN dL_law_1151 ?_
  refine Go.ialoadR (i + 3) dL_law_1152 rfl (Nat.lt_of_le_of_lt hL (by decide)) (Nat.lt_of_lt_of_le (Nat.add_lt_add_left (by decide) i) hi) rfl ?_
  refine Go.aload_n dL_law_1153 rfl ?_
  refine Go.iload_n dL_law_1154 rfl ?_
  refine Go.at 1155 rfl ?_
  refine Go.iconst (v := nI 4) dL_law_1155 rfl ?_
  refine Go.iaddN dL_law_1156 ?_
  refine Go.ialoadR (i + 4) dL_law_1157 rfl (Nat.lt_of_le_of_lt hL (by decide)) (Nat.lt_of_lt_of_le (Nat.add_lt_add_left (by decide) i) hi) rfl ?_
  refine Go.aload_n dL_law_1158 rfl ?_
  refine Go.iload_n dL_law_1159 rfl ?_
  refine Go.iconst (v := nI 5) dL_law_1160 rfl ?_
  refine Go.at 1161 rfl ?_
  refine Go.iaddN dL_law_1161 ?_
  refine Go.ialoadR (i + 5) dL_law_1162 rfl (Nat.lt_of_le_of_lt hL (by decide)) (Nat.lt_of_lt_of_le (Nat.add_lt_add_left (by decide) i) hi) rfl ?_
  refine Go.callV 76 [vI (V.2.1.2 (i + 1)), vI (V.2.1.2 (i + 2)), vI (V.2.1.2 (i + 3)), vI (V.2.1.2 (i + 4)), vI (V.2.1.2 (i + 5))] [vI x] dL_law_1163 lkL_141.1 lkL_141.2.1 lkL_141.2.2.1 lkL_141.2.2.2 (Or.inl ⟨_, _, _, rfl, rfl, rfl⟩) rfl (Nat.le_of_ble_eq_true rfl) rfl (Nat.le_of_ble_eq_true rfl) (Go.mono hm ?_)
  rintro r μ2 ⟨rfl, hS2⟩
  show Go V (d + 68) mL_law 1166 [some (vR 220), some (vR 0), some (vR 76), some (vI (nI i))] [vI x, vI x] μ2 _
  refine Go.icmp_eq_t (tgt := 1408) dL_law_1166 (by decide) rfl ?_
  exact hk μ2 hS2
theorem law_c31 {V : VV} {d i : Nat} {μ : Memo} {Q : Option AVal → Memo → Prop} (hL : V.2.1.1 ≤ 384) (hi : i + 6 ≤ V.2.1.1) (hS : Sim μ) (hk : ∀ μ', Sim μ' → Go V (d + 68) mL_law 1408 [some (vR 220), some (vR 0), some (vR 76), some (vI (nI i))] [] μ' Q) : Go V (d + 68) mL_law 1171 [some (vR 220), some (vR 0), some (vR 76), some (vI (nI i))] [] μ Q := by
  refine Go.aload_n dL_law_1171 rfl ?_
  refine Go.aload_n dL_law_1172 rfl ?_
  refine Go.iload_n dL_law_1173 rfl ?_
  refine Go.iconst (v := nI 1) dL_law_1174 rfl ?_
  refine Go.iaddN dL_law_1175 ?_
  refine Go.ialoadR (i + 1) dL_law_1176 rfl (Nat.lt_of_le_of_lt hL (by decide)) (Nat.lt_of_lt_of_le (Nat.add_lt_add_left (by decide) i) hi) rfl ?_
  refine Go.at 1177 rfl ?_
  refine Go.aload_n dL_law_1177 rfl ?_
  refine Go.iload_n dL_law_1178 rfl ?_
  refine Go.iconst (v := nI 2) dL_law_1179 rfl ?_
  refine Go.iaddN dL_law_1180 ?_
  refine Go.ialoadR (i + 2) dL_law_1181 rfl (Nat.lt_of_le_of_lt hL (by decide)) (Nat.lt_of_lt_of_le (Nat.add_lt_add_left (by decide) i) hi) rfl ?_
  refine Go.aload_n dL_law_1182 rfl ?_
  refine Go.at 1183 rfl ?_
  refine Go.iload_n dL_law_1183 rfl ?_
  refine Go.iconst (v := nI 3) dL_law_1184 rfl ?_
  refine Go.iaddN dL_law_1185 ?_
  refine Go.ialoadR (i + 3) dL_law_1186 rfl (Nat.lt_of_le_of_lt hL (by decide)) (Nat.lt_of_lt_of_le (Nat.add_lt_add_left (by decide) i) hi) rfl ?_
  refine Go.callV 0 [vI (V.2.1.2 (i + 1)), vI (V.2.1.2 (i + 2)), vI (V.2.1.2 (i + 3))] [] dL_law_1187 lkL_142.1 lkL_142.2.1 lkL_142.2.2.1 lkL_142.2.2.2 (Or.inl ⟨_, _, _, rfl, rfl, rfl⟩) rfl (Nat.le_of_ble_eq_true rfl) rfl (Nat.le_of_ble_eq_true rfl) (Go.mono (op_lay hS (V.2.1.2 (i + 1)) (V.2.1.2 (i + 2)) (V.2.1.2 (i + 3))) ?_)
  rintro r μ1 ⟨x, rfl, hm⟩
  show Go V (d + 68) mL_law 1190 [some (vR 220), some (vR 0), some (vR 76), some (vI (nI i))] [vI x] μ1 _
  refine Go.aload_n dL_law_1190 rfl ?_
  refine Go.aload_n dL_law_1191 rfl ?_
  refine Go.iload_n dL_law_1192 rfl ?_
  refine Go.iconst (v := nI 1) dL_law_1193 rfl ?_
  refine Go.iaddN dL_law_1194 ?_
  refine Go.ialoadR (i + 1) dL_law_1195 rfl (Nat.lt_of_le_of_lt hL (by decide)) (Nat.lt_of_lt_of_le (Nat.add_lt_add_left (by decide) i) hi) rfl ?_
  refine Go.at 1196 rfl ?_
  refine Go.aload_n dL_law_1196 rfl ?_
  refine Go.iload_n dL_law_1197 rfl ?_
  refine Go.iconst (v := nI 2) dL_law_1198 rfl ?_
  refine Go.iaddN dL_law_1199 ?_
  refine Go.ialoadR (i + 2) dL_law_1200 rfl (Nat.lt_of_le_of_lt hL (by decide)) (Nat.lt_of_lt_of_le (Nat.add_lt_add_left (by decide) i) hi) rfl ?_
  refine Go.aload_n dL_law_1201 rfl ?_
  refine Go.at 1202 rfl ?_
  refine Go.iload_n dL_law_1202 rfl ?_
  refine Go.iconst (v := nI 3) dL_law_1203 rfl ?_
  refine Go.iaddN dL_law_1204 ?_
  refine Go.ialoadR (i + 3) dL_law_1205 rfl (Nat.lt_of_le_of_lt hL (by decide)) (Nat.lt_of_lt_of_le (Nat.add_lt_add_left (by decide) i) hi) rfl ?_
  refine Go.callV 76 [vI (V.2.1.2 (i + 1)), vI (V.2.1.2 (i + 2)), vI (V.2.1.2 (i + 3))] [vI x] dL_law_1206 lkL_145.1 lkL_145.2.1 lkL_145.2.2.1 lkL_145.2.2.2 (Or.inl ⟨_, _, _, rfl, rfl, rfl⟩) rfl (Nat.le_of_ble_eq_true rfl) rfl (Nat.le_of_ble_eq_true rfl) (Go.mono hm ?_)
  rintro r μ2 ⟨rfl, hS2⟩
  show Go V (d + 68) mL_law 1209 [some (vR 220), some (vR 0), some (vR 76), some (vI (nI i))] [vI x, vI x] μ2 _
  refine Go.icmp_eq_t (tgt := 1408) dL_law_1209 (by decide) rfl ?_
  exact hk μ2 hS2
theorem law_c32 {V : VV} {d i : Nat} {μ : Memo} {Q : Option AVal → Memo → Prop} (hL : V.2.1.1 ≤ 384) (hi : i + 6 ≤ V.2.1.1) (hS : Sim μ) (hk : ∀ μ', Sim μ' → Go V (d + 68) mL_law 1408 [some (vR 220), some (vR 0), some (vR 76), some (vI (nI i))] [] μ' Q) : Go V (d + 68) mL_law 1214 [some (vR 220), some (vR 0), some (vR 76), some (vI (nI i))] [] μ Q := by
  refine Go.aload_n dL_law_1214 rfl ?_
  refine Go.aload_n dL_law_1215 rfl ?_
  refine Go.iload_n dL_law_1216 rfl ?_
  refine Go.iconst (v := nI 1) dL_law_1217 rfl ?_
  refine Go.iaddN dL_law_1218 ?_
  refine Go.ialoadR (i + 1) dL_law_1219 rfl (Nat.lt_of_le_of_lt hL (by decide)) (Nat.lt_of_lt_of_le (Nat.add_lt_add_left (by decide) i) hi) rfl ?_
  refine Go.at 1220 rfl ?_
  refine Go.aload_n dL_law_1220 rfl ?_
  refine Go.iload_n dL_law_1221 rfl ?_
  refine Go.iconst (v := nI 2) dL_law_1222 rfl ?_
  refine Go.iaddN dL_law_1223 ?_
  refine Go.ialoadR (i + 2) dL_law_1224 rfl (Nat.lt_of_le_of_lt hL (by decide)) (Nat.lt_of_lt_of_le (Nat.add_lt_add_left (by decide) i) hi) rfl ?_
  refine Go.callV 0 [vI (V.2.1.2 (i + 1)), vI (V.2.1.2 (i + 2))] [] dL_law_1225 lkL_146.1 lkL_146.2.1 lkL_146.2.2.1 lkL_146.2.2.2 (Or.inl ⟨_, _, _, rfl, rfl, rfl⟩) rfl (Nat.le_of_ble_eq_true rfl) rfl (Nat.le_of_ble_eq_true rfl) (Go.mono (op_ask hS (V.2.1.2 (i + 1)) (V.2.1.2 (i + 2))) ?_)
  rintro r μ1 ⟨x, rfl, hm⟩
  show Go V (d + 68) mL_law 1228 [some (vR 220), some (vR 0), some (vR 76), some (vI (nI i))] [vI x] μ1 _
  refine Go.aload_n dL_law_1228 rfl ?_
  refine Go.aload_n dL_law_1229 rfl ?_
  refine Go.iload_n dL_law_1230 rfl ?_
  refine Go.iconst (v := nI 1) dL_law_1231 rfl ?_
  refine Go.iaddN dL_law_1232 ?_
  refine Go.ialoadR (i + 1) dL_law_1233 rfl (Nat.lt_of_le_of_lt hL (by decide)) (Nat.lt_of_lt_of_le (Nat.add_lt_add_left (by decide) i) hi) rfl ?_
  refine Go.at 1234 rfl ?_
  refine Go.aload_n dL_law_1234 rfl ?_
  refine Go.iload_n dL_law_1235 rfl ?_
  refine Go.iconst (v := nI 2) dL_law_1236 rfl ?_
  refine Go.iaddN dL_law_1237 ?_
  refine Go.ialoadR (i + 2) dL_law_1238 rfl (Nat.lt_of_le_of_lt hL (by decide)) (Nat.lt_of_lt_of_le (Nat.add_lt_add_left (by decide) i) hi) rfl ?_
  refine Go.callV 76 [vI (V.2.1.2 (i + 1)), vI (V.2.1.2 (i + 2))] [vI x] dL_law_1239 lkL_149.1 lkL_149.2.1 lkL_149.2.2.1 lkL_149.2.2.2 (Or.inl ⟨_, _, _, rfl, rfl, rfl⟩) rfl (Nat.le_of_ble_eq_true rfl) rfl (Nat.le_of_ble_eq_true rfl) (Go.mono hm ?_)
  rintro r μ2 ⟨rfl, hS2⟩
  show Go V (d + 68) mL_law 1242 [some (vR 220), some (vR 0), some (vR 76), some (vI (nI i))] [vI x, vI x] μ2 _
  refine Go.icmp_eq_t (tgt := 1408) dL_law_1242 (by decide) rfl ?_
  exact hk μ2 hS2
theorem law_c33 {V : VV} {d i : Nat} {μ : Memo} {Q : Option AVal → Memo → Prop} (hL : V.2.1.1 ≤ 384) (hi : i + 6 ≤ V.2.1.1) (hS : Sim μ) (hk : ∀ μ', Sim μ' → Go V (d + 68) mL_law 1408 [some (vR 220), some (vR 0), some (vR 76), some (vI (nI i))] [] μ' Q) : Go V (d + 68) mL_law 1247 [some (vR 220), some (vR 0), some (vR 76), some (vI (nI i))] [] μ Q := by
  refine Go.aload_n dL_law_1247 rfl ?_
  refine Go.aload_n dL_law_1248 rfl ?_
  refine Go.iload_n dL_law_1249 rfl ?_
  refine Go.iconst (v := nI 1) dL_law_1250 rfl ?_
  refine Go.iaddN dL_law_1251 ?_
  refine Go.ialoadR (i + 1) dL_law_1252 rfl (Nat.lt_of_le_of_lt hL (by decide)) (Nat.lt_of_lt_of_le (Nat.add_lt_add_left (by decide) i) hi) rfl ?_
  refine Go.at 1253 rfl ?_
  refine Go.aload_n dL_law_1253 rfl ?_
  refine Go.iload_n dL_law_1254 rfl ?_
  refine Go.iconst (v := nI 2) dL_law_1255 rfl ?_
  refine Go.iaddN dL_law_1256 ?_
  refine Go.ialoadR (i + 2) dL_law_1257 rfl (Nat.lt_of_le_of_lt hL (by decide)) (Nat.lt_of_lt_of_le (Nat.add_lt_add_left (by decide) i) hi) rfl ?_
  refine Go.callV 0 [vI (V.2.1.2 (i + 1)), vI (V.2.1.2 (i + 2))] [] dL_law_1258 lkL_150.1 lkL_150.2.1 lkL_150.2.2.1 lkL_150.2.2.2 (Or.inl ⟨_, _, _, rfl, rfl, rfl⟩) rfl (Nat.le_of_ble_eq_true rfl) rfl (Nat.le_of_ble_eq_true rfl) (Go.mono (op_item hS (V.2.1.2 (i + 1)) (V.2.1.2 (i + 2))) ?_)
  rintro r μ1 ⟨x, rfl, hm⟩
  show Go V (d + 68) mL_law 1261 [some (vR 220), some (vR 0), some (vR 76), some (vI (nI i))] [vI x] μ1 _
  refine Go.aload_n dL_law_1261 rfl ?_
  refine Go.aload_n dL_law_1262 rfl ?_
  refine Go.iload_n dL_law_1263 rfl ?_
  refine Go.iconst (v := nI 1) dL_law_1264 rfl ?_
  refine Go.iaddN dL_law_1265 ?_
  refine Go.ialoadR (i + 1) dL_law_1266 rfl (Nat.lt_of_le_of_lt hL (by decide)) (Nat.lt_of_lt_of_le (Nat.add_lt_add_left (by decide) i) hi) rfl ?_
  refine Go.at 1267 rfl ?_
  refine Go.aload_n dL_law_1267 rfl ?_
  refine Go.iload_n dL_law_1268 rfl ?_
  refine Go.iconst (v := nI 2) dL_law_1269 rfl ?_
  refine Go.iaddN dL_law_1270 ?_
  refine Go.ialoadR (i + 2) dL_law_1271 rfl (Nat.lt_of_le_of_lt hL (by decide)) (Nat.lt_of_lt_of_le (Nat.add_lt_add_left (by decide) i) hi) rfl ?_
  refine Go.callV 76 [vI (V.2.1.2 (i + 1)), vI (V.2.1.2 (i + 2))] [vI x] dL_law_1272 lkL_153.1 lkL_153.2.1 lkL_153.2.2.1 lkL_153.2.2.2 (Or.inl ⟨_, _, _, rfl, rfl, rfl⟩) rfl (Nat.le_of_ble_eq_true rfl) rfl (Nat.le_of_ble_eq_true rfl) (Go.mono hm ?_)
  rintro r μ2 ⟨rfl, hS2⟩
  show Go V (d + 68) mL_law 1275 [some (vR 220), some (vR 0), some (vR 76), some (vI (nI i))] [vI x, vI x] μ2 _
  refine Go.icmp_eq_t (tgt := 1408) dL_law_1275 (by decide) rfl ?_
  exact hk μ2 hS2
theorem law_c34 {V : VV} {d i : Nat} {μ : Memo} {Q : Option AVal → Memo → Prop} (hL : V.2.1.1 ≤ 384) (hi : i + 6 ≤ V.2.1.1) (hS : Sim μ) (hk : ∀ μ', Sim μ' → Go V (d + 68) mL_law 1408 [some (vR 220), some (vR 0), some (vR 76), some (vI (nI i))] [] μ' Q) : Go V (d + 68) mL_law 1280 [some (vR 220), some (vR 0), some (vR 76), some (vI (nI i))] [] μ Q := by
  refine Go.aload_n dL_law_1280 rfl ?_
  refine Go.aload_n dL_law_1281 rfl ?_
  refine Go.iload_n dL_law_1282 rfl ?_
  refine Go.iconst (v := nI 1) dL_law_1283 rfl ?_
  refine Go.iaddN dL_law_1284 ?_
  refine Go.ialoadR (i + 1) dL_law_1285 rfl (Nat.lt_of_le_of_lt hL (by decide)) (Nat.lt_of_lt_of_le (Nat.add_lt_add_left (by decide) i) hi) rfl ?_
  refine Go.at 1286 rfl ?_
  refine Go.aload_n dL_law_1286 rfl ?_
  refine Go.iload_n dL_law_1287 rfl ?_
  refine Go.iconst (v := nI 2) dL_law_1288 rfl ?_
  refine Go.iaddN dL_law_1289 ?_
  refine Go.ialoadR (i + 2) dL_law_1290 rfl (Nat.lt_of_le_of_lt hL (by decide)) (Nat.lt_of_lt_of_le (Nat.add_lt_add_left (by decide) i) hi) rfl ?_
  refine Go.callV 0 [vI (V.2.1.2 (i + 1)), vI (V.2.1.2 (i + 2))] [] dL_law_1291 lkL_154.1 lkL_154.2.1 lkL_154.2.2.1 lkL_154.2.2.2 (Or.inl ⟨_, _, _, rfl, rfl, rfl⟩) rfl (Nat.le_of_ble_eq_true rfl) rfl (Nat.le_of_ble_eq_true rfl) (Go.mono (op_rest hS (V.2.1.2 (i + 1)) (V.2.1.2 (i + 2))) ?_)
  rintro r μ1 ⟨x, rfl, hm⟩
  show Go V (d + 68) mL_law 1294 [some (vR 220), some (vR 0), some (vR 76), some (vI (nI i))] [vI x] μ1 _
  refine Go.aload_n dL_law_1294 rfl ?_
  refine Go.aload_n dL_law_1295 rfl ?_
  refine Go.iload_n dL_law_1296 rfl ?_
  refine Go.iconst (v := nI 1) dL_law_1297 rfl ?_
  refine Go.iaddN dL_law_1298 ?_
  refine Go.ialoadR (i + 1) dL_law_1299 rfl (Nat.lt_of_le_of_lt hL (by decide)) (Nat.lt_of_lt_of_le (Nat.add_lt_add_left (by decide) i) hi) rfl ?_
  refine Go.at 1300 rfl ?_
  refine Go.aload_n dL_law_1300 rfl ?_
  refine Go.iload_n dL_law_1301 rfl ?_
  refine Go.iconst (v := nI 2) dL_law_1302 rfl ?_
  refine Go.iaddN dL_law_1303 ?_
  refine Go.ialoadR (i + 2) dL_law_1304 rfl (Nat.lt_of_le_of_lt hL (by decide)) (Nat.lt_of_lt_of_le (Nat.add_lt_add_left (by decide) i) hi) rfl ?_
  refine Go.callV 76 [vI (V.2.1.2 (i + 1)), vI (V.2.1.2 (i + 2))] [vI x] dL_law_1305 lkL_157.1 lkL_157.2.1 lkL_157.2.2.1 lkL_157.2.2.2 (Or.inl ⟨_, _, _, rfl, rfl, rfl⟩) rfl (Nat.le_of_ble_eq_true rfl) rfl (Nat.le_of_ble_eq_true rfl) (Go.mono hm ?_)
  rintro r μ2 ⟨rfl, hS2⟩
  show Go V (d + 68) mL_law 1308 [some (vR 220), some (vR 0), some (vR 76), some (vI (nI i))] [vI x, vI x] μ2 _
  refine Go.icmp_eq_t (tgt := 1408) dL_law_1308 (by decide) rfl ?_
  exact hk μ2 hS2
theorem law_c35 {V : VV} {d i : Nat} {μ : Memo} {Q : Option AVal → Memo → Prop} (hL : V.2.1.1 ≤ 384) (hi : i + 6 ≤ V.2.1.1) (hS : Sim μ) (hk : ∀ μ', Sim μ' → Go V (d + 68) mL_law 1408 [some (vR 220), some (vR 0), some (vR 76), some (vI (nI i))] [] μ' Q) : Go V (d + 68) mL_law 1313 [some (vR 220), some (vR 0), some (vR 76), some (vI (nI i))] [] μ Q := by
  refine Go.aload_n dL_law_1313 rfl ?_
  refine Go.aload_n dL_law_1314 rfl ?_
  refine Go.iload_n dL_law_1315 rfl ?_
  refine Go.iconst (v := nI 1) dL_law_1316 rfl ?_
  refine Go.iaddN dL_law_1317 ?_
  refine Go.ialoadR (i + 1) dL_law_1318 rfl (Nat.lt_of_le_of_lt hL (by decide)) (Nat.lt_of_lt_of_le (Nat.add_lt_add_left (by decide) i) hi) rfl ?_
  refine Go.at 1319 rfl ?_
  refine Go.callV 0 [vI (V.2.1.2 (i + 1))] [] dL_law_1319 lkL_158.1 lkL_158.2.1 lkL_158.2.2.1 lkL_158.2.2.2 (Or.inl ⟨_, _, _, rfl, rfl, rfl⟩) rfl (Nat.le_of_ble_eq_true rfl) rfl (Nat.le_of_ble_eq_true rfl) (Go.mono (op_tell hS (V.2.1.2 (i + 1))) ?_)
  rintro r μ1 ⟨x, rfl, hm⟩
  show Go V (d + 68) mL_law 1322 [some (vR 220), some (vR 0), some (vR 76), some (vI (nI i))] [vI x] μ1 _
  refine Go.aload_n dL_law_1322 rfl ?_
  refine Go.aload_n dL_law_1323 rfl ?_
  refine Go.iload_n dL_law_1324 rfl ?_
  refine Go.iconst (v := nI 1) dL_law_1325 rfl ?_
  refine Go.iaddN dL_law_1326 ?_
  refine Go.ialoadR (i + 1) dL_law_1327 rfl (Nat.lt_of_le_of_lt hL (by decide)) (Nat.lt_of_lt_of_le (Nat.add_lt_add_left (by decide) i) hi) rfl ?_
  refine Go.at 1328 rfl ?_
  refine Go.callV 76 [vI (V.2.1.2 (i + 1))] [vI x] dL_law_1328 lkL_161.1 lkL_161.2.1 lkL_161.2.2.1 lkL_161.2.2.2 (Or.inl ⟨_, _, _, rfl, rfl, rfl⟩) rfl (Nat.le_of_ble_eq_true rfl) rfl (Nat.le_of_ble_eq_true rfl) (Go.mono hm ?_)
  rintro r μ2 ⟨rfl, hS2⟩
  show Go V (d + 68) mL_law 1331 [some (vR 220), some (vR 0), some (vR 76), some (vI (nI i))] [vI x, vI x] μ2 _
  refine Go.icmp_eq_t (tgt := 1408) dL_law_1331 (by decide) rfl ?_
  exact hk μ2 hS2
theorem law_c36 {V : VV} {d i : Nat} {μ : Memo} {Q : Option AVal → Memo → Prop} (hL : V.2.1.1 ≤ 384) (hi : i + 6 ≤ V.2.1.1) (hS : Sim μ) (hk : ∀ μ', Sim μ' → Go V (d + 68) mL_law 1408 [some (vR 220), some (vR 0), some (vR 76), some (vI (nI i))] [] μ' Q) : Go V (d + 68) mL_law 1336 [some (vR 220), some (vR 0), some (vR 76), some (vI (nI i))] [] μ Q := by
  refine Go.aload_n dL_law_1336 rfl ?_
  refine Go.aload_n dL_law_1337 rfl ?_
  refine Go.iload_n dL_law_1338 rfl ?_
  refine Go.iconst (v := nI 1) dL_law_1339 rfl ?_
  refine Go.iaddN dL_law_1340 ?_
  refine Go.ialoadR (i + 1) dL_law_1341 rfl (Nat.lt_of_le_of_lt hL (by decide)) (Nat.lt_of_lt_of_le (Nat.add_lt_add_left (by decide) i) hi) rfl ?_
  refine Go.at 1342 rfl ?_
  refine Go.callV 0 [vI (V.2.1.2 (i + 1))] [] dL_law_1342 lkL_162.1 lkL_162.2.1 lkL_162.2.2.1 lkL_162.2.2.2 (Or.inl ⟨_, _, _, rfl, rfl, rfl⟩) rfl (Nat.le_of_ble_eq_true rfl) rfl (Nat.le_of_ble_eq_true rfl) (Go.mono (op_check hS (V.2.1.2 (i + 1))) ?_)
  rintro r μ1 ⟨x, rfl, hm⟩
  show Go V (d + 68) mL_law 1345 [some (vR 220), some (vR 0), some (vR 76), some (vI (nI i))] [vI x] μ1 _
  refine Go.aload_n dL_law_1345 rfl ?_
  refine Go.aload_n dL_law_1346 rfl ?_
  refine Go.iload_n dL_law_1347 rfl ?_
  refine Go.iconst (v := nI 1) dL_law_1348 rfl ?_
  refine Go.iaddN dL_law_1349 ?_
  refine Go.ialoadR (i + 1) dL_law_1350 rfl (Nat.lt_of_le_of_lt hL (by decide)) (Nat.lt_of_lt_of_le (Nat.add_lt_add_left (by decide) i) hi) rfl ?_
  refine Go.at 1351 rfl ?_
  refine Go.callV 76 [vI (V.2.1.2 (i + 1))] [vI x] dL_law_1351 lkL_165.1 lkL_165.2.1 lkL_165.2.2.1 lkL_165.2.2.2 (Or.inl ⟨_, _, _, rfl, rfl, rfl⟩) rfl (Nat.le_of_ble_eq_true rfl) rfl (Nat.le_of_ble_eq_true rfl) (Go.mono hm ?_)
  rintro r μ2 ⟨rfl, hS2⟩
  show Go V (d + 68) mL_law 1354 [some (vR 220), some (vR 0), some (vR 76), some (vI (nI i))] [vI x, vI x] μ2 _
  refine Go.icmp_eq_t (tgt := 1408) dL_law_1354 (by decide) rfl ?_
  exact hk μ2 hS2
theorem law_c37 {V : VV} {d i : Nat} {μ : Memo} {Q : Option AVal → Memo → Prop} (hL : V.2.1.1 ≤ 384) (hi : i + 6 ≤ V.2.1.1) (hS : Sim μ) (hk : ∀ μ', Sim μ' → Go V (d + 68) mL_law 1408 [some (vR 220), some (vR 0), some (vR 76), some (vI (nI i))] [] μ' Q) : Go V (d + 68) mL_law 1359 [some (vR 220), some (vR 0), some (vR 76), some (vI (nI i))] [] μ Q := by
  refine Go.aload_n dL_law_1359 rfl ?_
  refine Go.callV 0 [] [] dL_law_1360 lkL_166.1 lkL_166.2.1 lkL_166.2.2.1 lkL_166.2.2.2 (Or.inl ⟨_, _, _, rfl, rfl, rfl⟩) rfl (Nat.le_of_ble_eq_true rfl) rfl (Nat.le_of_ble_eq_true rfl) (Go.mono (op_keep hS) ?_)
  rintro r μ1 ⟨x, rfl, hm⟩
  show Go V (d + 68) mL_law 1363 [some (vR 220), some (vR 0), some (vR 76), some (vI (nI i))] [vI x] μ1 _
  refine Go.aload_n dL_law_1363 rfl ?_
  refine Go.callV 76 [] [vI x] dL_law_1364 lkL_169.1 lkL_169.2.1 lkL_169.2.2.1 lkL_169.2.2.2 (Or.inl ⟨_, _, _, rfl, rfl, rfl⟩) rfl (Nat.le_of_ble_eq_true rfl) rfl (Nat.le_of_ble_eq_true rfl) (Go.mono hm ?_)
  rintro r μ2 ⟨rfl, hS2⟩
  show Go V (d + 68) mL_law 1367 [some (vR 220), some (vR 0), some (vR 76), some (vI (nI i))] [vI x, vI x] μ2 _
  refine Go.icmp_eq_t (tgt := 1408) dL_law_1367 (by decide) rfl ?_
  exact hk μ2 hS2
theorem law_c38 {V : VV} {d i : Nat} {μ : Memo} {Q : Option AVal → Memo → Prop} (hL : V.2.1.1 ≤ 384) (hi : i + 6 ≤ V.2.1.1) (hS : Sim μ) (hk : ∀ μ', Sim μ' → Go V (d + 68) mL_law 1408 [some (vR 220), some (vR 0), some (vR 76), some (vI (nI i))] [] μ' Q) : Go V (d + 68) mL_law 1372 [some (vR 220), some (vR 0), some (vR 76), some (vI (nI i))] [] μ Q := by
  refine Go.aload_n dL_law_1372 rfl ?_
  refine Go.callV 0 [] [] dL_law_1373 lkL_170.1 lkL_170.2.1 lkL_170.2.2.1 lkL_170.2.2.2 (Or.inl ⟨_, _, _, rfl, rfl, rfl⟩) rfl (Nat.le_of_ble_eq_true rfl) rfl (Nat.le_of_ble_eq_true rfl) (Go.mono (op_back hS) ?_)
  rintro r μ1 ⟨x, rfl, hm⟩
  show Go V (d + 68) mL_law 1376 [some (vR 220), some (vR 0), some (vR 76), some (vI (nI i))] [vI x] μ1 _
  refine Go.aload_n dL_law_1376 rfl ?_
  refine Go.callV 76 [] [vI x] dL_law_1377 lkL_173.1 lkL_173.2.1 lkL_173.2.2.1 lkL_173.2.2.2 (Or.inl ⟨_, _, _, rfl, rfl, rfl⟩) rfl (Nat.le_of_ble_eq_true rfl) rfl (Nat.le_of_ble_eq_true rfl) (Go.mono hm ?_)
  rintro r μ2 ⟨rfl, hS2⟩
  show Go V (d + 68) mL_law 1380 [some (vR 220), some (vR 0), some (vR 76), some (vI (nI i))] [vI x, vI x] μ2 _
  refine Go.icmp_eq_t (tgt := 1408) dL_law_1380 (by decide) rfl ?_
  exact hk μ2 hS2
theorem law_c39 {V : VV} {d i : Nat} {μ : Memo} {Q : Option AVal → Memo → Prop} (hL : V.2.1.1 ≤ 384) (hi : i + 6 ≤ V.2.1.1) (hS : Sim μ) (hk : ∀ μ', Sim μ' → Go V (d + 68) mL_law 1408 [some (vR 220), some (vR 0), some (vR 76), some (vI (nI i))] [] μ' Q) : Go V (d + 68) mL_law 1385 [some (vR 220), some (vR 0), some (vR 76), some (vI (nI i))] [] μ Q := by
  refine Go.aload_n dL_law_1385 rfl ?_
  refine Go.aload_n dL_law_1386 rfl ?_
  refine Go.iload_n dL_law_1387 rfl ?_
  refine Go.iconst (v := nI 1) dL_law_1388 rfl ?_
  refine Go.iaddN dL_law_1389 ?_
  refine Go.ialoadR (i + 1) dL_law_1390 rfl (Nat.lt_of_le_of_lt hL (by decide)) (Nat.lt_of_lt_of_le (Nat.add_lt_add_left (by decide) i) hi) rfl ?_
  refine Go.at 1391 rfl ?_
  refine Go.callV 0 [vI (V.2.1.2 (i + 1))] [] dL_law_1391 lkL_174.1 lkL_174.2.1 lkL_174.2.2.1 lkL_174.2.2.2 (Or.inl ⟨_, _, _, rfl, rfl, rfl⟩) rfl (Nat.le_of_ble_eq_true rfl) rfl (Nat.le_of_ble_eq_true rfl) (Go.mono (op_count hS (V.2.1.2 (i + 1))) ?_)
  rintro r μ1 ⟨x, rfl, hm⟩
  show Go V (d + 68) mL_law 1394 [some (vR 220), some (vR 0), some (vR 76), some (vI (nI i))] [vI x] μ1 _
  refine Go.aload_n dL_law_1394 rfl ?_
  refine Go.aload_n dL_law_1395 rfl ?_
  refine Go.iload_n dL_law_1396 rfl ?_
  refine Go.iconst (v := nI 1) dL_law_1397 rfl ?_
  refine Go.iaddN dL_law_1398 ?_
  refine Go.ialoadR (i + 1) dL_law_1399 rfl (Nat.lt_of_le_of_lt hL (by decide)) (Nat.lt_of_lt_of_le (Nat.add_lt_add_left (by decide) i) hi) rfl ?_
  refine Go.at 1400 rfl ?_
  refine Go.callV 76 [vI (V.2.1.2 (i + 1))] [vI x] dL_law_1400 lkL_177.1 lkL_177.2.1 lkL_177.2.2.1 lkL_177.2.2.2 (Or.inl ⟨_, _, _, rfl, rfl, rfl⟩) rfl (Nat.le_of_ble_eq_true rfl) rfl (Nat.le_of_ble_eq_true rfl) (Go.mono hm ?_)
  rintro r μ2 ⟨rfl, hS2⟩
  show Go V (d + 68) mL_law 1403 [some (vR 220), some (vR 0), some (vR 76), some (vI (nI i))] [vI x, vI x] μ2 _
  refine Go.icmp_eq_t (tgt := 1408) dL_law_1403 (by decide) rfl ?_
  exact hk μ2 hS2
theorem law_lp {V : VV} {d : Nat} (hL : V.2.1.1 ≤ 384) : ∀ (n i : Nat) (μ : Memo), V.2.1.1 - i < n → i ≤ 400 → Sim μ → Go V (d + 68) mL_law 18 [some (vR 220), some (vR 0), some (vR 76), some (vI (nI i))] [] μ (fun r _ => r = some (vI (nI 1)))
  | 0, _, _, hn, _, _ => absurd hn (by omega)
  | n + 1, i, μ, hn, hi4, hS => by
    by_cases h : i + 6 ≤ V.2.1.1
    · have hk : ∀ μ', Sim μ' → Go V (d + 68) mL_law 1408 [some (vR 220), some (vR 0), some (vR 76), some (vI (nI i))] [] μ' (fun r _ => r = some (vI (nI 1))) := by
        intro μ' hS'
        refine Go.iinc (v := nI (i + 6)) (ls' := [some (vR 220), some (vR 0), some (vR 76), some (vI (nI (i + 6)))]) dL_law_1408 rfl (nI_add _ _) (by decide) rfl ?_
        refine Go.goto (tgt := 18) dL_law_1411 (by decide) ?_
        exact law_lp hL n (i + 6) μ' (by omega) (by omega) hS'
      refine Go.iload_n dL_law_18 rfl ?_
      refine Go.aload_n dL_law_19 rfl ?_
      refine Go.alengthR (f := V.2.1.2) (n := V.2.1.1) dL_law_20 rfl ?_
      refine Go.bipush (v := nI 6) dL_law_21 rfl ?_
      refine Go.isub dL_law_23 ?_
      refine Go.icmp_gt_f (tgt := 1414) dL_law_24 (by decide) (law_go hL h) ?_
      refine Go.at 27 rfl ?_
      refine Go.aload_n dL_law_27 rfl ?_
      refine Go.iload_n dL_law_28 rfl ?_
      refine Go.ialoadR i dL_law_29 rfl (Nat.lt_of_le_of_lt hL (by decide)) (Nat.lt_of_lt_of_le (Nat.lt_add_of_pos_right (by decide)) h) rfl ?_
      refine Go.topE (y := V.2.1.2 i) rfl ?_
      refine Go.bipush (v := nI 63) dL_law_30 rfl ?_
      refine Go.iand dL_law_32 ?_
      by_cases h33_0 : (V.2.1.2 i) &&& (nI 63) = nI 0
      · refine Go.tsw (tgt := 208) (nI 0) h33_0 dL_law_33 (by decide) (by decide) rfl (by decide) ?_
        exact law_c0 hL h hS hk
      by_cases h33_1 : (V.2.1.2 i) &&& (nI 63) = nI 1
      · refine Go.tsw (tgt := 251) (nI 1) h33_1 dL_law_33 (by decide) (by decide) rfl (by decide) ?_
        exact law_c1 hL h hS hk
      by_cases h33_2 : (V.2.1.2 i) &&& (nI 63) = nI 2
      · refine Go.tsw (tgt := 284) (nI 2) h33_2 dL_law_33 (by decide) (by decide) rfl (by decide) ?_
        exact law_c2 hL h hS hk
      by_cases h33_3 : (V.2.1.2 i) &&& (nI 63) = nI 3
      · refine Go.tsw (tgt := 317) (nI 3) h33_3 dL_law_33 (by decide) (by decide) rfl (by decide) ?_
        exact law_c3 hL h hS hk
      by_cases h33_4 : (V.2.1.2 i) &&& (nI 63) = nI 4
      · refine Go.tsw (tgt := 350) (nI 4) h33_4 dL_law_33 (by decide) (by decide) rfl (by decide) ?_
        exact law_c4 hL h hS hk
      by_cases h33_5 : (V.2.1.2 i) &&& (nI 63) = nI 5
      · refine Go.tsw (tgt := 393) (nI 5) h33_5 dL_law_33 (by decide) (by decide) rfl (by decide) ?_
        exact law_c5 hL h hS hk
      by_cases h33_6 : (V.2.1.2 i) &&& (nI 63) = nI 6
      · refine Go.tsw (tgt := 426) (nI 6) h33_6 dL_law_33 (by decide) (by decide) rfl (by decide) ?_
        exact law_c6 hL h hS hk
      by_cases h33_7 : (V.2.1.2 i) &&& (nI 63) = nI 7
      · refine Go.tsw (tgt := 439) (nI 7) h33_7 dL_law_33 (by decide) (by decide) rfl (by decide) ?_
        exact law_c7 hL h hS hk
      by_cases h33_8 : (V.2.1.2 i) &&& (nI 63) = nI 8
      · refine Go.tsw (tgt := 462) (nI 8) h33_8 dL_law_33 (by decide) (by decide) rfl (by decide) ?_
        exact law_c8 hL h hS hk
      by_cases h33_9 : (V.2.1.2 i) &&& (nI 63) = nI 9
      · refine Go.tsw (tgt := 495) (nI 9) h33_9 dL_law_33 (by decide) (by decide) rfl (by decide) ?_
        exact law_c9 hL h hS hk
      by_cases h33_10 : (V.2.1.2 i) &&& (nI 63) = nI 10
      · refine Go.tsw (tgt := 528) (nI 10) h33_10 dL_law_33 (by decide) (by decide) rfl (by decide) ?_
        exact law_c10 hL h hS hk
      by_cases h33_11 : (V.2.1.2 i) &&& (nI 63) = nI 11
      · refine Go.tsw (tgt := 551) (nI 11) h33_11 dL_law_33 (by decide) (by decide) rfl (by decide) ?_
        exact law_c11 hL h hS hk
      by_cases h33_12 : (V.2.1.2 i) &&& (nI 63) = nI 12
      · refine Go.tsw (tgt := 584) (nI 12) h33_12 dL_law_33 (by decide) (by decide) rfl (by decide) ?_
        exact law_c12 hL h hS hk
      by_cases h33_13 : (V.2.1.2 i) &&& (nI 63) = nI 13
      · refine Go.tsw (tgt := 617) (nI 13) h33_13 dL_law_33 (by decide) (by decide) rfl (by decide) ?_
        exact law_c13 hL h hS hk
      by_cases h33_14 : (V.2.1.2 i) &&& (nI 63) = nI 14
      · refine Go.tsw (tgt := 640) (nI 14) h33_14 dL_law_33 (by decide) (by decide) rfl (by decide) ?_
        exact law_c14 hL h hS hk
      by_cases h33_15 : (V.2.1.2 i) &&& (nI 63) = nI 15
      · refine Go.tsw (tgt := 663) (nI 15) h33_15 dL_law_33 (by decide) (by decide) rfl (by decide) ?_
        exact law_c15 hL h hS hk
      by_cases h33_16 : (V.2.1.2 i) &&& (nI 63) = nI 16
      · refine Go.tsw (tgt := 696) (nI 16) h33_16 dL_law_33 (by decide) (by decide) rfl (by decide) ?_
        exact law_c16 hL h hS hk
      by_cases h33_17 : (V.2.1.2 i) &&& (nI 63) = nI 17
      · refine Go.tsw (tgt := 729) (nI 17) h33_17 dL_law_33 (by decide) (by decide) rfl (by decide) ?_
        exact law_c17 hL h hS hk
      by_cases h33_18 : (V.2.1.2 i) &&& (nI 63) = nI 18
      · refine Go.tsw (tgt := 752) (nI 18) h33_18 dL_law_33 (by decide) (by decide) rfl (by decide) ?_
        exact law_c18 hL h hS hk
      by_cases h33_19 : (V.2.1.2 i) &&& (nI 63) = nI 19
      · refine Go.tsw (tgt := 775) (nI 19) h33_19 dL_law_33 (by decide) (by decide) rfl (by decide) ?_
        exact law_c19 hL h hS hk
      by_cases h33_20 : (V.2.1.2 i) &&& (nI 63) = nI 20
      · refine Go.tsw (tgt := 808) (nI 20) h33_20 dL_law_33 (by decide) (by decide) rfl (by decide) ?_
        exact law_c20 hL h hS hk
      by_cases h33_21 : (V.2.1.2 i) &&& (nI 63) = nI 21
      · refine Go.tsw (tgt := 831) (nI 21) h33_21 dL_law_33 (by decide) (by decide) rfl (by decide) ?_
        exact law_c21 hL h hS hk
      by_cases h33_22 : (V.2.1.2 i) &&& (nI 63) = nI 22
      · refine Go.tsw (tgt := 874) (nI 22) h33_22 dL_law_33 (by decide) (by decide) rfl (by decide) ?_
        exact law_c22 hL h hS hk
      by_cases h33_23 : (V.2.1.2 i) &&& (nI 63) = nI 23
      · refine Go.tsw (tgt := 897) (nI 23) h33_23 dL_law_33 (by decide) (by decide) rfl (by decide) ?_
        exact law_c23 hL h hS hk
      by_cases h33_24 : (V.2.1.2 i) &&& (nI 63) = nI 24
      · refine Go.tsw (tgt := 910) (nI 24) h33_24 dL_law_33 (by decide) (by decide) rfl (by decide) ?_
        exact law_c24 hL h hS hk
      by_cases h33_25 : (V.2.1.2 i) &&& (nI 63) = nI 25
      · refine Go.tsw (tgt := 943) (nI 25) h33_25 dL_law_33 (by decide) (by decide) rfl (by decide) ?_
        exact law_c25 hL h hS hk
      by_cases h33_26 : (V.2.1.2 i) &&& (nI 63) = nI 26
      · refine Go.tsw (tgt := 966) (nI 26) h33_26 dL_law_33 (by decide) (by decide) rfl (by decide) ?_
        exact law_c26 hL h hS hk
      by_cases h33_27 : (V.2.1.2 i) &&& (nI 63) = nI 27
      · refine Go.tsw (tgt := 1009) (nI 27) h33_27 dL_law_33 (by decide) (by decide) rfl (by decide) ?_
        exact law_c27 hL h hS hk
      by_cases h33_28 : (V.2.1.2 i) &&& (nI 63) = nI 28
      · refine Go.tsw (tgt := 1052) (nI 28) h33_28 dL_law_33 (by decide) (by decide) rfl (by decide) ?_
        exact law_c28 hL h hS hk
      by_cases h33_29 : (V.2.1.2 i) &&& (nI 63) = nI 29
      · refine Go.tsw (tgt := 1085) (nI 29) h33_29 dL_law_33 (by decide) (by decide) rfl (by decide) ?_
        exact law_c29 hL h hS hk
      by_cases h33_30 : (V.2.1.2 i) &&& (nI 63) = nI 30
      · refine Go.tsw (tgt := 1108) (nI 30) h33_30 dL_law_33 (by decide) (by decide) rfl (by decide) ?_
        exact law_c30 hL h hS hk
      by_cases h33_31 : (V.2.1.2 i) &&& (nI 63) = nI 31
      · refine Go.tsw (tgt := 1171) (nI 31) h33_31 dL_law_33 (by decide) (by decide) rfl (by decide) ?_
        exact law_c31 hL h hS hk
      by_cases h33_32 : (V.2.1.2 i) &&& (nI 63) = nI 32
      · refine Go.tsw (tgt := 1214) (nI 32) h33_32 dL_law_33 (by decide) (by decide) rfl (by decide) ?_
        exact law_c32 hL h hS hk
      by_cases h33_33 : (V.2.1.2 i) &&& (nI 63) = nI 33
      · refine Go.tsw (tgt := 1247) (nI 33) h33_33 dL_law_33 (by decide) (by decide) rfl (by decide) ?_
        exact law_c33 hL h hS hk
      by_cases h33_34 : (V.2.1.2 i) &&& (nI 63) = nI 34
      · refine Go.tsw (tgt := 1280) (nI 34) h33_34 dL_law_33 (by decide) (by decide) rfl (by decide) ?_
        exact law_c34 hL h hS hk
      by_cases h33_35 : (V.2.1.2 i) &&& (nI 63) = nI 35
      · refine Go.tsw (tgt := 1313) (nI 35) h33_35 dL_law_33 (by decide) (by decide) rfl (by decide) ?_
        exact law_c35 hL h hS hk
      by_cases h33_36 : (V.2.1.2 i) &&& (nI 63) = nI 36
      · refine Go.tsw (tgt := 1336) (nI 36) h33_36 dL_law_33 (by decide) (by decide) rfl (by decide) ?_
        exact law_c36 hL h hS hk
      by_cases h33_37 : (V.2.1.2 i) &&& (nI 63) = nI 37
      · refine Go.tsw (tgt := 1359) (nI 37) h33_37 dL_law_33 (by decide) (by decide) rfl (by decide) ?_
        exact law_c37 hL h hS hk
      by_cases h33_38 : (V.2.1.2 i) &&& (nI 63) = nI 38
      · refine Go.tsw (tgt := 1372) (nI 38) h33_38 dL_law_33 (by decide) (by decide) rfl (by decide) ?_
        exact law_c38 hL h hS hk
      by_cases h33_39 : (V.2.1.2 i) &&& (nI 63) = nI 39
      · refine Go.tsw (tgt := 1385) (nI 39) h33_39 dL_law_33 (by decide) (by decide) rfl (by decide) ?_
        exact law_c39 hL h hS hk
      refine Go.tswD (tgt := 1408) dL_law_33 (by have a0 := lv_neT h33_0 (a := 0) rfl; have a1 := lv_neT h33_1 (a := 1) rfl; have a2 := lv_neT h33_2 (a := 2) rfl; have a3 := lv_neT h33_3 (a := 3) rfl; have a4 := lv_neT h33_4 (a := 4) rfl; have a5 := lv_neT h33_5 (a := 5) rfl; have a6 := lv_neT h33_6 (a := 6) rfl; have a7 := lv_neT h33_7 (a := 7) rfl; have a8 := lv_neT h33_8 (a := 8) rfl; have a9 := lv_neT h33_9 (a := 9) rfl; have a10 := lv_neT h33_10 (a := 10) rfl; have a11 := lv_neT h33_11 (a := 11) rfl; have a12 := lv_neT h33_12 (a := 12) rfl; have a13 := lv_neT h33_13 (a := 13) rfl; have a14 := lv_neT h33_14 (a := 14) rfl; have a15 := lv_neT h33_15 (a := 15) rfl; have a16 := lv_neT h33_16 (a := 16) rfl; have a17 := lv_neT h33_17 (a := 17) rfl; have a18 := lv_neT h33_18 (a := 18) rfl; have a19 := lv_neT h33_19 (a := 19) rfl; have a20 := lv_neT h33_20 (a := 20) rfl; have a21 := lv_neT h33_21 (a := 21) rfl; have a22 := lv_neT h33_22 (a := 22) rfl; have a23 := lv_neT h33_23 (a := 23) rfl; have a24 := lv_neT h33_24 (a := 24) rfl; have a25 := lv_neT h33_25 (a := 25) rfl; have a26 := lv_neT h33_26 (a := 26) rfl; have a27 := lv_neT h33_27 (a := 27) rfl; have a28 := lv_neT h33_28 (a := 28) rfl; have a29 := lv_neT h33_29 (a := 29) rfl; have a30 := lv_neT h33_30 (a := 30) rfl; have a31 := lv_neT h33_31 (a := 31) rfl; have a32 := lv_neT h33_32 (a := 32) rfl; have a33 := lv_neT h33_33 (a := 33) rfl; have a34 := lv_neT h33_34 (a := 34) rfl; have a35 := lv_neT h33_35 (a := 35) rfl; have a36 := lv_neT h33_36 (a := 36) rfl; have a37 := lv_neT h33_37 (a := 37) rfl; have a38 := lv_neT h33_38 (a := 38) rfl; have a39 := lv_neT h33_39 (a := 39) rfl; omega) (by decide) ?_
      exact hk μ hS
    · skip
      refine Go.iload_n dL_law_18 rfl ?_
      refine Go.aload_n dL_law_19 rfl ?_
      refine Go.alengthR (f := V.2.1.2) (n := V.2.1.1) dL_law_20 rfl ?_
      refine Go.bipush (v := nI 6) dL_law_21 rfl ?_
      refine Go.isub dL_law_23 ?_
      refine Go.icmp_gt_t (tgt := 1414) dL_law_24 (by decide) (law_end hL hi4 h) ?_
      refine Go.at 1414 rfl ?_
      refine Go.iconst (v := nI 1) dL_law_1414 rfl ?_
      refine Go.ireturn .boolean dL_law_1415 rfl rfl ?_
      exact rfl
