section LAWC
variable {p : Program} {l : Launch} {e : Env} {s : State} {m : MethodId} {args : Array Value} {below : List Frame} {meth : Method} {c : Code} {A : Nat → Prop} {kc ks : Nat} {Q : State → Prop} {z : ZC} {y : ZM} {b L : Nat} {xs : Nat → Int32} {o : Nat} {cL : ClassId} {N0 : Nat} {cg mg : Mem} {f : Nat → Int64} {i : Int32}
theorem case_0 (C0 : jb p s m args c cL_law 8 RL) (F : FX s A z y b L xs o cL N0) (hfl : l.stackTraces = false) (h : RI cg mg) (hi : HI i L) (hRc : kc + 1 ≤ room_1.cells ∧ ks + 6 ≤ room_1.slots) (kk : KK p l e s m args below meth c A (kc + 1) (ks + 6) Q z y b o cL N0 i) : jl p l e room_1 s m args below meth c A kc ks 8 Q (PLw z y o cL N0 cg mg f) 216 [(4, .int i), (3, .ref o), (2, .ref (yad y 0)), (1, .ref (zad z 46)), (0, .ref b)] [] := by
  have hK : kc ≤ room_1.cells ∧ ks ≤ room_1.slots := ⟨Nat.le_of_succ_le hRc.1, Nat.le_trans (Nat.le_add_right _ 6) hRc.2⟩
  have E := eq_fete h (xs (ix (i + 1)))
  refine l_aload_n C0 3 dL_law_216 rfl rfl ?_
  refine l_aload_n C0 4 dL_law_217 rfl rfl ?_
  refine l_iload C0 0 dL_law_218 rfl ?_
  refine l_iconst C0 (v := 1) dL_law_220 (by decide) ?_
  refine l_iadd C0 dL_law_221 ?_
  refine q_xs C0 F hi.1 dL_law_222 ?_
  refine q_ci C0 F (c_X5_fete l z _ (xs (ix (i + 1))) h.2.1) yk_X5_fete w_175 ⟨Nat.le_of_ble_eq_true rfl, Nat.le_of_ble_eq_true rfl⟩ hK rfl rfl (Nat.le_of_ble_eq_true rfl) dL_law_223 ?_
  refine l_aload_n C0 2 dL_law_226 rfl rfl ?_
  refine l_aload_n C0 4 dL_law_227 rfl rfl ?_
  refine l_iload C0 0 dL_law_228 rfl ?_
  refine l_iconst C0 (v := 1) dL_law_230 (by decide) ?_
  refine l_iadd C0 dL_law_231 ?_
  refine q_xs C0 F hi.1 dL_law_232 ?_
  refine q_mi C0 F (c_X6_fete l y _ (xs (ix (i + 1))) h.2.2.1) yk_X6_fete w_861 ⟨Nat.le_of_ble_eq_true rfl, Nat.le_of_ble_eq_true rfl⟩ hK rfl rfl (Nat.le_of_ble_eq_true rfl) dL_law_233 ?_
  refine l_icmp_eq C0 1584 dL_law_236 (by decide) (fun _ => ?_) (fun q => absurd E.1 q)
  exact q_wide ⟨Nat.le_succ _, Nat.le_add_right _ 6⟩ (kk _ _ _ E.2)
theorem case_1 (C0 : jb p s m args c cL_law 8 RL) (F : FX s A z y b L xs o cL N0) (hfl : l.stackTraces = false) (h : RI cg mg) (hi : HI i L) (hRc : kc + 1 ≤ room_1.cells ∧ ks + 6 ≤ room_1.slots) (kk : KK p l e s m args below meth c A (kc + 1) (ks + 6) Q z y b o cL N0 i) : jl p l e room_1 s m args below meth c A kc ks 8 Q (PLw z y o cL N0 cg mg f) 241 [(4, .int i), (3, .ref o), (2, .ref (yad y 0)), (1, .ref (zad z 46)), (0, .ref b)] [] := by
  have hK : kc ≤ room_1.cells ∧ ks ≤ room_1.slots := ⟨Nat.le_of_succ_le hRc.1, Nat.le_trans (Nat.le_add_right _ 6) hRc.2⟩
  have E := eq_person h.1.1.1 (xs (ix (i + 1))) (xs (ix (i + 2)))
  refine l_aload_n C0 3 dL_law_241 rfl rfl ?_
  refine l_aload_n C0 4 dL_law_242 rfl rfl ?_
  refine l_iload C0 0 dL_law_243 rfl ?_
  refine l_iconst C0 (v := 1) dL_law_245 (by decide) ?_
  refine l_iadd C0 dL_law_246 ?_
  refine q_xs C0 F hi.1 dL_law_247 ?_
  refine l_aload_n C0 4 dL_law_248 rfl rfl ?_
  refine l_iload C0 0 dL_law_249 rfl ?_
  refine l_iconst C0 (v := 2) dL_law_251 (by decide) ?_
  refine l_iadd C0 dL_law_252 ?_
  refine q_xs C0 F hi.2.1 dL_law_253 ?_
  refine q_ci C0 F (c_X5_person l z _ (xs (ix (i + 1))) (xs (ix (i + 2))) h.2.1) yk_X5_person w_337 ⟨Nat.le_of_ble_eq_true rfl, Nat.le_of_ble_eq_true rfl⟩ hK rfl rfl (Nat.le_of_ble_eq_true rfl) dL_law_254 ?_
  refine l_aload_n C0 2 dL_law_257 rfl rfl ?_
  refine l_aload_n C0 4 dL_law_258 rfl rfl ?_
  refine l_iload C0 0 dL_law_259 rfl ?_
  refine l_iconst C0 (v := 1) dL_law_261 (by decide) ?_
  refine l_iadd C0 dL_law_262 ?_
  refine q_xs C0 F hi.1 dL_law_263 ?_
  refine l_aload_n C0 4 dL_law_264 rfl rfl ?_
  refine l_iload C0 0 dL_law_265 rfl ?_
  refine l_iconst C0 (v := 2) dL_law_267 (by decide) ?_
  refine l_iadd C0 dL_law_268 ?_
  refine q_xs C0 F hi.2.1 dL_law_269 ?_
  refine q_mi C0 F (c_X6_person l y _ (xs (ix (i + 1))) (xs (ix (i + 2))) h.2.2.1) yk_X6_person w_940 ⟨Nat.le_of_ble_eq_true rfl, Nat.le_of_ble_eq_true rfl⟩ hK rfl rfl (Nat.le_of_ble_eq_true rfl) dL_law_270 ?_
  refine l_icmp_eq C0 1584 dL_law_273 (by decide) (fun _ => ?_) (fun q => absurd E q)
  exact q_wide ⟨Nat.le_succ _, Nat.le_add_right _ 6⟩ (kk _ _ _ h)
theorem case_2 (C0 : jb p s m args c cL_law 8 RL) (F : FX s A z y b L xs o cL N0) (hfl : l.stackTraces = false) (h : RI cg mg) (hi : HI i L) (hRc : kc + 1 ≤ room_1.cells ∧ ks + 6 ≤ room_1.slots) (kk : KK p l e s m args below meth c A (kc + 1) (ks + 6) Q z y b o cL N0 i) : jl p l e room_1 s m args below meth c A kc ks 8 Q (PLw z y o cL N0 cg mg f) 278 [(4, .int i), (3, .ref o), (2, .ref (yad y 0)), (1, .ref (zad z 46)), (0, .ref b)] [] := by
  have hK : kc ≤ room_1.cells ∧ ks ≤ room_1.slots := ⟨Nat.le_of_succ_le hRc.1, Nat.le_trans (Nat.le_add_right _ 6) hRc.2⟩
  have E := st_comes h (xs (ix (i + 1))) (xs (ix (i + 2))) (xs (ix (i + 3)))
  refine l_aload_n C0 3 dL_law_278 rfl rfl ?_
  refine l_aload_n C0 4 dL_law_279 rfl rfl ?_
  refine l_iload C0 0 dL_law_280 rfl ?_
  refine l_iconst C0 (v := 1) dL_law_282 (by decide) ?_
  refine l_iadd C0 dL_law_283 ?_
  refine q_xs C0 F hi.1 dL_law_284 ?_
  refine l_aload_n C0 4 dL_law_285 rfl rfl ?_
  refine l_iload C0 0 dL_law_286 rfl ?_
  refine l_iconst C0 (v := 2) dL_law_288 (by decide) ?_
  refine l_iadd C0 dL_law_289 ?_
  refine q_xs C0 F hi.2.1 dL_law_290 ?_
  refine l_aload_n C0 4 dL_law_291 rfl rfl ?_
  refine l_iload C0 0 dL_law_292 rfl ?_
  refine l_iconst C0 (v := 3) dL_law_294 (by decide) ?_
  refine l_iadd C0 dL_law_295 ?_
  refine q_xs C0 F hi.2.2.1 dL_law_296 ?_
  refine q_ci C0 F (c_X5_comes l z _ (xs (ix (i + 1))) (xs (ix (i + 2))) (xs (ix (i + 3))) h.2.1) yk_X5_comes w_341 ⟨Nat.le_of_ble_eq_true rfl, Nat.le_of_ble_eq_true rfl⟩ hK rfl rfl (Nat.le_of_ble_eq_true rfl) dL_law_297 ?_
  refine l_aload_n C0 2 dL_law_300 rfl rfl ?_
  refine l_aload_n C0 4 dL_law_301 rfl rfl ?_
  refine l_iload C0 0 dL_law_302 rfl ?_
  refine l_iconst C0 (v := 1) dL_law_304 (by decide) ?_
  refine l_iadd C0 dL_law_305 ?_
  refine q_xs C0 F hi.1 dL_law_306 ?_
  refine l_aload_n C0 4 dL_law_307 rfl rfl ?_
  refine l_iload C0 0 dL_law_308 rfl ?_
  refine l_iconst C0 (v := 2) dL_law_310 (by decide) ?_
  refine l_iadd C0 dL_law_311 ?_
  refine q_xs C0 F hi.2.1 dL_law_312 ?_
  refine l_aload_n C0 4 dL_law_313 rfl rfl ?_
  refine l_iload C0 0 dL_law_314 rfl ?_
  refine l_iconst C0 (v := 3) dL_law_316 (by decide) ?_
  refine l_iadd C0 dL_law_317 ?_
  refine q_xs C0 F hi.2.2.1 dL_law_318 ?_
  refine q_mi C0 F (c_X6_comes l y _ (xs (ix (i + 1))) (xs (ix (i + 2))) (xs (ix (i + 3))) h.2.2.1) yk_X6_comes w_944 ⟨Nat.le_of_ble_eq_true rfl, Nat.le_of_ble_eq_true rfl⟩ hK rfl rfl (Nat.le_of_ble_eq_true rfl) dL_law_319 ?_
  refine l_icmp_eq C0 1584 dL_law_322 (by decide) (fun _ => ?_) (fun q => absurd E.1 q)
  exact q_wide ⟨Nat.le_succ _, Nat.le_add_right _ 6⟩ (kk _ _ _ E.2)
theorem case_3 (C0 : jb p s m args c cL_law 8 RL) (F : FX s A z y b L xs o cL N0) (hfl : l.stackTraces = false) (h : RI cg mg) (hi : HI i L) (hRc : kc + 1 ≤ room_1.cells ∧ ks + 6 ≤ room_1.slots) (kk : KK p l e s m args below meth c A (kc + 1) (ks + 6) Q z y b o cL N0 i) : jl p l e room_1 s m args below meth c A kc ks 8 Q (PLw z y o cL N0 cg mg f) 327 [(4, .int i), (3, .ref o), (2, .ref (yad y 0)), (1, .ref (zad z 46)), (0, .ref b)] [] := by
  have hK : kc ≤ room_1.cells ∧ ks ≤ room_1.slots := ⟨Nat.le_of_succ_le hRc.1, Nat.le_trans (Nat.le_add_right _ 6) hRc.2⟩
  have E := st_feels h (xs (ix (i + 1))) (xs (ix (i + 2))) (xs (ix (i + 3)))
  refine l_aload_n C0 3 dL_law_327 rfl rfl ?_
  refine l_aload_n C0 4 dL_law_328 rfl rfl ?_
  refine l_iload C0 0 dL_law_329 rfl ?_
  refine l_iconst C0 (v := 1) dL_law_331 (by decide) ?_
  refine l_iadd C0 dL_law_332 ?_
  refine q_xs C0 F hi.1 dL_law_333 ?_
  refine l_aload_n C0 4 dL_law_334 rfl rfl ?_
  refine l_iload C0 0 dL_law_335 rfl ?_
  refine l_iconst C0 (v := 2) dL_law_337 (by decide) ?_
  refine l_iadd C0 dL_law_338 ?_
  refine q_xs C0 F hi.2.1 dL_law_339 ?_
  refine l_aload_n C0 4 dL_law_340 rfl rfl ?_
  refine l_iload C0 0 dL_law_341 rfl ?_
  refine l_iconst C0 (v := 3) dL_law_343 (by decide) ?_
  refine l_iadd C0 dL_law_344 ?_
  refine q_xs C0 F hi.2.2.1 dL_law_345 ?_
  refine q_ci C0 F (c_X5_feels l z _ (xs (ix (i + 1))) (xs (ix (i + 2))) (xs (ix (i + 3))) h.2.1) yk_X5_feels w_349 ⟨Nat.le_of_ble_eq_true rfl, Nat.le_of_ble_eq_true rfl⟩ hK rfl rfl (Nat.le_of_ble_eq_true rfl) dL_law_346 ?_
  refine l_aload_n C0 2 dL_law_349 rfl rfl ?_
  refine l_aload_n C0 4 dL_law_350 rfl rfl ?_
  refine l_iload C0 0 dL_law_351 rfl ?_
  refine l_iconst C0 (v := 1) dL_law_353 (by decide) ?_
  refine l_iadd C0 dL_law_354 ?_
  refine q_xs C0 F hi.1 dL_law_355 ?_
  refine l_aload_n C0 4 dL_law_356 rfl rfl ?_
  refine l_iload C0 0 dL_law_357 rfl ?_
  refine l_iconst C0 (v := 2) dL_law_359 (by decide) ?_
  refine l_iadd C0 dL_law_360 ?_
  refine q_xs C0 F hi.2.1 dL_law_361 ?_
  refine l_aload_n C0 4 dL_law_362 rfl rfl ?_
  refine l_iload C0 0 dL_law_363 rfl ?_
  refine l_iconst C0 (v := 3) dL_law_365 (by decide) ?_
  refine l_iadd C0 dL_law_366 ?_
  refine q_xs C0 F hi.2.2.1 dL_law_367 ?_
  refine q_mi C0 F (c_X6_feels l y _ (xs (ix (i + 1))) (xs (ix (i + 2))) (xs (ix (i + 3))) h.2.2.1) yk_X6_feels w_952 ⟨Nat.le_of_ble_eq_true rfl, Nat.le_of_ble_eq_true rfl⟩ hK rfl rfl (Nat.le_of_ble_eq_true rfl) dL_law_368 ?_
  refine l_icmp_eq C0 1584 dL_law_371 (by decide) (fun _ => ?_) (fun q => absurd E.1 q)
  exact q_wide ⟨Nat.le_succ _, Nat.le_add_right _ 6⟩ (kk _ _ _ E.2)
theorem case_4 (C0 : jb p s m args c cL_law 8 RL) (F : FX s A z y b L xs o cL N0) (hfl : l.stackTraces = false) (h : RI cg mg) (hi : HI i L) (hRc : kc + 1 ≤ room_1.cells ∧ ks + 6 ≤ room_1.slots) (kk : KK p l e s m args below meth c A (kc + 1) (ks + 6) Q z y b o cL N0 i) : jl p l e room_1 s m args below meth c A kc ks 8 Q (PLw z y o cL N0 cg mg f) 376 [(4, .int i), (3, .ref o), (2, .ref (yad y 0)), (1, .ref (zad z 46)), (0, .ref b)] [] := by
  have hK : kc ≤ room_1.cells ∧ ks ≤ room_1.slots := ⟨Nat.le_of_succ_le hRc.1, Nat.le_trans (Nat.le_add_right _ 6) hRc.2⟩
  have E := st_slices h (xs (ix (i + 1)))
  refine l_aload_n C0 3 dL_law_376 rfl rfl ?_
  refine l_aload_n C0 4 dL_law_377 rfl rfl ?_
  refine l_iload C0 0 dL_law_378 rfl ?_
  refine l_iconst C0 (v := 1) dL_law_380 (by decide) ?_
  refine l_iadd C0 dL_law_381 ?_
  refine q_xs C0 F hi.1 dL_law_382 ?_
  refine q_ci C0 F (c_X5_slices l z _ (xs (ix (i + 1))) h.2.1) yk_X5_slices w_356 ⟨Nat.le_of_ble_eq_true rfl, Nat.le_of_ble_eq_true rfl⟩ hK rfl rfl (Nat.le_of_ble_eq_true rfl) dL_law_383 ?_
  refine l_aload_n C0 2 dL_law_386 rfl rfl ?_
  refine l_aload_n C0 4 dL_law_387 rfl rfl ?_
  refine l_iload C0 0 dL_law_388 rfl ?_
  refine l_iconst C0 (v := 1) dL_law_390 (by decide) ?_
  refine l_iadd C0 dL_law_391 ?_
  refine q_xs C0 F hi.1 dL_law_392 ?_
  refine q_mi C0 F (c_X6_slices l y _ (xs (ix (i + 1))) h.2.2.1) yk_X6_slices w_956 ⟨Nat.le_of_ble_eq_true rfl, Nat.le_of_ble_eq_true rfl⟩ hK rfl rfl (Nat.le_of_ble_eq_true rfl) dL_law_393 ?_
  refine l_icmp_eq C0 1584 dL_law_396 (by decide) (fun _ => ?_) (fun q => absurd E.1 q)
  exact q_wide ⟨Nat.le_succ _, Nat.le_add_right _ 6⟩ (kk _ _ _ E.2)
end LAWC
