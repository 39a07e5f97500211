section LAWC
variable {p : Program} {l : Launch} {e : Env} {s : State} {m : MethodId} {args : Array Value} {below : List Frame} {meth : Method} {c : Code} {A : Nat → Prop} {kc ks : Nat} {Q : State → Prop} {z : ZC} {y : ZM} {b L : Nat} {xs : Nat → Int32} {o : Nat} {cL : ClassId} {N0 : Nat} {cg mg : Mem} {f : Nat → Int64} {i : Int32}
theorem case_5 (C0 : jb p s m args c cL_law 8 RL) (F : FX s A z y b L xs o cL N0) (hfl : l.stackTraces = false) (h : RI cg mg) (hi : HI i L) (hRc : kc + 1 ≤ room_1.cells ∧ ks + 6 ≤ room_1.slots) (kk : KK p l e s m args below meth c A (kc + 1) (ks + 6) Q z y b o cL N0 i) : jl p l e room_1 s m args below meth c A kc ks 8 Q (PLw z y o cL N0 cg mg f) 401 [(4, .int i), (3, .ref o), (2, .ref (yad y 0)), (1, .ref (zad z 46)), (0, .ref b)] [] := by
  have hK : kc ≤ room_1.cells ∧ ks ≤ room_1.slots := ⟨Nat.le_of_succ_le hRc.1, Nat.le_trans (Nat.le_add_right _ 6) hRc.2⟩
  have E := st_eats h (xs (ix (i + 1))) (xs (ix (i + 2)))
  refine l_aload_n C0 3 dL_law_401 rfl rfl ?_
  refine l_aload_n C0 4 dL_law_402 rfl rfl ?_
  refine l_iload C0 0 dL_law_403 rfl ?_
  refine l_iconst C0 (v := 1) dL_law_405 (by decide) ?_
  refine l_iadd C0 dL_law_406 ?_
  refine q_xs C0 F hi.1 dL_law_407 ?_
  refine l_aload_n C0 4 dL_law_408 rfl rfl ?_
  refine l_iload C0 0 dL_law_409 rfl ?_
  refine l_iconst C0 (v := 2) dL_law_411 (by decide) ?_
  refine l_iadd C0 dL_law_412 ?_
  refine q_xs C0 F hi.2.1 dL_law_413 ?_
  refine q_ci C0 F (c_X5_eats l z _ (xs (ix (i + 1))) (xs (ix (i + 2))) h.2.1) yk_X5_eats w_360 ⟨Nat.le_of_ble_eq_true rfl, Nat.le_of_ble_eq_true rfl⟩ hK rfl rfl (Nat.le_of_ble_eq_true rfl) dL_law_414 ?_
  refine l_aload_n C0 2 dL_law_417 rfl rfl ?_
  refine l_aload_n C0 4 dL_law_418 rfl rfl ?_
  refine l_iload C0 0 dL_law_419 rfl ?_
  refine l_iconst C0 (v := 1) dL_law_421 (by decide) ?_
  refine l_iadd C0 dL_law_422 ?_
  refine q_xs C0 F hi.1 dL_law_423 ?_
  refine l_aload_n C0 4 dL_law_424 rfl rfl ?_
  refine l_iload C0 0 dL_law_425 rfl ?_
  refine l_iconst C0 (v := 2) dL_law_427 (by decide) ?_
  refine l_iadd C0 dL_law_428 ?_
  refine q_xs C0 F hi.2.1 dL_law_429 ?_
  refine q_mi C0 F (c_X6_eats l y _ (xs (ix (i + 1))) (xs (ix (i + 2))) h.2.2.1) yk_X6_eats w_960 ⟨Nat.le_of_ble_eq_true rfl, Nat.le_of_ble_eq_true rfl⟩ hK rfl rfl (Nat.le_of_ble_eq_true rfl) dL_law_430 ?_
  refine l_icmp_eq C0 1584 dL_law_433 (by decide) (fun _ => ?_) (fun q => absurd E.1 q)
  exact q_wide ⟨Nat.le_succ _, Nat.le_add_right _ 6⟩ (kk _ _ _ E.2)
theorem case_6 (C0 : jb p s m args c cL_law 8 RL) (F : FX s A z y b L xs o cL N0) (hfl : l.stackTraces = false) (h : RI cg mg) (hi : HI i L) (hRc : kc + 1 ≤ room_1.cells ∧ ks + 6 ≤ room_1.slots) (kk : KK p l e s m args below meth c A (kc + 1) (ks + 6) Q z y b o cL N0 i) : jl p l e room_1 s m args below meth c A kc ks 8 Q (PLw z y o cL N0 cg mg f) 438 [(4, .int i), (3, .ref o), (2, .ref (yad y 0)), (1, .ref (zad z 46)), (0, .ref b)] [] := by
  have hK : kc ≤ room_1.cells ∧ ks ≤ room_1.slots := ⟨Nat.le_of_succ_le hRc.1, Nat.le_trans (Nat.le_add_right _ 6) hRc.2⟩
  have E := eq_joys h.1.1.1 (xs (ix (i + 1))) (xs (ix (i + 2))) (xs (ix (i + 3)))
  refine l_aload_n C0 3 dL_law_438 rfl rfl ?_
  refine l_aload_n C0 4 dL_law_439 rfl rfl ?_
  refine l_iload C0 0 dL_law_440 rfl ?_
  refine l_iconst C0 (v := 1) dL_law_442 (by decide) ?_
  refine l_iadd C0 dL_law_443 ?_
  refine q_xs C0 F hi.1 dL_law_444 ?_
  refine l_aload_n C0 4 dL_law_445 rfl rfl ?_
  refine l_iload C0 0 dL_law_446 rfl ?_
  refine l_iconst C0 (v := 2) dL_law_448 (by decide) ?_
  refine l_iadd C0 dL_law_449 ?_
  refine q_xs C0 F hi.2.1 dL_law_450 ?_
  refine l_aload_n C0 4 dL_law_451 rfl rfl ?_
  refine l_iload C0 0 dL_law_452 rfl ?_
  refine l_iconst C0 (v := 3) dL_law_454 (by decide) ?_
  refine l_iadd C0 dL_law_455 ?_
  refine q_xs C0 F hi.2.2.1 dL_law_456 ?_
  refine q_ci C0 F (c_X5_joys l z _ (xs (ix (i + 1))) (xs (ix (i + 2))) (xs (ix (i + 3))) h.2.1) yk_X5_joys w_365 ⟨Nat.le_of_ble_eq_true rfl, Nat.le_of_ble_eq_true rfl⟩ hK rfl rfl (Nat.le_of_ble_eq_true rfl) dL_law_457 ?_
  refine l_aload_n C0 2 dL_law_460 rfl rfl ?_
  refine l_aload_n C0 4 dL_law_461 rfl rfl ?_
  refine l_iload C0 0 dL_law_462 rfl ?_
  refine l_iconst C0 (v := 1) dL_law_464 (by decide) ?_
  refine l_iadd C0 dL_law_465 ?_
  refine q_xs C0 F hi.1 dL_law_466 ?_
  refine l_aload_n C0 4 dL_law_467 rfl rfl ?_
  refine l_iload C0 0 dL_law_468 rfl ?_
  refine l_iconst C0 (v := 2) dL_law_470 (by decide) ?_
  refine l_iadd C0 dL_law_471 ?_
  refine q_xs C0 F hi.2.1 dL_law_472 ?_
  refine l_aload_n C0 4 dL_law_473 rfl rfl ?_
  refine l_iload C0 0 dL_law_474 rfl ?_
  refine l_iconst C0 (v := 3) dL_law_476 (by decide) ?_
  refine l_iadd C0 dL_law_477 ?_
  refine q_xs C0 F hi.2.2.1 dL_law_478 ?_
  refine q_mi C0 F (c_X6_joys l y _ (xs (ix (i + 1))) (xs (ix (i + 2))) (xs (ix (i + 3))) h.2.2.1) yk_X6_joys w_968 ⟨Nat.le_of_ble_eq_true rfl, Nat.le_of_ble_eq_true rfl⟩ hK rfl rfl (Nat.le_of_ble_eq_true rfl) dL_law_479 ?_
  refine l_icmp_eq C0 1584 dL_law_482 (by decide) (fun _ => ?_) (fun q => absurd E q)
  exact q_wide ⟨Nat.le_succ _, Nat.le_add_right _ 6⟩ (kk _ _ _ h)
theorem case_7 (C0 : jb p s m args c cL_law 8 RL) (F : FX s A z y b L xs o cL N0) (hfl : l.stackTraces = false) (h : RI cg mg) (hi : HI i L) (hRc : kc + 1 ≤ room_1.cells ∧ ks + 6 ≤ room_1.slots) (kk : KK p l e s m args below meth c A (kc + 1) (ks + 6) Q z y b o cL N0 i) : jl p l e room_1 s m args below meth c A kc ks 8 Q (PLw z y o cL N0 cg mg f) 487 [(4, .int i), (3, .ref o), (2, .ref (yad y 0)), (1, .ref (zad z 46)), (0, .ref b)] [] := by
  have hK : kc ≤ room_1.cells ∧ ks ≤ room_1.slots := ⟨Nat.le_of_succ_le hRc.1, Nat.le_trans (Nat.le_add_right _ 6) hRc.2⟩
  have E := eq_who h.1.1.1 (xs (ix (i + 1)))
  refine l_aload_n C0 3 dL_law_487 rfl rfl ?_
  refine l_aload_n C0 4 dL_law_488 rfl rfl ?_
  refine l_iload C0 0 dL_law_489 rfl ?_
  refine l_iconst C0 (v := 1) dL_law_491 (by decide) ?_
  refine l_iadd C0 dL_law_492 ?_
  refine q_xs C0 F hi.1 dL_law_493 ?_
  refine q_ci C0 F (c_X5_who l z _ (xs (ix (i + 1))) h.2.1) yk_X5_who w_373 ⟨Nat.le_of_ble_eq_true rfl, Nat.le_of_ble_eq_true rfl⟩ hK rfl rfl (Nat.le_of_ble_eq_true rfl) dL_law_494 ?_
  refine l_aload_n C0 2 dL_law_497 rfl rfl ?_
  refine l_aload_n C0 4 dL_law_498 rfl rfl ?_
  refine l_iload C0 0 dL_law_499 rfl ?_
  refine l_iconst C0 (v := 1) dL_law_501 (by decide) ?_
  refine l_iadd C0 dL_law_502 ?_
  refine q_xs C0 F hi.1 dL_law_503 ?_
  refine q_mi C0 F (c_X6_who l y _ (xs (ix (i + 1))) h.2.2.1) yk_X6_who w_972 ⟨Nat.le_of_ble_eq_true rfl, Nat.le_of_ble_eq_true rfl⟩ hK rfl rfl (Nat.le_of_ble_eq_true rfl) dL_law_504 ?_
  refine l_icmp_eq C0 1584 dL_law_507 (by decide) (fun _ => ?_) (fun q => absurd E q)
  exact q_wide ⟨Nat.le_succ _, Nat.le_add_right _ 6⟩ (kk _ _ _ h)
theorem case_8 (C0 : jb p s m args c cL_law 8 RL) (F : FX s A z y b L xs o cL N0) (hfl : l.stackTraces = false) (h : RI cg mg) (hi : HI i L) (hRc : kc + 1 ≤ room_1.cells ∧ ks + 6 ≤ room_1.slots) (kk : KK p l e s m args below meth c A (kc + 1) (ks + 6) Q z y b o cL N0 i) : jl p l e room_1 s m args below meth c A kc ks 8 Q (PLw z y o cL N0 cg mg f) 512 [(4, .int i), (3, .ref o), (2, .ref (yad y 0)), (1, .ref (zad z 46)), (0, .ref b)] [] := by
  have hK : kc ≤ room_1.cells ∧ ks ≤ room_1.slots := ⟨Nat.le_of_succ_le hRc.1, Nat.le_trans (Nat.le_add_right _ 6) hRc.2⟩
  have E := eq_bestPair h.1.1.1 (xs (ix (i + 1)))
  refine l_aload_n C0 3 dL_law_512 rfl rfl ?_
  refine l_aload_n C0 4 dL_law_513 rfl rfl ?_
  refine l_iload C0 0 dL_law_514 rfl ?_
  refine l_iconst C0 (v := 1) dL_law_516 (by decide) ?_
  refine l_iadd C0 dL_law_517 ?_
  refine q_xs C0 F hi.1 dL_law_518 ?_
  refine q_ci C0 F (c_X5_bestPair l z _ (xs (ix (i + 1))) h.2.1) yk_X5_bestPair w_377 ⟨Nat.le_of_ble_eq_true rfl, Nat.le_of_ble_eq_true rfl⟩ hK rfl rfl (Nat.le_of_ble_eq_true rfl) dL_law_519 ?_
  refine l_aload_n C0 2 dL_law_522 rfl rfl ?_
  refine l_aload_n C0 4 dL_law_523 rfl rfl ?_
  refine l_iload C0 0 dL_law_524 rfl ?_
  refine l_iconst C0 (v := 1) dL_law_526 (by decide) ?_
  refine l_iadd C0 dL_law_527 ?_
  refine q_xs C0 F hi.1 dL_law_528 ?_
  refine q_mi C0 F (c_X6_bestPair l y _ (xs (ix (i + 1))) h.2.2.1) yk_X6_bestPair w_976 ⟨Nat.le_of_ble_eq_true rfl, Nat.le_of_ble_eq_true rfl⟩ hK rfl rfl (Nat.le_of_ble_eq_true rfl) dL_law_529 ?_
  refine l_icmp_eq C0 1584 dL_law_532 (by decide) (fun _ => ?_) (fun q => absurd E q)
  exact q_wide ⟨Nat.le_succ _, Nat.le_add_right _ 6⟩ (kk _ _ _ h)
theorem case_9 (C0 : jb p s m args c cL_law 8 RL) (F : FX s A z y b L xs o cL N0) (hfl : l.stackTraces = false) (h : RI cg mg) (hi : HI i L) (hRc : kc + 1 ≤ room_1.cells ∧ ks + 6 ≤ room_1.slots) (kk : KK p l e s m args below meth c A (kc + 1) (ks + 6) Q z y b o cL N0 i) : jl p l e room_1 s m args below meth c A kc ks 8 Q (PLw z y o cL N0 cg mg f) 537 [(4, .int i), (3, .ref o), (2, .ref (yad y 0)), (1, .ref (zad z 46)), (0, .ref b)] [] := by
  have hK : kc ≤ room_1.cells ∧ ks ≤ room_1.slots := ⟨Nat.le_of_succ_le hRc.1, Nat.le_trans (Nat.le_add_right _ 6) hRc.2⟩
  have E := eq_bestLooker h.1.1.1 h.1.1.2.1 (xs (ix (i + 1)))
  refine l_aload_n C0 3 dL_law_537 rfl rfl ?_
  refine l_aload_n C0 4 dL_law_538 rfl rfl ?_
  refine l_iload C0 0 dL_law_539 rfl ?_
  refine l_iconst C0 (v := 1) dL_law_541 (by decide) ?_
  refine l_iadd C0 dL_law_542 ?_
  refine q_xs C0 F hi.1 dL_law_543 ?_
  refine q_ci C0 F (c_X5_bestLooker l z _ (xs (ix (i + 1))) h.2.1) yk_X5_bestLooker w_389 ⟨Nat.le_of_ble_eq_true rfl, Nat.le_of_ble_eq_true rfl⟩ hK rfl rfl (Nat.le_of_ble_eq_true rfl) dL_law_544 ?_
  refine l_aload_n C0 2 dL_law_547 rfl rfl ?_
  refine l_aload_n C0 4 dL_law_548 rfl rfl ?_
  refine l_iload C0 0 dL_law_549 rfl ?_
  refine l_iconst C0 (v := 1) dL_law_551 (by decide) ?_
  refine l_iadd C0 dL_law_552 ?_
  refine q_xs C0 F hi.1 dL_law_553 ?_
  refine q_mi C0 F (c_X6_bestLooker l y _ (xs (ix (i + 1))) h.2.2.1) yk_X6_bestLooker w_986 ⟨Nat.le_of_ble_eq_true rfl, Nat.le_of_ble_eq_true rfl⟩ hK rfl rfl (Nat.le_of_ble_eq_true rfl) dL_law_554 ?_
  refine l_icmp_eq C0 1584 dL_law_557 (by decide) (fun _ => ?_) (fun q => absurd E q)
  exact q_wide ⟨Nat.le_succ _, Nat.le_add_right _ 6⟩ (kk _ _ _ h)
end LAWC
