section LAWC
variable {p : Program} {l : Launch} {e : Env} {s : State} {m : MethodId} {args : Array Value} {below : List Frame} {meth : Method} {c : Code} {A : Nat → Prop} {kc ks : Nat} {Q : State → Prop} {z : ZC} {y : ZM} {b L : Nat} {xs : Nat → Int32} {o : Nat} {cL : ClassId} {N0 : Nat} {cg mg : Mem} {f : Nat → Int64} {i : Int32}
theorem case_10 (C0 : jb p s m args c cL_law 8 RL) (F : FX s A z y b L xs o cL N0) (hfl : l.stackTraces = false) (h : RI cg mg) (hi : HI i L) (hRc : kc + 1 ≤ room_1.cells ∧ ks + 6 ≤ room_1.slots) (kk : KK p l e s m args below meth c A (kc + 1) (ks + 6) Q z y b o cL N0 i) : jl p l e room_1 s m args below meth c A kc ks 8 Q (PLw z y o cL N0 cg mg f) 562 [(4, .int i), (3, .ref o), (2, .ref (yad y 0)), (1, .ref (zad z 46)), (0, .ref b)] [] := by
  have hK : kc ≤ room_1.cells ∧ ks ≤ room_1.slots := ⟨Nat.le_of_succ_le hRc.1, Nat.le_trans (Nat.le_add_right _ 6) hRc.2⟩
  have E := eq_twoTurns h (xs (ix (i + 1)))
  refine l_aload_n C0 3 dL_law_562 rfl rfl ?_
  refine l_aload_n C0 4 dL_law_563 rfl rfl ?_
  refine l_iload C0 0 dL_law_564 rfl ?_
  refine l_iconst C0 (v := 1) dL_law_566 (by decide) ?_
  refine l_iadd C0 dL_law_567 ?_
  refine q_xs C0 F hi.1 dL_law_568 ?_
  refine q_ci C0 F (c_X5_twoTurns l z _ (xs (ix (i + 1))) h.2.1) yk_X5_twoTurns w_394 ⟨Nat.le_of_ble_eq_true rfl, Nat.le_of_ble_eq_true rfl⟩ hK rfl rfl (Nat.le_of_ble_eq_true rfl) dL_law_569 ?_
  refine l_aload_n C0 2 dL_law_572 rfl rfl ?_
  refine l_aload_n C0 4 dL_law_573 rfl rfl ?_
  refine l_iload C0 0 dL_law_574 rfl ?_
  refine l_iconst C0 (v := 1) dL_law_576 (by decide) ?_
  refine l_iadd C0 dL_law_577 ?_
  refine q_xs C0 F hi.1 dL_law_578 ?_
  refine q_mi C0 F (c_X6_twoTurns l y _ (xs (ix (i + 1))) h.2.2.1) yk_X6_twoTurns w_990 ⟨Nat.le_of_ble_eq_true rfl, Nat.le_of_ble_eq_true rfl⟩ hK rfl rfl (Nat.le_of_ble_eq_true rfl) dL_law_579 ?_
  refine l_icmp_eq C0 1584 dL_law_582 (by decide) (fun _ => ?_) (fun q => absurd E.1 q)
  exact q_wide ⟨Nat.le_succ _, Nat.le_add_right _ 6⟩ (kk _ _ _ E.2)
theorem case_11 (C0 : jb p s m args c cL_law 8 RL) (F : FX s A z y b L xs o cL N0) (hfl : l.stackTraces = false) (h : RI cg mg) (hi : HI i L) (hRc : kc + 1 ≤ room_1.cells ∧ ks + 6 ≤ room_1.slots) (kk : KK p l e s m args below meth c A (kc + 1) (ks + 6) Q z y b o cL N0 i) : jl p l e room_1 s m args below meth c A kc ks 8 Q (PLw z y o cL N0 cg mg f) 587 [(4, .int i), (3, .ref o), (2, .ref (yad y 0)), (1, .ref (zad z 46)), (0, .ref b)] [] := by
  have hK : kc ≤ room_1.cells ∧ ks ≤ room_1.slots := ⟨Nat.le_of_succ_le hRc.1, Nat.le_trans (Nat.le_add_right _ 6) hRc.2⟩
  have E := eq_pairs h (xs (ix (i + 1)))
  refine l_aload_n C0 3 dL_law_587 rfl rfl ?_
  refine l_aload_n C0 4 dL_law_588 rfl rfl ?_
  refine l_iload C0 0 dL_law_589 rfl ?_
  refine l_iconst C0 (v := 1) dL_law_591 (by decide) ?_
  refine l_iadd C0 dL_law_592 ?_
  refine q_xs C0 F hi.1 dL_law_593 ?_
  refine q_ci C0 F (c_X5_pairs l z _ (xs (ix (i + 1))) h.2.1 (by rw [h.1.1.1.s]; exact h.1.1.2.1.2.1.1)) yk_X5_pairs w_402 ⟨Nat.le_of_ble_eq_true rfl, Nat.le_of_ble_eq_true rfl⟩ hK rfl rfl (Nat.le_of_ble_eq_true rfl) dL_law_594 ?_
  refine l_aload_n C0 2 dL_law_597 rfl rfl ?_
  refine l_aload_n C0 4 dL_law_598 rfl rfl ?_
  refine l_iload C0 0 dL_law_599 rfl ?_
  refine l_iconst C0 (v := 1) dL_law_601 (by decide) ?_
  refine l_iadd C0 dL_law_602 ?_
  refine q_xs C0 F hi.1 dL_law_603 ?_
  refine q_mi C0 F (c_X6_pairs l y _ (xs (ix (i + 1))) h.2.2.1) yk_X6_pairs w_994 ⟨Nat.le_of_ble_eq_true rfl, Nat.le_of_ble_eq_true rfl⟩ hK rfl rfl (Nat.le_of_ble_eq_true rfl) dL_law_604 ?_
  refine l_icmp_eq C0 1584 dL_law_607 (by decide) (fun _ => ?_) (fun q => absurd E.1 q)
  exact q_wide ⟨Nat.le_succ _, Nat.le_add_right _ 6⟩ (kk _ _ _ E.2)
theorem case_12 (C0 : jb p s m args c cL_law 8 RL) (F : FX s A z y b L xs o cL N0) (hfl : l.stackTraces = false) (h : RI cg mg) (hi : HI i L) (hRc : kc + 1 ≤ room_1.cells ∧ ks + 6 ≤ room_1.slots) (kk : KK p l e s m args below meth c A (kc + 1) (ks + 6) Q z y b o cL N0 i) : jl p l e room_1 s m args below meth c A kc ks 8 Q (PLw z y o cL N0 cg mg f) 612 [(4, .int i), (3, .ref o), (2, .ref (yad y 0)), (1, .ref (zad z 46)), (0, .ref b)] [] := by
  have hK : kc ≤ room_1.cells ∧ ks ≤ room_1.slots := ⟨Nat.le_of_succ_le hRc.1, Nat.le_trans (Nat.le_add_right _ 6) hRc.2⟩
  have E := eq_greedily h (xs (ix (i + 1))) (xs (ix (i + 2)))
  refine l_aload_n C0 3 dL_law_612 rfl rfl ?_
  refine l_aload_n C0 4 dL_law_613 rfl rfl ?_
  refine l_iload C0 0 dL_law_614 rfl ?_
  refine l_iconst C0 (v := 1) dL_law_616 (by decide) ?_
  refine l_iadd C0 dL_law_617 ?_
  refine q_xs C0 F hi.1 dL_law_618 ?_
  refine l_aload_n C0 4 dL_law_619 rfl rfl ?_
  refine l_iload C0 0 dL_law_620 rfl ?_
  refine l_iconst C0 (v := 2) dL_law_622 (by decide) ?_
  refine l_iadd C0 dL_law_623 ?_
  refine q_xs C0 F hi.2.1 dL_law_624 ?_
  refine q_ci C0 F (c_X5_greedily l z _ (xs (ix (i + 1))) (xs (ix (i + 2))) h.2.1) yk_X5_greedily w_438 ⟨Nat.le_of_ble_eq_true rfl, Nat.le_of_ble_eq_true rfl⟩ hK rfl rfl (Nat.le_of_ble_eq_true rfl) dL_law_625 ?_
  refine l_aload_n C0 2 dL_law_628 rfl rfl ?_
  refine l_aload_n C0 4 dL_law_629 rfl rfl ?_
  refine l_iload C0 0 dL_law_630 rfl ?_
  refine l_iconst C0 (v := 1) dL_law_632 (by decide) ?_
  refine l_iadd C0 dL_law_633 ?_
  refine q_xs C0 F hi.1 dL_law_634 ?_
  refine l_aload_n C0 4 dL_law_635 rfl rfl ?_
  refine l_iload C0 0 dL_law_636 rfl ?_
  refine l_iconst C0 (v := 2) dL_law_638 (by decide) ?_
  refine l_iadd C0 dL_law_639 ?_
  refine q_xs C0 F hi.2.1 dL_law_640 ?_
  refine q_mi C0 F (c_X6_greedily l y _ (xs (ix (i + 1))) (xs (ix (i + 2))) h.2.2.1) yk_X6_greedily w_1002 ⟨Nat.le_of_ble_eq_true rfl, Nat.le_of_ble_eq_true rfl⟩ hK rfl rfl (Nat.le_of_ble_eq_true rfl) dL_law_641 ?_
  refine l_icmp_eq C0 1584 dL_law_644 (by decide) (fun _ => ?_) (fun q => absurd E.1 q)
  exact q_wide ⟨Nat.le_succ _, Nat.le_add_right _ 6⟩ (kk _ _ _ E.2)
theorem case_13 (C0 : jb p s m args c cL_law 8 RL) (F : FX s A z y b L xs o cL N0) (hfl : l.stackTraces = false) (h : RI cg mg) (hi : HI i L) (hRc : kc + 1 ≤ room_1.cells ∧ ks + 6 ≤ room_1.slots) (kk : KK p l e s m args below meth c A (kc + 1) (ks + 6) Q z y b o cL N0 i) : jl p l e room_1 s m args below meth c A kc ks 8 Q (PLw z y o cL N0 cg mg f) 649 [(4, .int i), (3, .ref o), (2, .ref (yad y 0)), (1, .ref (zad z 46)), (0, .ref b)] [] := by
  have hK : kc ≤ room_1.cells ∧ ks ≤ room_1.slots := ⟨Nat.le_of_succ_le hRc.1, Nat.le_trans (Nat.le_add_right _ 6) hRc.2⟩
  have E := eq_atAll h.1.1.1 h.1.1.2.1 (xs (ix (i + 1)))
  refine l_aload_n C0 3 dL_law_649 rfl rfl ?_
  refine l_aload_n C0 4 dL_law_650 rfl rfl ?_
  refine l_iload C0 0 dL_law_651 rfl ?_
  refine l_iconst C0 (v := 1) dL_law_653 (by decide) ?_
  refine l_iadd C0 dL_law_654 ?_
  refine q_xs C0 F hi.1 dL_law_655 ?_
  refine q_ci C0 F (c_X5_atAll l z _ (xs (ix (i + 1))) h.2.1) yk_X5_atAll w_442 ⟨Nat.le_of_ble_eq_true rfl, Nat.le_of_ble_eq_true rfl⟩ hK rfl rfl (Nat.le_of_ble_eq_true rfl) dL_law_656 ?_
  refine l_aload_n C0 2 dL_law_659 rfl rfl ?_
  refine l_aload_n C0 4 dL_law_660 rfl rfl ?_
  refine l_iload C0 0 dL_law_661 rfl ?_
  refine l_iconst C0 (v := 1) dL_law_663 (by decide) ?_
  refine l_iadd C0 dL_law_664 ?_
  refine q_xs C0 F hi.1 dL_law_665 ?_
  refine q_mi C0 F (c_X6_atAll l y _ (xs (ix (i + 1))) h.2.2.1) yk_X6_atAll w_1006 ⟨Nat.le_of_ble_eq_true rfl, Nat.le_of_ble_eq_true rfl⟩ hK rfl rfl (Nat.le_of_ble_eq_true rfl) dL_law_666 ?_
  refine l_icmp_eq C0 1584 dL_law_669 (by decide) (fun _ => ?_) (fun q => absurd E q)
  exact q_wide ⟨Nat.le_succ _, Nat.le_add_right _ 6⟩ (kk _ _ _ h)
theorem case_14 (C0 : jb p s m args c cL_law 8 RL) (F : FX s A z y b L xs o cL N0) (hfl : l.stackTraces = false) (h : RI cg mg) (hi : HI i L) (hRc : kc + 1 ≤ room_1.cells ∧ ks + 6 ≤ room_1.slots) (kk : KK p l e s m args below meth c A (kc + 1) (ks + 6) Q z y b o cL N0 i) : jl p l e room_1 s m args below meth c A kc ks 8 Q (PLw z y o cL N0 cg mg f) 674 [(4, .int i), (3, .ref o), (2, .ref (yad y 0)), (1, .ref (zad z 46)), (0, .ref b)] [] := by
  have hK : kc ≤ room_1.cells ∧ ks ≤ room_1.slots := ⟨Nat.le_of_succ_le hRc.1, Nat.le_trans (Nat.le_add_right _ 6) hRc.2⟩
  have E := eq_stuck h.1.1.1
  refine l_aload_n C0 3 dL_law_674 rfl rfl ?_
  refine q_ci C0 F (c_X5_stuck l z _ h.2.1) yk_X5_stuck w_456 ⟨Nat.le_of_ble_eq_true rfl, Nat.le_of_ble_eq_true rfl⟩ hK rfl rfl (Nat.le_of_ble_eq_true rfl) dL_law_675 ?_
  refine l_aload_n C0 2 dL_law_678 rfl rfl ?_
  refine q_mi C0 F (c_X6_stuck l y _ h.2.2.1) yk_X6_stuck w_1010 ⟨Nat.le_of_ble_eq_true rfl, Nat.le_of_ble_eq_true rfl⟩ hK rfl rfl (Nat.le_of_ble_eq_true rfl) dL_law_679 ?_
  refine l_icmp_eq C0 1584 dL_law_682 (by decide) (fun _ => ?_) (fun q => absurd E q)
  exact q_wide ⟨Nat.le_succ _, Nat.le_add_right _ 6⟩ (kk _ _ _ h)
end LAWC
