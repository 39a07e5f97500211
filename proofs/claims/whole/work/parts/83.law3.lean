section LAWC
variable {p : Program} {l : Launch} {e : Env} {s : State} {m : MethodId} {args : Array Value} {below : List Frame} {meth : Method} {c : Code} {A : Nat → Prop} {kc ks : Nat} {Q : State → Prop} {z : ZC} {y : ZM} {b L : Nat} {xs : Nat → Int32} {o : Nat} {cL : ClassId} {N0 : Nat} {cg mg : Mem} {f : Nat → Int64} {i : Int32}
theorem case_15 (C0 : jb p s m args c cL_law 8 RL) (F : FX s A z y b L xs o cL N0) (hfl : l.stackTraces = false) (h : RI cg mg) (hi : HI i L) (hRc : kc + 1 ≤ room_1.cells ∧ ks + 6 ≤ room_1.slots) (kk : KK p l e s m args below meth c A (kc + 1) (ks + 6) Q z y b o cL N0 i) : jl p l e room_1 s m args below meth c A kc ks 8 Q (PLw z y o cL N0 cg mg f) 687 [(4, .int i), (3, .ref o), (2, .ref (yad y 0)), (1, .ref (zad z 46)), (0, .ref b)] [] := by
  have hK : kc ≤ room_1.cells ∧ ks ≤ room_1.slots := ⟨Nat.le_of_succ_le hRc.1, Nat.le_trans (Nat.le_add_right _ 6) hRc.2⟩
  have E := eq_bring h (xs (ix (i + 1)))
  refine l_aload_n C0 3 dL_law_687 rfl rfl ?_
  refine l_aload_n C0 4 dL_law_688 rfl rfl ?_
  refine l_iload C0 0 dL_law_689 rfl ?_
  refine l_iconst C0 (v := 1) dL_law_691 (by decide) ?_
  refine l_iadd C0 dL_law_692 ?_
  refine q_xs C0 F hi.1 dL_law_693 ?_
  refine q_ci C0 F (c_X5_bring l z _ (xs (ix (i + 1))) h.2.1) yk_X5_bring w_464 ⟨Nat.le_of_ble_eq_true rfl, Nat.le_of_ble_eq_true rfl⟩ hK rfl rfl (Nat.le_of_ble_eq_true rfl) dL_law_694 ?_
  refine l_aload_n C0 2 dL_law_697 rfl rfl ?_
  refine l_aload_n C0 4 dL_law_698 rfl rfl ?_
  refine l_iload C0 0 dL_law_699 rfl ?_
  refine l_iconst C0 (v := 1) dL_law_701 (by decide) ?_
  refine l_iadd C0 dL_law_702 ?_
  refine q_xs C0 F hi.1 dL_law_703 ?_
  refine q_mi C0 F (c_X6_bring l y _ (xs (ix (i + 1))) h.2.2.1) yk_X6_bring w_1014 ⟨Nat.le_of_ble_eq_true rfl, Nat.le_of_ble_eq_true rfl⟩ hK rfl rfl (Nat.le_of_ble_eq_true rfl) dL_law_704 ?_
  refine l_icmp_eq C0 1584 dL_law_707 (by decide) (fun _ => ?_) (fun q => absurd E.1 q)
  exact q_wide ⟨Nat.le_succ _, Nat.le_add_right _ 6⟩ (kk _ _ _ E.2)
theorem case_16 (C0 : jb p s m args c cL_law 8 RL) (F : FX s A z y b L xs o cL N0) (hfl : l.stackTraces = false) (h : RI cg mg) (hi : HI i L) (hRc : kc + 1 ≤ room_1.cells ∧ ks + 6 ≤ room_1.slots) (kk : KK p l e s m args below meth c A (kc + 1) (ks + 6) Q z y b o cL N0 i) : jl p l e room_1 s m args below meth c A kc ks 8 Q (PLw z y o cL N0 cg mg f) 712 [(4, .int i), (3, .ref o), (2, .ref (yad y 0)), (1, .ref (zad z 46)), (0, .ref b)] [] := by
  have hK : kc ≤ room_1.cells ∧ ks ≤ room_1.slots := ⟨Nat.le_of_succ_le hRc.1, Nat.le_trans (Nat.le_add_right _ 6) hRc.2⟩
  have E := eq_feeds h.1.1.1 h.1.1.2.1 (xs (ix (i + 1)))
  refine l_aload_n C0 3 dL_law_712 rfl rfl ?_
  refine l_aload_n C0 4 dL_law_713 rfl rfl ?_
  refine l_iload C0 0 dL_law_714 rfl ?_
  refine l_iconst C0 (v := 1) dL_law_716 (by decide) ?_
  refine l_iadd C0 dL_law_717 ?_
  refine q_xs C0 F hi.1 dL_law_718 ?_
  refine q_ci C0 F (c_X5_feeds l z _ (xs (ix (i + 1))) h.2.1) yk_X5_feeds w_475 ⟨Nat.le_of_ble_eq_true rfl, Nat.le_of_ble_eq_true rfl⟩ hK rfl rfl (Nat.le_of_ble_eq_true rfl) dL_law_719 ?_
  refine l_aload_n C0 2 dL_law_722 rfl rfl ?_
  refine l_aload_n C0 4 dL_law_723 rfl rfl ?_
  refine l_iload C0 0 dL_law_724 rfl ?_
  refine l_iconst C0 (v := 1) dL_law_726 (by decide) ?_
  refine l_iadd C0 dL_law_727 ?_
  refine q_xs C0 F hi.1 dL_law_728 ?_
  refine q_mi C0 F (c_X6_feeds2 l y _ (xs (ix (i + 1))) h.2.2.1 (feeds_b h)) yk_X6_feeds w_1018 ⟨Nat.le_of_ble_eq_true rfl, Nat.le_of_ble_eq_true rfl⟩ hK rfl rfl (Nat.le_of_ble_eq_true rfl) dL_law_729 ?_
  refine l_icmp_eq C0 1584 dL_law_732 (by decide) (fun _ => ?_) (fun q => absurd E q)
  exact q_wide ⟨Nat.le_succ _, Nat.le_add_right _ 6⟩ (kk _ _ _ h)
theorem case_17 (C0 : jb p s m args c cL_law 8 RL) (F : FX s A z y b L xs o cL N0) (hfl : l.stackTraces = false) (h : RI cg mg) (hi : HI i L) (hRc : kc + 1 ≤ room_1.cells ∧ ks + 6 ≤ room_1.slots) (kk : KK p l e s m args below meth c A (kc + 1) (ks + 6) Q z y b o cL N0 i) : jl p l e room_1 s m args below meth c A kc ks 8 Q (PLw z y o cL N0 cg mg f) 737 [(4, .int i), (3, .ref o), (2, .ref (yad y 0)), (1, .ref (zad z 46)), (0, .ref b)] [] := by
  have hK : kc ≤ room_1.cells ∧ ks ≤ room_1.slots := ⟨Nat.le_of_succ_le hRc.1, Nat.le_trans (Nat.le_add_right _ 6) hRc.2⟩
  have E := eq_prices h.1.1.1 (xs (ix (i + 1))) (xs (ix (i + 2)))
  refine l_aload_n C0 3 dL_law_737 rfl rfl ?_
  refine l_aload_n C0 4 dL_law_738 rfl rfl ?_
  refine l_iload C0 0 dL_law_739 rfl ?_
  refine l_iconst C0 (v := 1) dL_law_741 (by decide) ?_
  refine l_iadd C0 dL_law_742 ?_
  refine q_xs C0 F hi.1 dL_law_743 ?_
  refine l_aload_n C0 4 dL_law_744 rfl rfl ?_
  refine l_iload C0 0 dL_law_745 rfl ?_
  refine l_iconst C0 (v := 2) dL_law_747 (by decide) ?_
  refine l_iadd C0 dL_law_748 ?_
  refine q_xs C0 F hi.2.1 dL_law_749 ?_
  refine q_ci C0 F (c_X5_prices l z _ (xs (ix (i + 1))) (xs (ix (i + 2))) h.2.1) yk_X5_prices w_479 ⟨Nat.le_of_ble_eq_true rfl, Nat.le_of_ble_eq_true rfl⟩ hK rfl rfl (Nat.le_of_ble_eq_true rfl) dL_law_750 ?_
  refine l_aload_n C0 2 dL_law_753 rfl rfl ?_
  refine l_aload_n C0 4 dL_law_754 rfl rfl ?_
  refine l_iload C0 0 dL_law_755 rfl ?_
  refine l_iconst C0 (v := 1) dL_law_757 (by decide) ?_
  refine l_iadd C0 dL_law_758 ?_
  refine q_xs C0 F hi.1 dL_law_759 ?_
  refine l_aload_n C0 4 dL_law_760 rfl rfl ?_
  refine l_iload C0 0 dL_law_761 rfl ?_
  refine l_iconst C0 (v := 2) dL_law_763 (by decide) ?_
  refine l_iadd C0 dL_law_764 ?_
  refine q_xs C0 F hi.2.1 dL_law_765 ?_
  refine q_mi C0 F (c_X6_prices l y _ (xs (ix (i + 1))) (xs (ix (i + 2))) h.2.2.1) yk_X6_prices w_1022 ⟨Nat.le_of_ble_eq_true rfl, Nat.le_of_ble_eq_true rfl⟩ hK rfl rfl (Nat.le_of_ble_eq_true rfl) dL_law_766 ?_
  refine l_icmp_eq C0 1584 dL_law_769 (by decide) (fun _ => ?_) (fun q => absurd E q)
  exact q_wide ⟨Nat.le_succ _, Nat.le_add_right _ 6⟩ (kk _ _ _ h)
theorem case_18 (C0 : jb p s m args c cL_law 8 RL) (F : FX s A z y b L xs o cL N0) (hfl : l.stackTraces = false) (h : RI cg mg) (hi : HI i L) (hRc : kc + 1 ≤ room_1.cells ∧ ks + 6 ≤ room_1.slots) (kk : KK p l e s m args below meth c A (kc + 1) (ks + 6) Q z y b o cL N0 i) : jl p l e room_1 s m args below meth c A kc ks 8 Q (PLw z y o cL N0 cg mg f) 774 [(4, .int i), (3, .ref o), (2, .ref (yad y 0)), (1, .ref (zad z 46)), (0, .ref b)] [] := by
  have hK : kc ≤ room_1.cells ∧ ks ≤ room_1.slots := ⟨Nat.le_of_succ_le hRc.1, Nat.le_trans (Nat.le_add_right _ 6) hRc.2⟩
  have E := eq_clears h.1.1.1 (xs (ix (i + 1)))
  refine l_aload_n C0 3 dL_law_774 rfl rfl ?_
  refine l_aload_n C0 4 dL_law_775 rfl rfl ?_
  refine l_iload C0 0 dL_law_776 rfl ?_
  refine l_iconst C0 (v := 1) dL_law_778 (by decide) ?_
  refine l_iadd C0 dL_law_779 ?_
  refine q_xs C0 F hi.1 dL_law_780 ?_
  refine q_ci C0 F (c_X5_clears l z _ (xs (ix (i + 1))) h.2.1) yk_X5_clears w_495 ⟨Nat.le_of_ble_eq_true rfl, Nat.le_of_ble_eq_true rfl⟩ hK rfl rfl (Nat.le_of_ble_eq_true rfl) dL_law_781 ?_
  refine l_aload_n C0 2 dL_law_784 rfl rfl ?_
  refine l_aload_n C0 4 dL_law_785 rfl rfl ?_
  refine l_iload C0 0 dL_law_786 rfl ?_
  refine l_iconst C0 (v := 1) dL_law_788 (by decide) ?_
  refine l_iadd C0 dL_law_789 ?_
  refine q_xs C0 F hi.1 dL_law_790 ?_
  refine q_mi C0 F (c_X6_clears l y _ (xs (ix (i + 1))) h.2.2.1) yk_X6_clears w_1034 ⟨Nat.le_of_ble_eq_true rfl, Nat.le_of_ble_eq_true rfl⟩ hK rfl rfl (Nat.le_of_ble_eq_true rfl) dL_law_791 ?_
  refine l_icmp_eq C0 1584 dL_law_794 (by decide) (fun _ => ?_) (fun q => absurd E q)
  exact q_wide ⟨Nat.le_succ _, Nat.le_add_right _ 6⟩ (kk _ _ _ h)
theorem case_19 (C0 : jb p s m args c cL_law 8 RL) (F : FX s A z y b L xs o cL N0) (hfl : l.stackTraces = false) (h : RI cg mg) (hi : HI i L) (hRc : kc + 1 ≤ room_1.cells ∧ ks + 6 ≤ room_1.slots) (kk : KK p l e s m args below meth c A (kc + 1) (ks + 6) Q z y b o cL N0 i) : jl p l e room_1 s m args below meth c A kc ks 8 Q (PLw z y o cL N0 cg mg f) 799 [(4, .int i), (3, .ref o), (2, .ref (yad y 0)), (1, .ref (zad z 46)), (0, .ref b)] [] := by
  have hK : kc ≤ room_1.cells ∧ ks ≤ room_1.slots := ⟨Nat.le_of_succ_le hRc.1, Nat.le_trans (Nat.le_add_right _ 6) hRc.2⟩
  have E := eq_swap h.1.1.1 h.1.2.1 (xs (ix (i + 1)))
  refine l_aload_n C0 3 dL_law_799 rfl rfl ?_
  refine l_aload_n C0 4 dL_law_800 rfl rfl ?_
  refine l_iload C0 0 dL_law_801 rfl ?_
  refine l_iconst C0 (v := 1) dL_law_803 (by decide) ?_
  refine l_iadd C0 dL_law_804 ?_
  refine q_xs C0 F hi.1 dL_law_805 ?_
  refine q_ci C0 F (c_X5_swap l z _ (xs (ix (i + 1))) h.2.1) yk_X5_swap w_499 ⟨Nat.le_of_ble_eq_true rfl, Nat.le_of_ble_eq_true rfl⟩ hK rfl rfl (Nat.le_of_ble_eq_true rfl) dL_law_806 ?_
  refine l_aload_n C0 2 dL_law_809 rfl rfl ?_
  refine l_aload_n C0 4 dL_law_810 rfl rfl ?_
  refine l_iload C0 0 dL_law_811 rfl ?_
  refine l_iconst C0 (v := 1) dL_law_813 (by decide) ?_
  refine l_iadd C0 dL_law_814 ?_
  refine q_xs C0 F hi.1 dL_law_815 ?_
  refine q_mi C0 F (c_X6_swap l y _ (xs (ix (i + 1))) h.2.2.1) yk_X6_swap w_1038 ⟨Nat.le_of_ble_eq_true rfl, Nat.le_of_ble_eq_true rfl⟩ hK rfl rfl (Nat.le_of_ble_eq_true rfl) dL_law_816 ?_
  refine l_icmp_eq C0 1584 dL_law_819 (by decide) (fun _ => ?_) (fun q => absurd E q)
  exact q_wide ⟨Nat.le_succ _, Nat.le_add_right _ 6⟩ (kk _ _ _ h)
end LAWC
