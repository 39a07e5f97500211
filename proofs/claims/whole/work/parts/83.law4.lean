section LAWC
variable {p : Program} {l : Launch} {e : Env} {s : State} {m : MethodId} {args : Array Value} {below : List Frame} {meth : Method} {c : Code} {A : Nat → Prop} {kc ks : Nat} {Q : State → Prop} {z : ZC} {y : ZM} {b L : Nat} {xs : Nat → Int32} {o : Nat} {cL : ClassId} {N0 : Nat} {cg mg : Mem} {f : Nat → Int64} {i : Int32}
theorem case_20 (C0 : jb p s m args c cL_law 8 RL) (F : FX s A z y b L xs o cL N0) (hfl : l.stackTraces = false) (h : RI cg mg) (hi : HI i L) (hRc : kc + 1 ≤ room_1.cells ∧ ks + 6 ≤ room_1.slots) (kk : KK p l e s m args below meth c A (kc + 1) (ks + 6) Q z y b o cL N0 i) : jl p l e room_1 s m args below meth c A kc ks 8 Q (PLw z y o cL N0 cg mg f) 824 [(4, .int i), (3, .ref o), (2, .ref (yad y 0)), (1, .ref (zad z 46)), (0, .ref b)] [] := by
  have hK : kc ≤ room_1.cells ∧ ks ≤ room_1.slots := ⟨Nat.le_of_succ_le hRc.1, Nat.le_trans (Nat.le_add_right _ 6) hRc.2⟩
  have E := eq_throat h.1.2.1 (xs (ix (i + 1))) (xs (ix (i + 2))) (xs (ix (i + 3))) (xs (ix (i + 4)))
  refine l_aload_n C0 3 dL_law_824 rfl rfl ?_
  refine l_aload_n C0 4 dL_law_825 rfl rfl ?_
  refine l_iload C0 0 dL_law_826 rfl ?_
  refine l_iconst C0 (v := 1) dL_law_828 (by decide) ?_
  refine l_iadd C0 dL_law_829 ?_
  refine q_xs C0 F hi.1 dL_law_830 ?_
  refine l_aload_n C0 4 dL_law_831 rfl rfl ?_
  refine l_iload C0 0 dL_law_832 rfl ?_
  refine l_iconst C0 (v := 2) dL_law_834 (by decide) ?_
  refine l_iadd C0 dL_law_835 ?_
  refine q_xs C0 F hi.2.1 dL_law_836 ?_
  refine l_aload_n C0 4 dL_law_837 rfl rfl ?_
  refine l_iload C0 0 dL_law_838 rfl ?_
  refine l_iconst C0 (v := 3) dL_law_840 (by decide) ?_
  refine l_iadd C0 dL_law_841 ?_
  refine q_xs C0 F hi.2.2.1 dL_law_842 ?_
  refine l_aload_n C0 4 dL_law_843 rfl rfl ?_
  refine l_iload C0 0 dL_law_844 rfl ?_
  refine l_iconst C0 (v := 4) dL_law_846 (by decide) ?_
  refine l_iadd C0 dL_law_847 ?_
  refine q_xs C0 F hi.2.2.2.1 dL_law_848 ?_
  refine q_ci C0 F (c_X5_throat l z _ (xs (ix (i + 1))) (xs (ix (i + 2))) (xs (ix (i + 3))) (xs (ix (i + 4))) h.2.1) yk_X5_throat w_511 ⟨Nat.le_of_ble_eq_true rfl, Nat.le_of_ble_eq_true rfl⟩ hK rfl rfl (Nat.le_of_ble_eq_true rfl) dL_law_849 ?_
  refine l_aload_n C0 2 dL_law_852 rfl rfl ?_
  refine l_aload_n C0 4 dL_law_853 rfl rfl ?_
  refine l_iload C0 0 dL_law_854 rfl ?_
  refine l_iconst C0 (v := 1) dL_law_856 (by decide) ?_
  refine l_iadd C0 dL_law_857 ?_
  refine q_xs C0 F hi.1 dL_law_858 ?_
  refine l_aload_n C0 4 dL_law_859 rfl rfl ?_
  refine l_iload C0 0 dL_law_860 rfl ?_
  refine l_iconst C0 (v := 2) dL_law_862 (by decide) ?_
  refine l_iadd C0 dL_law_863 ?_
  refine q_xs C0 F hi.2.1 dL_law_864 ?_
  refine l_aload_n C0 4 dL_law_865 rfl rfl ?_
  refine l_iload C0 0 dL_law_866 rfl ?_
  refine l_iconst C0 (v := 3) dL_law_868 (by decide) ?_
  refine l_iadd C0 dL_law_869 ?_
  refine q_xs C0 F hi.2.2.1 dL_law_870 ?_
  refine l_aload_n C0 4 dL_law_871 rfl rfl ?_
  refine l_iload C0 0 dL_law_872 rfl ?_
  refine l_iconst C0 (v := 4) dL_law_874 (by decide) ?_
  refine l_iadd C0 dL_law_875 ?_
  refine q_xs C0 F hi.2.2.2.1 dL_law_876 ?_
  refine q_mi C0 F (c_X6_throat l y _ (xs (ix (i + 1))) (xs (ix (i + 2))) (xs (ix (i + 3))) (xs (ix (i + 4))) h.2.2.1) yk_X6_throat w_1046 ⟨Nat.le_of_ble_eq_true rfl, Nat.le_of_ble_eq_true rfl⟩ hK rfl rfl (Nat.le_of_ble_eq_true rfl) dL_law_877 ?_
  refine l_icmp_eq C0 1584 dL_law_880 (by decide) (fun _ => ?_) (fun q => absurd E q)
  exact q_wide ⟨Nat.le_succ _, Nat.le_add_right _ 6⟩ (kk _ _ _ h)
theorem case_21 (C0 : jb p s m args c cL_law 8 RL) (F : FX s A z y b L xs o cL N0) (hfl : l.stackTraces = false) (h : RI cg mg) (hi : HI i L) (hRc : kc + 1 ≤ room_1.cells ∧ ks + 6 ≤ room_1.slots) (kk : KK p l e s m args below meth c A (kc + 1) (ks + 6) Q z y b o cL N0 i) : jl p l e room_1 s m args below meth c A kc ks 8 Q (PLw z y o cL N0 cg mg f) 885 [(4, .int i), (3, .ref o), (2, .ref (yad y 0)), (1, .ref (zad z 46)), (0, .ref b)] [] := by
  have hK : kc ≤ room_1.cells ∧ ks ≤ room_1.slots := ⟨Nat.le_of_succ_le hRc.1, Nat.le_trans (Nat.le_add_right _ 6) hRc.2⟩
  have E := eq_lastOnes (cg := cg) (mg := mg)  (xs (ix (i + 1))) (xs (ix (i + 2))) (xs (ix (i + 3)))
  refine l_aload_n C0 3 dL_law_885 rfl rfl ?_
  refine l_aload_n C0 4 dL_law_886 rfl rfl ?_
  refine l_iload C0 0 dL_law_887 rfl ?_
  refine l_iconst C0 (v := 1) dL_law_889 (by decide) ?_
  refine l_iadd C0 dL_law_890 ?_
  refine q_xs C0 F hi.1 dL_law_891 ?_
  refine l_aload_n C0 4 dL_law_892 rfl rfl ?_
  refine l_iload C0 0 dL_law_893 rfl ?_
  refine l_iconst C0 (v := 2) dL_law_895 (by decide) ?_
  refine l_iadd C0 dL_law_896 ?_
  refine q_xs C0 F hi.2.1 dL_law_897 ?_
  refine l_aload_n C0 4 dL_law_898 rfl rfl ?_
  refine l_iload C0 0 dL_law_899 rfl ?_
  refine l_iconst C0 (v := 3) dL_law_901 (by decide) ?_
  refine l_iadd C0 dL_law_902 ?_
  refine q_xs C0 F hi.2.2.1 dL_law_903 ?_
  refine q_ci C0 F (c_X5_lastOnes l z _ (xs (ix (i + 1))) (xs (ix (i + 2))) (xs (ix (i + 3))) h.2.1) yk_X5_lastOnes w_525 ⟨Nat.le_of_ble_eq_true rfl, Nat.le_of_ble_eq_true rfl⟩ hK rfl rfl (Nat.le_of_ble_eq_true rfl) dL_law_904 ?_
  refine l_aload_n C0 2 dL_law_907 rfl rfl ?_
  refine l_aload_n C0 4 dL_law_908 rfl rfl ?_
  refine l_iload C0 0 dL_law_909 rfl ?_
  refine l_iconst C0 (v := 1) dL_law_911 (by decide) ?_
  refine l_iadd C0 dL_law_912 ?_
  refine q_xs C0 F hi.1 dL_law_913 ?_
  refine l_aload_n C0 4 dL_law_914 rfl rfl ?_
  refine l_iload C0 0 dL_law_915 rfl ?_
  refine l_iconst C0 (v := 2) dL_law_917 (by decide) ?_
  refine l_iadd C0 dL_law_918 ?_
  refine q_xs C0 F hi.2.1 dL_law_919 ?_
  refine l_aload_n C0 4 dL_law_920 rfl rfl ?_
  refine l_iload C0 0 dL_law_921 rfl ?_
  refine l_iconst C0 (v := 3) dL_law_923 (by decide) ?_
  refine l_iadd C0 dL_law_924 ?_
  refine q_xs C0 F hi.2.2.1 dL_law_925 ?_
  refine q_mi C0 F (c_X6_lastOnes l y _ (xs (ix (i + 1))) (xs (ix (i + 2))) (xs (ix (i + 3))) h.2.2.1) yk_X6_lastOnes w_1053 ⟨Nat.le_of_ble_eq_true rfl, Nat.le_of_ble_eq_true rfl⟩ hK rfl rfl (Nat.le_of_ble_eq_true rfl) dL_law_926 ?_
  refine l_icmp_eq C0 1584 dL_law_929 (by decide) (fun _ => ?_) (fun q => absurd E q)
  exact q_wide ⟨Nat.le_succ _, Nat.le_add_right _ 6⟩ (kk _ _ _ h)
theorem case_22 (C0 : jb p s m args c cL_law 8 RL) (F : FX s A z y b L xs o cL N0) (hfl : l.stackTraces = false) (h : RI cg mg) (hi : HI i L) (hRc : kc + 1 ≤ room_1.cells ∧ ks + 6 ≤ room_1.slots) (kk : KK p l e s m args below meth c A (kc + 1) (ks + 6) Q z y b o cL N0 i) : jl p l e room_1 s m args below meth c A kc ks 8 Q (PLw z y o cL N0 cg mg f) 934 [(4, .int i), (3, .ref o), (2, .ref (yad y 0)), (1, .ref (zad z 46)), (0, .ref b)] [] := by
  have hK : kc ≤ room_1.cells ∧ ks ≤ room_1.slots := ⟨Nat.le_of_succ_le hRc.1, Nat.le_trans (Nat.le_add_right _ 6) hRc.2⟩
  have E := eq_shares h.1.1.1 h.1.1.2.1 (xs (ix (i + 1)))
  refine l_aload_n C0 3 dL_law_934 rfl rfl ?_
  refine l_aload_n C0 4 dL_law_935 rfl rfl ?_
  refine l_iload C0 0 dL_law_936 rfl ?_
  refine l_iconst C0 (v := 1) dL_law_938 (by decide) ?_
  refine l_iadd C0 dL_law_939 ?_
  refine q_xs C0 F hi.1 dL_law_940 ?_
  refine q_ci C0 F (c_X5_shares l z _ (xs (ix (i + 1))) h.2.1) yk_X5_shares w_529 ⟨Nat.le_of_ble_eq_true rfl, Nat.le_of_ble_eq_true rfl⟩ hK rfl rfl (Nat.le_of_ble_eq_true rfl) dL_law_941 ?_
  refine l_aload_n C0 2 dL_law_944 rfl rfl ?_
  refine l_aload_n C0 4 dL_law_945 rfl rfl ?_
  refine l_iload C0 0 dL_law_946 rfl ?_
  refine l_iconst C0 (v := 1) dL_law_948 (by decide) ?_
  refine l_iadd C0 dL_law_949 ?_
  refine q_xs C0 F hi.1 dL_law_950 ?_
  refine q_mi C0 F (c_X6_shares l y _ (xs (ix (i + 1))) h.2.2.1) yk_X6_shares w_1057 ⟨Nat.le_of_ble_eq_true rfl, Nat.le_of_ble_eq_true rfl⟩ hK rfl rfl (Nat.le_of_ble_eq_true rfl) dL_law_951 ?_
  refine l_icmp_eq C0 1584 dL_law_954 (by decide) (fun _ => ?_) (fun q => absurd E q)
  exact q_wide ⟨Nat.le_succ _, Nat.le_add_right _ 6⟩ (kk _ _ _ h)
theorem case_23 (C0 : jb p s m args c cL_law 8 RL) (F : FX s A z y b L xs o cL N0) (hfl : l.stackTraces = false) (h : RI cg mg) (hi : HI i L) (hRc : kc + 1 ≤ room_1.cells ∧ ks + 6 ≤ room_1.slots) (kk : KK p l e s m args below meth c A (kc + 1) (ks + 6) Q z y b o cL N0 i) : jl p l e room_1 s m args below meth c A kc ks 8 Q (PLw z y o cL N0 cg mg f) 959 [(4, .int i), (3, .ref o), (2, .ref (yad y 0)), (1, .ref (zad z 46)), (0, .ref b)] [] := by
  have hK : kc ≤ room_1.cells ∧ ks ≤ room_1.slots := ⟨Nat.le_of_succ_le hRc.1, Nat.le_trans (Nat.le_add_right _ 6) hRc.2⟩
  have E := eq_crowd (cg := cg) (mg := mg)  (xs (ix (i + 1))) (xs (ix (i + 2))) (xs (ix (i + 3))) (xs (ix (i + 4)))
  refine l_aload_n C0 3 dL_law_959 rfl rfl ?_
  refine l_aload_n C0 4 dL_law_960 rfl rfl ?_
  refine l_iload C0 0 dL_law_961 rfl ?_
  refine l_iconst C0 (v := 1) dL_law_963 (by decide) ?_
  refine l_iadd C0 dL_law_964 ?_
  refine q_xs C0 F hi.1 dL_law_965 ?_
  refine l_aload_n C0 4 dL_law_966 rfl rfl ?_
  refine l_iload C0 0 dL_law_967 rfl ?_
  refine l_iconst C0 (v := 2) dL_law_969 (by decide) ?_
  refine l_iadd C0 dL_law_970 ?_
  refine q_xs C0 F hi.2.1 dL_law_971 ?_
  refine l_aload_n C0 4 dL_law_972 rfl rfl ?_
  refine l_iload C0 0 dL_law_973 rfl ?_
  refine l_iconst C0 (v := 3) dL_law_975 (by decide) ?_
  refine l_iadd C0 dL_law_976 ?_
  refine q_xs C0 F hi.2.2.1 dL_law_977 ?_
  refine l_aload_n C0 4 dL_law_978 rfl rfl ?_
  refine l_iload C0 0 dL_law_979 rfl ?_
  refine l_iconst C0 (v := 4) dL_law_981 (by decide) ?_
  refine l_iadd C0 dL_law_982 ?_
  refine q_xs C0 F hi.2.2.2.1 dL_law_983 ?_
  refine q_cl C0 F (c_X5_crowd l z _ (xs (ix (i + 1))) (xs (ix (i + 2))) (xs (ix (i + 3))) (xs (ix (i + 4))) h.2.1) yk_X5_crowd w_537 ⟨Nat.le_of_ble_eq_true rfl, Nat.le_of_ble_eq_true rfl⟩ hK rfl rfl (Nat.le_of_ble_eq_true rfl) dL_law_984 ?_
  refine l_aload_n C0 2 dL_law_987 rfl rfl ?_
  refine l_aload_n C0 4 dL_law_988 rfl rfl ?_
  refine l_iload C0 0 dL_law_989 rfl ?_
  refine l_iconst C0 (v := 1) dL_law_991 (by decide) ?_
  refine l_iadd C0 dL_law_992 ?_
  refine q_xs C0 F hi.1 dL_law_993 ?_
  refine l_aload_n C0 4 dL_law_994 rfl rfl ?_
  refine l_iload C0 0 dL_law_995 rfl ?_
  refine l_iconst C0 (v := 2) dL_law_997 (by decide) ?_
  refine l_iadd C0 dL_law_998 ?_
  refine q_xs C0 F hi.2.1 dL_law_999 ?_
  refine l_aload_n C0 4 dL_law_1000 rfl rfl ?_
  refine l_iload C0 0 dL_law_1001 rfl ?_
  refine l_iconst C0 (v := 3) dL_law_1003 (by decide) ?_
  refine l_iadd C0 dL_law_1004 ?_
  refine q_xs C0 F hi.2.2.1 dL_law_1005 ?_
  refine l_aload_n C0 4 dL_law_1006 rfl rfl ?_
  refine l_iload C0 0 dL_law_1007 rfl ?_
  refine l_iconst C0 (v := 4) dL_law_1009 (by decide) ?_
  refine l_iadd C0 dL_law_1010 ?_
  refine q_xs C0 F hi.2.2.2.1 dL_law_1011 ?_
  refine q_ml C0 F (c_X6_crowd l y _ (xs (ix (i + 1))) (xs (ix (i + 2))) (xs (ix (i + 3))) (xs (ix (i + 4)))) yk_X6_crowd w_1069 ⟨Nat.le_of_ble_eq_true rfl, Nat.le_of_ble_eq_true rfl⟩ hK rfl rfl (Nat.le_of_ble_eq_true rfl) dL_law_1012 ?_
  refine l_lcmp C0 dL_law_1015 ?_
  refine l_if_eq C0 1584 dL_law_1016 (by decide) (fun _ => ?_) (fun q => absurd (by rw [E]; exact lgc0 _) q)
  exact q_wide ⟨Nat.le_succ _, Nat.le_add_right _ 6⟩ (kk _ _ _ h)
theorem case_24 (C0 : jb p s m args c cL_law 8 RL) (F : FX s A z y b L xs o cL N0) (hfl : l.stackTraces = false) (h : RI cg mg) (hi : HI i L) (hRc : kc + 1 ≤ room_1.cells ∧ ks + 6 ≤ room_1.slots) (kk : KK p l e s m args below meth c A (kc + 1) (ks + 6) Q z y b o cL N0 i) : jl p l e room_1 s m args below meth c A kc ks 8 Q (PLw z y o cL N0 cg mg f) 1021 [(4, .int i), (3, .ref o), (2, .ref (yad y 0)), (1, .ref (zad z 46)), (0, .ref b)] [] := by
  have hK : kc ≤ room_1.cells ∧ ks ≤ room_1.slots := ⟨Nat.le_of_succ_le hRc.1, Nat.le_trans (Nat.le_add_right _ 6) hRc.2⟩
  have E := eq_mean h.1.1.1 h.1.1.2.1 (xs (ix (i + 1)))
  refine l_aload_n C0 3 dL_law_1021 rfl rfl ?_
  refine l_aload_n C0 4 dL_law_1022 rfl rfl ?_
  refine l_iload C0 0 dL_law_1023 rfl ?_
  refine l_iconst C0 (v := 1) dL_law_1025 (by decide) ?_
  refine l_iadd C0 dL_law_1026 ?_
  refine q_xs C0 F hi.1 dL_law_1027 ?_
  refine q_cl C0 F (c_X5_mean l z _ (xs (ix (i + 1))) h.2.1) yk_X5_mean w_557 ⟨Nat.le_of_ble_eq_true rfl, Nat.le_of_ble_eq_true rfl⟩ hK rfl rfl (Nat.le_of_ble_eq_true rfl) dL_law_1028 ?_
  refine l_aload_n C0 2 dL_law_1031 rfl rfl ?_
  refine l_aload_n C0 4 dL_law_1032 rfl rfl ?_
  refine l_iload C0 0 dL_law_1033 rfl ?_
  refine l_iconst C0 (v := 1) dL_law_1035 (by decide) ?_
  refine l_iadd C0 dL_law_1036 ?_
  refine q_xs C0 F hi.1 dL_law_1037 ?_
  refine q_ml C0 F (c_X6_mean l y _ (xs (ix (i + 1))) h.2.2.1 (hu_in h.1.1.2.1).1) yk_X6_mean w_1080 ⟨Nat.le_of_ble_eq_true rfl, Nat.le_of_ble_eq_true rfl⟩ hK rfl rfl (Nat.le_of_ble_eq_true rfl) dL_law_1038 ?_
  refine l_lcmp C0 dL_law_1041 ?_
  refine l_if_eq C0 1584 dL_law_1042 (by decide) (fun _ => ?_) (fun q => absurd (by rw [E]; exact lgc0 _) q)
  exact q_wide ⟨Nat.le_succ _, Nat.le_add_right _ 6⟩ (kk _ _ _ h)
end LAWC
