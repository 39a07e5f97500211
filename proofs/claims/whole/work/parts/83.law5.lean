section LAWC
variable {p : Program} {l : Launch} {e : Env} {s : State} {m : MethodId} {args : Array Value} {below : List Frame} {meth : Method} {c : Code} {A : Nat → Prop} {kc ks : Nat} {Q : State → Prop} {z : ZC} {y : ZM} {b L : Nat} {xs : Nat → Int32} {o : Nat} {cL : ClassId} {N0 : Nat} {cg mg : Mem} {f : Nat → Int64} {i : Int32}
theorem case_25 (C0 : jb p s m args c cL_law 8 RL) (F : FX s A z y b L xs o cL N0) (hfl : l.stackTraces = false) (h : RI cg mg) (hi : HI i L) (hRc : kc + 1 ≤ room_1.cells ∧ ks + 6 ≤ room_1.slots) (kk : KK p l e s m args below meth c A (kc + 1) (ks + 6) Q z y b o cL N0 i) : jl p l e room_1 s m args below meth c A kc ks 8 Q (PLw z y o cL N0 cg mg f) 1047 [(4, .int i), (3, .ref o), (2, .ref (yad y 0)), (1, .ref (zad z 46)), (0, .ref b)] [] := by
  have hK : kc ≤ room_1.cells ∧ ks ≤ room_1.slots := ⟨Nat.le_of_succ_le hRc.1, Nat.le_trans (Nat.le_add_right _ 6) hRc.2⟩
  have E := eq_joyless h.1.1.1
  refine l_aload_n C0 3 dL_law_1047 rfl rfl ?_
  refine q_ci C0 F (c_X5_joyless l z _ h.2.1) yk_X5_joyless w_561 ⟨Nat.le_of_ble_eq_true rfl, Nat.le_of_ble_eq_true rfl⟩ hK rfl rfl (Nat.le_of_ble_eq_true rfl) dL_law_1048 ?_
  refine l_aload_n C0 2 dL_law_1051 rfl rfl ?_
  refine q_mi C0 F (c_X6_joyless l y _ h.2.2.1) yk_X6_joyless w_1084 ⟨Nat.le_of_ble_eq_true rfl, Nat.le_of_ble_eq_true rfl⟩ hK rfl rfl (Nat.le_of_ble_eq_true rfl) dL_law_1052 ?_
  refine l_icmp_eq C0 1584 dL_law_1055 (by decide) (fun _ => ?_) (fun q => absurd E q)
  exact q_wide ⟨Nat.le_succ _, Nat.le_add_right _ 6⟩ (kk _ _ _ h)
theorem case_26 (C0 : jb p s m args c cL_law 8 RL) (F : FX s A z y b L xs o cL N0) (hfl : l.stackTraces = false) (h : RI cg mg) (hi : HI i L) (hRc : kc + 1 ≤ room_1.cells ∧ ks + 6 ≤ room_1.slots) (kk : KK p l e s m args below meth c A (kc + 1) (ks + 6) Q z y b o cL N0 i) : jl p l e room_1 s m args below meth c A kc ks 8 Q (PLw z y o cL N0 cg mg f) 1060 [(4, .int i), (3, .ref o), (2, .ref (yad y 0)), (1, .ref (zad z 46)), (0, .ref b)] [] := by
  have hK : kc ≤ room_1.cells ∧ ks ≤ room_1.slots := ⟨Nat.le_of_succ_le hRc.1, Nat.le_trans (Nat.le_add_right _ 6) hRc.2⟩
  have E := eq_seen h.1.1.1 h.1.1.2.1 (xs (ix (i + 1)))
  refine l_aload_n C0 3 dL_law_1060 rfl rfl ?_
  refine l_aload_n C0 4 dL_law_1061 rfl rfl ?_
  refine l_iload C0 0 dL_law_1062 rfl ?_
  refine l_iconst C0 (v := 1) dL_law_1064 (by decide) ?_
  refine l_iadd C0 dL_law_1065 ?_
  refine q_xs C0 F hi.1 dL_law_1066 ?_
  refine q_ci C0 F (c_X5_seen l z _ (xs (ix (i + 1))) h.2.1) yk_X5_seen w_565 ⟨Nat.le_of_ble_eq_true rfl, Nat.le_of_ble_eq_true rfl⟩ hK rfl rfl (Nat.le_of_ble_eq_true rfl) dL_law_1067 ?_
  refine l_aload_n C0 2 dL_law_1070 rfl rfl ?_
  refine l_aload_n C0 4 dL_law_1071 rfl rfl ?_
  refine l_iload C0 0 dL_law_1072 rfl ?_
  refine l_iconst C0 (v := 1) dL_law_1074 (by decide) ?_
  refine l_iadd C0 dL_law_1075 ?_
  refine q_xs C0 F hi.1 dL_law_1076 ?_
  refine q_mi C0 F (c_X6_seen l y _ (xs (ix (i + 1))) h.2.2.1) yk_X6_seen w_1088 ⟨Nat.le_of_ble_eq_true rfl, Nat.le_of_ble_eq_true rfl⟩ hK rfl rfl (Nat.le_of_ble_eq_true rfl) dL_law_1077 ?_
  refine l_icmp_eq C0 1584 dL_law_1080 (by decide) (fun _ => ?_) (fun q => absurd E q)
  exact q_wide ⟨Nat.le_succ _, Nat.le_add_right _ 6⟩ (kk _ _ _ h)
theorem case_27 (C0 : jb p s m args c cL_law 8 RL) (F : FX s A z y b L xs o cL N0) (hfl : l.stackTraces = false) (h : RI cg mg) (hi : HI i L) (hRc : kc + 1 ≤ room_1.cells ∧ ks + 6 ≤ room_1.slots) (kk : KK p l e s m args below meth c A (kc + 1) (ks + 6) Q z y b o cL N0 i) : jl p l e room_1 s m args below meth c A kc ks 8 Q (PLw z y o cL N0 cg mg f) 1085 [(4, .int i), (3, .ref o), (2, .ref (yad y 0)), (1, .ref (zad z 46)), (0, .ref b)] [] := by
  have hK : kc ≤ room_1.cells ∧ ks ≤ room_1.slots := ⟨Nat.le_of_succ_le hRc.1, Nat.le_trans (Nat.le_add_right _ 6) hRc.2⟩
  have E := eq_forged h (xs (ix (i + 1)))
  refine l_aload_n C0 3 dL_law_1085 rfl rfl ?_
  refine l_aload_n C0 4 dL_law_1086 rfl rfl ?_
  refine l_iload C0 0 dL_law_1087 rfl ?_
  refine l_iconst C0 (v := 1) dL_law_1089 (by decide) ?_
  refine l_iadd C0 dL_law_1090 ?_
  refine q_xs C0 F hi.1 dL_law_1091 ?_
  refine q_ci C0 F (c_X5_forged l z _ (xs (ix (i + 1))) h.2.1) yk_X5_forged w_573 ⟨Nat.le_of_ble_eq_true rfl, Nat.le_of_ble_eq_true rfl⟩ hK rfl rfl (Nat.le_of_ble_eq_true rfl) dL_law_1092 ?_
  refine l_aload_n C0 2 dL_law_1095 rfl rfl ?_
  refine l_aload_n C0 4 dL_law_1096 rfl rfl ?_
  refine l_iload C0 0 dL_law_1097 rfl ?_
  refine l_iconst C0 (v := 1) dL_law_1099 (by decide) ?_
  refine l_iadd C0 dL_law_1100 ?_
  refine q_xs C0 F hi.1 dL_law_1101 ?_
  refine q_mi C0 F (c_X6_forged l y _ (xs (ix (i + 1))) h.2.2.1) yk_X6_forged w_1092 ⟨Nat.le_of_ble_eq_true rfl, Nat.le_of_ble_eq_true rfl⟩ hK rfl rfl (Nat.le_of_ble_eq_true rfl) dL_law_1102 ?_
  refine l_icmp_eq C0 1584 dL_law_1105 (by decide) (fun _ => ?_) (fun q => absurd E.1 q)
  exact q_wide ⟨Nat.le_succ _, Nat.le_add_right _ 6⟩ (kk _ _ _ E.2)
theorem case_28 (C0 : jb p s m args c cL_law 8 RL) (F : FX s A z y b L xs o cL N0) (hfl : l.stackTraces = false) (h : RI cg mg) (hi : HI i L) (hRc : kc + 1 ≤ room_1.cells ∧ ks + 6 ≤ room_1.slots) (kk : KK p l e s m args below meth c A (kc + 1) (ks + 6) Q z y b o cL N0 i) : jl p l e room_1 s m args below meth c A kc ks 8 Q (PLw z y o cL N0 cg mg f) 1110 [(4, .int i), (3, .ref o), (2, .ref (yad y 0)), (1, .ref (zad z 46)), (0, .ref b)] [] := by
  have hK : kc ≤ room_1.cells ∧ ks ≤ room_1.slots := ⟨Nat.le_of_succ_le hRc.1, Nat.le_trans (Nat.le_add_right _ 6) hRc.2⟩
  have E := eq_judge h (xs (ix (i + 1)))
  refine l_aload_n C0 3 dL_law_1110 rfl rfl ?_
  refine l_aload_n C0 4 dL_law_1111 rfl rfl ?_
  refine l_iload C0 0 dL_law_1112 rfl ?_
  refine l_iconst C0 (v := 1) dL_law_1114 (by decide) ?_
  refine l_iadd C0 dL_law_1115 ?_
  refine q_xs C0 F hi.1 dL_law_1116 ?_
  refine q_ci C0 F (c_X5_judge l z _ (xs (ix (i + 1))) h.2.1) yk_X5_judge w_577 ⟨Nat.le_of_ble_eq_true rfl, Nat.le_of_ble_eq_true rfl⟩ hK rfl rfl (Nat.le_of_ble_eq_true rfl) dL_law_1117 ?_
  refine l_aload_n C0 2 dL_law_1120 rfl rfl ?_
  refine l_aload_n C0 4 dL_law_1121 rfl rfl ?_
  refine l_iload C0 0 dL_law_1122 rfl ?_
  refine l_iconst C0 (v := 1) dL_law_1124 (by decide) ?_
  refine l_iadd C0 dL_law_1125 ?_
  refine q_xs C0 F hi.1 dL_law_1126 ?_
  refine q_mi C0 F (c_X6_judge l y _ (xs (ix (i + 1))) h.2.2.1) yk_X6_judge w_1096 ⟨Nat.le_of_ble_eq_true rfl, Nat.le_of_ble_eq_true rfl⟩ hK rfl rfl (Nat.le_of_ble_eq_true rfl) dL_law_1127 ?_
  refine l_icmp_eq C0 1584 dL_law_1130 (by decide) (fun _ => ?_) (fun q => absurd E.1 q)
  exact q_wide ⟨Nat.le_succ _, Nat.le_add_right _ 6⟩ (kk _ _ _ E.2)
theorem case_29 (C0 : jb p s m args c cL_law 8 RL) (F : FX s A z y b L xs o cL N0) (hfl : l.stackTraces = false) (h : RI cg mg) (hi : HI i L) (hRc : kc + 1 ≤ room_1.cells ∧ ks + 6 ≤ room_1.slots) (kk : KK p l e s m args below meth c A (kc + 1) (ks + 6) Q z y b o cL N0 i) : jl p l e room_1 s m args below meth c A kc ks 8 Q (PLw z y o cL N0 cg mg f) 1135 [(4, .int i), (3, .ref o), (2, .ref (yad y 0)), (1, .ref (zad z 46)), (0, .ref b)] [] := by
  have hK : kc ≤ room_1.cells ∧ ks ≤ room_1.slots := ⟨Nat.le_of_succ_le hRc.1, Nat.le_trans (Nat.le_add_right _ 6) hRc.2⟩
  have E := eq_fetes h (xs (ix (i + 1))) (xs (ix (i + 2))) (xs (ix (i + 3)))
  refine l_aload_n C0 3 dL_law_1135 rfl rfl ?_
  refine l_aload_n C0 4 dL_law_1136 rfl rfl ?_
  refine l_iload C0 0 dL_law_1137 rfl ?_
  refine l_iconst C0 (v := 1) dL_law_1139 (by decide) ?_
  refine l_iadd C0 dL_law_1140 ?_
  refine q_xs C0 F hi.1 dL_law_1141 ?_
  refine l_aload_n C0 4 dL_law_1142 rfl rfl ?_
  refine l_iload C0 0 dL_law_1143 rfl ?_
  refine l_iconst C0 (v := 2) dL_law_1145 (by decide) ?_
  refine l_iadd C0 dL_law_1146 ?_
  refine q_xs C0 F hi.2.1 dL_law_1147 ?_
  refine l_aload_n C0 4 dL_law_1148 rfl rfl ?_
  refine l_iload C0 0 dL_law_1149 rfl ?_
  refine l_iconst C0 (v := 3) dL_law_1151 (by decide) ?_
  refine l_iadd C0 dL_law_1152 ?_
  refine q_xs C0 F hi.2.2.1 dL_law_1153 ?_
  refine q_ci C0 F (c_X5_fetes l z _ (xs (ix (i + 1))) (xs (ix (i + 2))) (xs (ix (i + 3))) h.2.1) yk_X5_fetes w_586 ⟨Nat.le_of_ble_eq_true rfl, Nat.le_of_ble_eq_true rfl⟩ hK rfl rfl (Nat.le_of_ble_eq_true rfl) dL_law_1154 ?_
  refine l_aload_n C0 2 dL_law_1157 rfl rfl ?_
  refine l_aload_n C0 4 dL_law_1158 rfl rfl ?_
  refine l_iload C0 0 dL_law_1159 rfl ?_
  refine l_iconst C0 (v := 1) dL_law_1161 (by decide) ?_
  refine l_iadd C0 dL_law_1162 ?_
  refine q_xs C0 F hi.1 dL_law_1163 ?_
  refine l_aload_n C0 4 dL_law_1164 rfl rfl ?_
  refine l_iload C0 0 dL_law_1165 rfl ?_
  refine l_iconst C0 (v := 2) dL_law_1167 (by decide) ?_
  refine l_iadd C0 dL_law_1168 ?_
  refine q_xs C0 F hi.2.1 dL_law_1169 ?_
  refine l_aload_n C0 4 dL_law_1170 rfl rfl ?_
  refine l_iload C0 0 dL_law_1171 rfl ?_
  refine l_iconst C0 (v := 3) dL_law_1173 (by decide) ?_
  refine l_iadd C0 dL_law_1174 ?_
  refine q_xs C0 F hi.2.2.1 dL_law_1175 ?_
  refine q_mi C0 F (c_X6_fetes l y _ (xs (ix (i + 1))) (xs (ix (i + 2))) (xs (ix (i + 3))) h.2.2.1) yk_X6_fetes w_1104 ⟨Nat.le_of_ble_eq_true rfl, Nat.le_of_ble_eq_true rfl⟩ hK rfl rfl (Nat.le_of_ble_eq_true rfl) dL_law_1176 ?_
  refine l_icmp_eq C0 1584 dL_law_1179 (by decide) (fun _ => ?_) (fun q => absurd E.1 q)
  exact q_wide ⟨Nat.le_succ _, Nat.le_add_right _ 6⟩ (kk _ _ _ E.2)
end LAWC
