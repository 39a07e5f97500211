section LAWC
variable {p : Program} {l : Launch} {e : Env} {s : State} {m : MethodId} {args : Array Value} {below : List Frame} {meth : Method} {c : Code} {A : Nat → Prop} {kc ks : Nat} {Q : State → Prop} {z : ZC} {y : ZM} {b L : Nat} {xs : Nat → Int32} {o : Nat} {cL : ClassId} {N0 : Nat} {cg mg : Mem} {f : Nat → Int64} {i : Int32}
theorem case_30 (C0 : jb p s m args c cL_law 8 RL) (F : FX s A z y b L xs o cL N0) (hfl : l.stackTraces = false) (h : RI cg mg) (hi : HI i L) (hRc : kc + 1 ≤ room_1.cells ∧ ks + 6 ≤ room_1.slots) (kk : KK p l e s m args below meth c A (kc + 1) (ks + 6) Q z y b o cL N0 i) : jl p l e room_1 s m args below meth c A kc ks 8 Q (PLw z y o cL N0 cg mg f) 1184 [(4, .int i), (3, .ref o), (2, .ref (yad y 0)), (1, .ref (zad z 46)), (0, .ref b)] [] := by
  have hK : kc ≤ room_1.cells ∧ ks ≤ room_1.slots := ⟨Nat.le_of_succ_le hRc.1, Nat.le_trans (Nat.le_add_right _ 6) hRc.2⟩
  have E := st_image h
  refine l_aload_n C0 3 dL_law_1184 rfl rfl ?_
  refine q_ci C0 F (c_X5_image l z _ h.2.1) yk_X5_image w_599 ⟨Nat.le_of_ble_eq_true rfl, Nat.le_of_ble_eq_true rfl⟩ hK rfl rfl (Nat.le_of_ble_eq_true rfl) dL_law_1185 ?_
  refine l_aload_n C0 2 dL_law_1188 rfl rfl ?_
  refine q_mi C0 F (c_X6_image l y _ h.2.2.1) yk_X6_image w_1115 ⟨Nat.le_of_ble_eq_true rfl, Nat.le_of_ble_eq_true rfl⟩ hK rfl rfl (Nat.le_of_ble_eq_true rfl) dL_law_1189 ?_
  refine l_icmp_eq C0 1584 dL_law_1192 (by decide) (fun _ => ?_) (fun q => absurd E.1 q)
  exact q_wide ⟨Nat.le_succ _, Nat.le_add_right _ 6⟩ (kk _ _ _ E.2)
theorem case_31 (C0 : jb p s m args c cL_law 8 RL) (F : FX s A z y b L xs o cL N0) (hfl : l.stackTraces = false) (h : RI cg mg) (hi : HI i L) (hRc : kc + 1 ≤ room_1.cells ∧ ks + 6 ≤ room_1.slots) (kk : KK p l e s m args below meth c A (kc + 1) (ks + 6) Q z y b o cL N0 i) : jl p l e room_1 s m args below meth c A kc ks 8 Q (PLw z y o cL N0 cg mg f) 1197 [(4, .int i), (3, .ref o), (2, .ref (yad y 0)), (1, .ref (zad z 46)), (0, .ref b)] [] := by
  have hK : kc ≤ room_1.cells ∧ ks ≤ room_1.slots := ⟨Nat.le_of_succ_le hRc.1, Nat.le_trans (Nat.le_add_right _ 6) hRc.2⟩
  have E := st_restore h
  refine l_aload_n C0 3 dL_law_1197 rfl rfl ?_
  refine q_ci C0 F (c_X5_restore l z _ h.2.1) yk_X5_restore w_603 ⟨Nat.le_of_ble_eq_true rfl, Nat.le_of_ble_eq_true rfl⟩ hK rfl rfl (Nat.le_of_ble_eq_true rfl) dL_law_1198 ?_
  refine l_aload_n C0 2 dL_law_1201 rfl rfl ?_
  refine q_mi C0 F (c_X6_restore l y _ h.2.2.1) yk_X6_restore w_1119 ⟨Nat.le_of_ble_eq_true rfl, Nat.le_of_ble_eq_true rfl⟩ hK rfl rfl (Nat.le_of_ble_eq_true rfl) dL_law_1202 ?_
  refine l_icmp_eq C0 1584 dL_law_1205 (by decide) (fun _ => ?_) (fun q => absurd E.1 q)
  exact q_wide ⟨Nat.le_succ _, Nat.le_add_right _ 6⟩ (kk _ _ _ E.2)
theorem case_32 (C0 : jb p s m args c cL_law 8 RL) (F : FX s A z y b L xs o cL N0) (hfl : l.stackTraces = false) (h : RI cg mg) (hi : HI i L) (hRc : kc + 1 ≤ room_1.cells ∧ ks + 6 ≤ room_1.slots) (kk : KK p l e s m args below meth c A (kc + 1) (ks + 6) Q z y b o cL N0 i) : jl p l e room_1 s m args below meth c A kc ks 8 Q (PLw z y o cL N0 cg mg f) 1210 [(4, .int i), (3, .ref o), (2, .ref (yad y 0)), (1, .ref (zad z 46)), (0, .ref b)] [] := by
  have hK : kc ≤ room_1.cells ∧ ks ≤ room_1.slots := ⟨Nat.le_of_succ_le hRc.1, Nat.le_trans (Nat.le_add_right _ 6) hRc.2⟩
  have E := eq_count h.1.1.1 (xs (ix (i + 1)))
  refine l_aload_n C0 3 dL_law_1210 rfl rfl ?_
  refine l_aload_n C0 4 dL_law_1211 rfl rfl ?_
  refine l_iload C0 0 dL_law_1212 rfl ?_
  refine l_iconst C0 (v := 1) dL_law_1214 (by decide) ?_
  refine l_iadd C0 dL_law_1215 ?_
  refine q_xs C0 F hi.1 dL_law_1216 ?_
  refine q_ci C0 F (c_X5_count l z _ (xs (ix (i + 1))) h.2.1) yk_X5_count w_607 ⟨Nat.le_of_ble_eq_true rfl, Nat.le_of_ble_eq_true rfl⟩ hK rfl rfl (Nat.le_of_ble_eq_true rfl) dL_law_1217 ?_
  refine l_aload_n C0 2 dL_law_1220 rfl rfl ?_
  refine l_aload_n C0 4 dL_law_1221 rfl rfl ?_
  refine l_iload C0 0 dL_law_1222 rfl ?_
  refine l_iconst C0 (v := 1) dL_law_1224 (by decide) ?_
  refine l_iadd C0 dL_law_1225 ?_
  refine q_xs C0 F hi.1 dL_law_1226 ?_
  refine q_mi C0 F (c_X6_count l y _ (xs (ix (i + 1))) h.2.2.1) yk_X6_count w_1123 ⟨Nat.le_of_ble_eq_true rfl, Nat.le_of_ble_eq_true rfl⟩ hK rfl rfl (Nat.le_of_ble_eq_true rfl) dL_law_1227 ?_
  refine l_icmp_eq C0 1584 dL_law_1230 (by decide) (fun _ => ?_) (fun q => absurd E q)
  exact q_wide ⟨Nat.le_succ _, Nat.le_add_right _ 6⟩ (kk _ _ _ h)
theorem case_33 (C0 : jb p s m args c cL_law 8 RL) (F : FX s A z y b L xs o cL N0) (hfl : l.stackTraces = false) (h : RI cg mg) (hi : HI i L) (hRc : kc + 1 ≤ room_1.cells ∧ ks + 6 ≤ room_1.slots) (kk : KK p l e s m args below meth c A (kc + 1) (ks + 6) Q z y b o cL N0 i) : jl p l e room_1 s m args below meth c A kc ks 8 Q (PLw z y o cL N0 cg mg f) 1235 [(4, .int i), (3, .ref o), (2, .ref (yad y 0)), (1, .ref (zad z 46)), (0, .ref b)] [] := by
  have hK : kc ≤ room_1.cells ∧ ks ≤ room_1.slots := ⟨Nat.le_of_succ_le hRc.1, Nat.le_trans (Nat.le_add_right _ 6) hRc.2⟩
  have E := st_keep h (xs (ix (i + 1))) (xs (ix (i + 2))) (xs (ix (i + 3))) (xs (ix (i + 4)))
  refine l_aload_n C0 3 dL_law_1235 rfl rfl ?_
  refine l_aload_n C0 4 dL_law_1236 rfl rfl ?_
  refine l_iload C0 0 dL_law_1237 rfl ?_
  refine l_iconst C0 (v := 1) dL_law_1239 (by decide) ?_
  refine l_iadd C0 dL_law_1240 ?_
  refine q_xs C0 F hi.1 dL_law_1241 ?_
  refine l_aload_n C0 4 dL_law_1242 rfl rfl ?_
  refine l_iload C0 0 dL_law_1243 rfl ?_
  refine l_iconst C0 (v := 2) dL_law_1245 (by decide) ?_
  refine l_iadd C0 dL_law_1246 ?_
  refine q_xs C0 F hi.2.1 dL_law_1247 ?_
  refine l_aload_n C0 4 dL_law_1248 rfl rfl ?_
  refine l_iload C0 0 dL_law_1249 rfl ?_
  refine l_iconst C0 (v := 3) dL_law_1251 (by decide) ?_
  refine l_iadd C0 dL_law_1252 ?_
  refine q_xs C0 F hi.2.2.1 dL_law_1253 ?_
  refine l_aload_n C0 4 dL_law_1254 rfl rfl ?_
  refine l_iload C0 0 dL_law_1255 rfl ?_
  refine l_iconst C0 (v := 4) dL_law_1257 (by decide) ?_
  refine l_iadd C0 dL_law_1258 ?_
  refine q_xs C0 F hi.2.2.2.1 dL_law_1259 ?_
  refine q_ci C0 F (c_X5_keep l z _ (xs (ix (i + 1))) (xs (ix (i + 2))) (xs (ix (i + 3))) (xs (ix (i + 4))) h.2.1) yk_X5_keep w_623 ⟨Nat.le_of_ble_eq_true rfl, Nat.le_of_ble_eq_true rfl⟩ hK rfl rfl (Nat.le_of_ble_eq_true rfl) dL_law_1260 ?_
  refine l_aload_n C0 2 dL_law_1263 rfl rfl ?_
  refine l_aload_n C0 4 dL_law_1264 rfl rfl ?_
  refine l_iload C0 0 dL_law_1265 rfl ?_
  refine l_iconst C0 (v := 1) dL_law_1267 (by decide) ?_
  refine l_iadd C0 dL_law_1268 ?_
  refine q_xs C0 F hi.1 dL_law_1269 ?_
  refine l_aload_n C0 4 dL_law_1270 rfl rfl ?_
  refine l_iload C0 0 dL_law_1271 rfl ?_
  refine l_iconst C0 (v := 2) dL_law_1273 (by decide) ?_
  refine l_iadd C0 dL_law_1274 ?_
  refine q_xs C0 F hi.2.1 dL_law_1275 ?_
  refine l_aload_n C0 4 dL_law_1276 rfl rfl ?_
  refine l_iload C0 0 dL_law_1277 rfl ?_
  refine l_iconst C0 (v := 3) dL_law_1279 (by decide) ?_
  refine l_iadd C0 dL_law_1280 ?_
  refine q_xs C0 F hi.2.2.1 dL_law_1281 ?_
  refine l_aload_n C0 4 dL_law_1282 rfl rfl ?_
  refine l_iload C0 0 dL_law_1283 rfl ?_
  refine l_iconst C0 (v := 4) dL_law_1285 (by decide) ?_
  refine l_iadd C0 dL_law_1286 ?_
  refine q_xs C0 F hi.2.2.2.1 dL_law_1287 ?_
  refine q_mi C0 F (c_X6_keep l y _ (xs (ix (i + 1))) (xs (ix (i + 2))) (xs (ix (i + 3))) (xs (ix (i + 4))) h.2.2.1) yk_X6_keep w_1131 ⟨Nat.le_of_ble_eq_true rfl, Nat.le_of_ble_eq_true rfl⟩ hK rfl rfl (Nat.le_of_ble_eq_true rfl) dL_law_1288 ?_
  refine l_icmp_eq C0 1584 dL_law_1291 (by decide) (fun _ => ?_) (fun q => absurd E.1 q)
  exact q_wide ⟨Nat.le_succ _, Nat.le_add_right _ 6⟩ (kk _ _ _ E.2)
theorem case_34 (C0 : jb p s m args c cL_law 8 RL) (F : FX s A z y b L xs o cL N0) (hfl : l.stackTraces = false) (h : RI cg mg) (hi : HI i L) (hRc : kc + 1 ≤ room_1.cells ∧ ks + 6 ≤ room_1.slots) (kk : KK p l e s m args below meth c A (kc + 1) (ks + 6) Q z y b o cL N0 i) : jl p l e room_1 s m args below meth c A kc ks 8 Q (PLw z y o cL N0 cg mg f) 1296 [(4, .int i), (3, .ref o), (2, .ref (yad y 0)), (1, .ref (zad z 46)), (0, .ref b)] [] := by
  have hK : kc ≤ room_1.cells ∧ ks ≤ room_1.slots := ⟨Nat.le_of_succ_le hRc.1, Nat.le_trans (Nat.le_add_right _ 6) hRc.2⟩
  have E := st_row h (xs (ix (i + 1))) (xs (ix (i + 2))) (xs (ix (i + 3)))
  refine l_aload_n C0 3 dL_law_1296 rfl rfl ?_
  refine l_aload_n C0 4 dL_law_1297 rfl rfl ?_
  refine l_iload C0 0 dL_law_1298 rfl ?_
  refine l_iconst C0 (v := 1) dL_law_1300 (by decide) ?_
  refine l_iadd C0 dL_law_1301 ?_
  refine q_xs C0 F hi.1 dL_law_1302 ?_
  refine l_aload_n C0 4 dL_law_1303 rfl rfl ?_
  refine l_iload C0 0 dL_law_1304 rfl ?_
  refine l_iconst C0 (v := 2) dL_law_1306 (by decide) ?_
  refine l_iadd C0 dL_law_1307 ?_
  refine q_xs C0 F hi.2.1 dL_law_1308 ?_
  refine l_aload_n C0 4 dL_law_1309 rfl rfl ?_
  refine l_iload C0 0 dL_law_1310 rfl ?_
  refine l_iconst C0 (v := 3) dL_law_1312 (by decide) ?_
  refine l_iadd C0 dL_law_1313 ?_
  refine q_xs C0 F hi.2.2.1 dL_law_1314 ?_
  refine q_ci C0 F (c_X5_row l z _ (xs (ix (i + 1))) (xs (ix (i + 2))) (xs (ix (i + 3))) h.2.1) yk_X5_row w_631 ⟨Nat.le_of_ble_eq_true rfl, Nat.le_of_ble_eq_true rfl⟩ hK rfl rfl (Nat.le_of_ble_eq_true rfl) dL_law_1315 ?_
  refine l_aload_n C0 2 dL_law_1318 rfl rfl ?_
  refine l_aload_n C0 4 dL_law_1319 rfl rfl ?_
  refine l_iload C0 0 dL_law_1320 rfl ?_
  refine l_iconst C0 (v := 1) dL_law_1322 (by decide) ?_
  refine l_iadd C0 dL_law_1323 ?_
  refine q_xs C0 F hi.1 dL_law_1324 ?_
  refine l_aload_n C0 4 dL_law_1325 rfl rfl ?_
  refine l_iload C0 0 dL_law_1326 rfl ?_
  refine l_iconst C0 (v := 2) dL_law_1328 (by decide) ?_
  refine l_iadd C0 dL_law_1329 ?_
  refine q_xs C0 F hi.2.1 dL_law_1330 ?_
  refine l_aload_n C0 4 dL_law_1331 rfl rfl ?_
  refine l_iload C0 0 dL_law_1332 rfl ?_
  refine l_iconst C0 (v := 3) dL_law_1334 (by decide) ?_
  refine l_iadd C0 dL_law_1335 ?_
  refine q_xs C0 F hi.2.2.1 dL_law_1336 ?_
  refine q_mi C0 F (c_X6_row l y _ (xs (ix (i + 1))) (xs (ix (i + 2))) (xs (ix (i + 3))) h.2.2.1) yk_X6_row w_1135 ⟨Nat.le_of_ble_eq_true rfl, Nat.le_of_ble_eq_true rfl⟩ hK rfl rfl (Nat.le_of_ble_eq_true rfl) dL_law_1337 ?_
  refine l_icmp_eq C0 1584 dL_law_1340 (by decide) (fun _ => ?_) (fun q => absurd E.1 q)
  exact q_wide ⟨Nat.le_succ _, Nat.le_add_right _ 6⟩ (kk _ _ _ E.2)
end LAWC
