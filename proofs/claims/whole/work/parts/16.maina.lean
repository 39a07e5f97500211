def f_J6_bitCount_0f7a4 (p0 : Int32) : Int32 := ((((((((p0 - (((p0.toUInt32 >>> ((1 : Int32).toUInt32 &&& Int32.toUInt32 31)).toInt32) &&& (1431655765 : Int32))) &&& (858993459 : Int32)) + ((((p0 - (((p0.toUInt32 >>> ((1 : Int32).toUInt32 &&& Int32.toUInt32 31)).toInt32) &&& (1431655765 : Int32))).toUInt32 >>> ((2 : Int32).toUInt32 &&& Int32.toUInt32 31)).toInt32) &&& (858993459 : Int32))) + (((((p0 - (((p0.toUInt32 >>> ((1 : Int32).toUInt32 &&& Int32.toUInt32 31)).toInt32) &&& (1431655765 : Int32))) &&& (858993459 : Int32)) + ((((p0 - (((p0.toUInt32 >>> ((1 : Int32).toUInt32 &&& Int32.toUInt32 31)).toInt32) &&& (1431655765 : Int32))).toUInt32 >>> ((2 : Int32).toUInt32 &&& Int32.toUInt32 31)).toInt32) &&& (858993459 : Int32))).toUInt32 >>> ((4 : Int32).toUInt32 &&& Int32.toUInt32 31)).toInt32)) &&& (252645135 : Int32)) + (((((((p0 - (((p0.toUInt32 >>> ((1 : Int32).toUInt32 &&& Int32.toUInt32 31)).toInt32) &&& (1431655765 : Int32))) &&& (858993459 : Int32)) + ((((p0 - (((p0.toUInt32 >>> ((1 : Int32).toUInt32 &&& Int32.toUInt32 31)).toInt32) &&& (1431655765 : Int32))).toUInt32 >>> ((2 : Int32).toUInt32 &&& Int32.toUInt32 31)).toInt32) &&& (858993459 : Int32))) + (((((p0 - (((p0.toUInt32 >>> ((1 : Int32).toUInt32 &&& Int32.toUInt32 31)).toInt32) &&& (1431655765 : Int32))) &&& (858993459 : Int32)) + ((((p0 - (((p0.toUInt32 >>> ((1 : Int32).toUInt32 &&& Int32.toUInt32 31)).toInt32) &&& (1431655765 : Int32))).toUInt32 >>> ((2 : Int32).toUInt32 &&& Int32.toUInt32 31)).toInt32) &&& (858993459 : Int32))).toUInt32 >>> ((4 : Int32).toUInt32 &&& Int32.toUInt32 31)).toInt32)) &&& (252645135 : Int32)).toUInt32 >>> ((8 : Int32).toUInt32 &&& Int32.toUInt32 31)).toInt32)) + ((((((((p0 - (((p0.toUInt32 >>> ((1 : Int32).toUInt32 &&& Int32.toUInt32 31)).toInt32) &&& (1431655765 : Int32))) &&& (858993459 : Int32)) + ((((p0 - (((p0.toUInt32 >>> ((1 : Int32).toUInt32 &&& Int32.toUInt32 31)).toInt32) &&& (1431655765 : Int32))).toUInt32 >>> ((2 : Int32).toUInt32 &&& Int32.toUInt32 31)).toInt32) &&& (858993459 : Int32))) + (((((p0 - (((p0.toUInt32 >>> ((1 : Int32).toUInt32 &&& Int32.toUInt32 31)).toInt32) &&& (1431655765 : Int32))) &&& (858993459 : Int32)) + ((((p0 - (((p0.toUInt32 >>> ((1 : Int32).toUInt32 &&& Int32.toUInt32 31)).toInt32) &&& (1431655765 : Int32))).toUInt32 >>> ((2 : Int32).toUInt32 &&& Int32.toUInt32 31)).toInt32) &&& (858993459 : Int32))).toUInt32 >>> ((4 : Int32).toUInt32 &&& Int32.toUInt32 31)).toInt32)) &&& (252645135 : Int32)) + (((((((p0 - (((p0.toUInt32 >>> ((1 : Int32).toUInt32 &&& Int32.toUInt32 31)).toInt32) &&& (1431655765 : Int32))) &&& (858993459 : Int32)) + ((((p0 - (((p0.toUInt32 >>> ((1 : Int32).toUInt32 &&& Int32.toUInt32 31)).toInt32) &&& (1431655765 : Int32))).toUInt32 >>> ((2 : Int32).toUInt32 &&& Int32.toUInt32 31)).toInt32) &&& (858993459 : Int32))) + (((((p0 - (((p0.toUInt32 >>> ((1 : Int32).toUInt32 &&& Int32.toUInt32 31)).toInt32) &&& (1431655765 : Int32))) &&& (858993459 : Int32)) + ((((p0 - (((p0.toUInt32 >>> ((1 : Int32).toUInt32 &&& Int32.toUInt32 31)).toInt32) &&& (1431655765 : Int32))).toUInt32 >>> ((2 : Int32).toUInt32 &&& Int32.toUInt32 31)).toInt32) &&& (858993459 : Int32))).toUInt32 >>> ((4 : Int32).toUInt32 &&& Int32.toUInt32 31)).toInt32)) &&& (252645135 : Int32)).toUInt32 >>> ((8 : Int32).toUInt32 &&& Int32.toUInt32 31)).toInt32)).toUInt32 >>> ((16 : Int32).toUInt32 &&& Int32.toUInt32 31)).toInt32)) &&& (63 : Int32))
set_option maxHeartbeats 4000000 in
set_option maxRecDepth 100000 in
theorem c_J6_bitCount_0f7a4 (l : Launch) (z : ZC) (g : Mem) (p0 : Int32) : ctC l yJ6_bitCount_0f7a4 cJ6_bitCount_0f7a4 1 (some .int) 0 0 z g [.int p0] (qIC z (f_J6_bitCount_0f7a4 p0, g)) := by
  refine ct_of (own := RJ6) (q := fun r => qIC z (r, g)) (res := f_J6_bitCount_0f7a4 p0) (lv := [(0, .int p0)]) (enokC z) rfl (by decide) (Nat.le_of_ble_eq_true rfl) rfl (fun p e s m args below meth c C0 hrt hlk => ?_)
  unfold f_J6_bitCount_0f7a4
  refine j_iload_n C0 0 dJ6_bitCount_0f7a4_0 rfl rfl ?_
  refine j_iload_n C0 0 dJ6_bitCount_0f7a4_1 rfl rfl ?_
  refine j_iconst C0 (v := 1) dJ6_bitCount_0f7a4_2 (by decide) ?_
  refine j_iushr C0 dJ6_bitCount_0f7a4_3 ?_
  refine j_ldc_w C0 dJ6_bitCount_0f7a4_4 w_522 ?_
  refine j_iand C0 dJ6_bitCount_0f7a4_7 ?_
  refine j_isub C0 dJ6_bitCount_0f7a4_8 ?_
  refine j_istore_n C0 (lv' := [(0, _)]) dJ6_bitCount_0f7a4_9 rfl (by decide) rfl ?_
  refine j_iload_n C0 0 dJ6_bitCount_0f7a4_10 rfl rfl ?_
  refine j_ldc_w C0 dJ6_bitCount_0f7a4_11 w_523 ?_
  refine j_iand C0 dJ6_bitCount_0f7a4_14 ?_
  refine j_iload_n C0 0 dJ6_bitCount_0f7a4_15 rfl rfl ?_
  refine j_iconst C0 (v := 2) dJ6_bitCount_0f7a4_16 (by decide) ?_
  refine j_iushr C0 dJ6_bitCount_0f7a4_17 ?_
  refine j_ldc_w C0 dJ6_bitCount_0f7a4_18 w_523 ?_
  refine j_iand C0 dJ6_bitCount_0f7a4_21 ?_
  refine j_iadd C0 dJ6_bitCount_0f7a4_22 ?_
  refine j_istore_n C0 (lv' := [(0, _)]) dJ6_bitCount_0f7a4_23 rfl (by decide) rfl ?_
  refine j_iload_n C0 0 dJ6_bitCount_0f7a4_24 rfl rfl ?_
  refine j_iload_n C0 0 dJ6_bitCount_0f7a4_25 rfl rfl ?_
  refine j_iconst C0 (v := 4) dJ6_bitCount_0f7a4_26 (by decide) ?_
  refine j_iushr C0 dJ6_bitCount_0f7a4_27 ?_
  refine j_iadd C0 dJ6_bitCount_0f7a4_28 ?_
  refine j_ldc_w C0 dJ6_bitCount_0f7a4_29 w_524 ?_
  refine j_iand C0 dJ6_bitCount_0f7a4_32 ?_
  refine j_istore_n C0 (lv' := [(0, _)]) dJ6_bitCount_0f7a4_33 rfl (by decide) rfl ?_
  refine j_iload_n C0 0 dJ6_bitCount_0f7a4_34 rfl rfl ?_
  refine j_iload_n C0 0 dJ6_bitCount_0f7a4_35 rfl rfl ?_
  refine j_bipush C0 (v := 8) dJ6_bitCount_0f7a4_36 (by decide) ?_
  refine j_iushr C0 dJ6_bitCount_0f7a4_38 ?_
  refine j_iadd C0 dJ6_bitCount_0f7a4_39 ?_
  refine j_istore_n C0 (lv' := [(0, _)]) dJ6_bitCount_0f7a4_40 rfl (by decide) rfl ?_
  refine j_iload_n C0 0 dJ6_bitCount_0f7a4_41 rfl rfl ?_
  refine j_iload_n C0 0 dJ6_bitCount_0f7a4_42 rfl rfl ?_
  refine j_bipush C0 (v := 16) dJ6_bitCount_0f7a4_43 (by decide) ?_
  refine j_iushr C0 dJ6_bitCount_0f7a4_45 ?_
  refine j_iadd C0 dJ6_bitCount_0f7a4_46 ?_
  refine j_istore_n C0 (lv' := [(0, _)]) dJ6_bitCount_0f7a4_47 rfl (by decide) rfl ?_
  refine j_iload_n C0 0 dJ6_bitCount_0f7a4_48 rfl rfl ?_
  refine j_bipush C0 (v := 63) dJ6_bitCount_0f7a4_49 (by decide) ?_
  refine j_iand C0 dJ6_bitCount_0f7a4_51 ?_
  exact j_iretP C0 hrt hlk dJ6_bitCount_0f7a4_52
def f_X5_isWithin (p0 p1 p2 : Int32) : Int32 := if p0 < p1 then ((0 : Int32)) else (if p2 < p0 then ((0 : Int32)) else ((1 : Int32)))
theorem b01_X5_isWithin (p0 p1 p2 : Int32) : f_X5_isWithin p0 p1 p2 = 0 ∨ f_X5_isWithin p0 p1 p2 = 1 := by
  unfold f_X5_isWithin
  repeat' split
  all_goals first | (with_reducible exact Or.inl rfl) | (with_reducible exact Or.inr rfl) | assumption
theorem yk_X5_isWithin : yokS yX5_isWithin RX5 cX5_isWithin 3 (some .boolean) 3 := ⟨w_192, w_191, w_1, by decide +kernel⟩
set_option maxHeartbeats 4000000 in
set_option maxRecDepth 100000 in
theorem c_X5_isWithin (l : Launch) (z : ZC) (g : Mem) (p0 p1 p2 : Int32) : ctC l yX5_isWithin cX5_isWithin 3 (some .boolean) 0 0 z g [.int p0, .int p1, .int p2] (qIC z (f_X5_isWithin p0 p1 p2, g)) := by
  refine ct_of (own := RX5) (q := fun r => qIC z (r, g)) (res := f_X5_isWithin p0 p1 p2) (lv := [(0, .int p0), (1, .int p1), (2, .int p2)]) (enokC z) rfl (by decide) (Nat.le_of_ble_eq_true rfl) rfl (fun p e s m args below meth c C0 hrt hlk => ?_)
  unfold f_X5_isWithin
  refine j_iload_n C0 0 dX5_isWithin_0 rfl rfl ?_
  refine j_iload_n C0 1 dX5_isWithin_1 rfl rfl ?_
  refine j_icmp_lt C0 14 dX5_isWithin_2 (by decide) (fun c_2 => ?_) (fun c_2 => ?_)
  · refine j_iconst C0 (v := 0) dX5_isWithin_14 (by decide) ?_
    exact j_zretP C0 hrt hlk (Or.inl rfl) dX5_isWithin_15
  · refine j_iload_n C0 0 dX5_isWithin_5 rfl rfl ?_
    refine j_iload_n C0 2 dX5_isWithin_6 rfl rfl ?_
    refine j_icmp_gt C0 14 dX5_isWithin_7 (by decide) (fun c_7 => ?_) (fun c_7 => ?_)
    · refine j_iconst C0 (v := 0) dX5_isWithin_14 (by decide) ?_
      exact j_zretP C0 hrt hlk (Or.inl rfl) dX5_isWithin_15
    · refine j_iconst C0 (v := 1) dX5_isWithin_10 (by decide) ?_
      refine j_goto C0 15 dX5_isWithin_11 (by decide) ?_
      exact j_zretP C0 hrt hlk (Or.inr rfl) dX5_isWithin_15
theorem isWithin_in {a b c : Int32} (h : ¬ f_X5_isWithin a b c = 0) : b.toInt ≤ a.toInt ∧ a.toInt ≤ c.toInt := by
  unfold f_X5_isWithin at h
  split at h
  · exact absurd rfl h
  · split at h
    · exact absurd rfl h
    · have h1 : ¬ a < b := by assumption
      have h2 : ¬ c < a := by assumption
      exact ⟨Int.not_lt.mp (fun q => h1 (Int32.lt_iff_toInt_lt.mpr q)), Int.not_lt.mp (fun q => h2 (Int32.lt_iff_toInt_lt.mpr q))⟩
theorem isWithin_8 {a : Int32} (h : ¬ f_X5_isWithin a 0 7 = 0) : vp_in a 8 := by
  have h1 := isWithin_in h
  have e0 : (0 : Int32).toInt = 0 := rfl
  have e7 : (7 : Int32).toInt = 7 := rfl
  exact vin_of (by omega) (by omega)
theorem In_sz40 {g : Mem} (h : In g) : (g 40 1).toInt ≤ 8 := In_sz h lt3_0
theorem In_sz40' {g : Mem} (h : In g) : 0 ≤ (g 40 1).toInt := In_sz0 h lt3_0
theorem nlt_of {x : Int32} (h : 0 ≤ x) : ¬ x < 0 := by
  rw [lt0_iff]
  rw [le0_iff] at h
  omega
theorem k1_ne {k : Int32} (h : ¬ f_X5_isWithin k 1 9 = 0) : ¬ k + 1 = 0 := by
  have h1 := isWithin_in h
  have e1 : (1 : Int32).toInt = 1 := rfl
  have e9 : (9 : Int32).toInt = 9 := rfl
  intro q
  have h2 := congrArg Int32.toInt q
  rw [add_toInt (by omega) (by omega) (by omega) (by omega)] at h2
  have e0 : (0 : Int32).toInt = 0 := rfl
  omega

def f_X5_isOneOfTwo (p0 : Int32) : Int32 := (f_X5_isWithin p0 (0 : Int32) (1 : Int32))
theorem b01_X5_isOneOfTwo (p0 : Int32) : f_X5_isOneOfTwo p0 = 0 ∨ f_X5_isOneOfTwo p0 = 1 := by
  unfold f_X5_isOneOfTwo
  repeat' split
  all_goals first | (with_reducible exact Or.inl rfl) | (with_reducible exact Or.inr rfl) | assumption | (with_reducible exact b01_X5_isWithin _ _ _)
theorem yk_X5_isOneOfTwo : yokS yX5_isOneOfTwo RX5 cX5_isOneOfTwo 1 (some .boolean) 1 := ⟨w_355, w_354, w_1, by decide +kernel⟩
set_option maxHeartbeats 4000000 in
set_option maxRecDepth 100000 in
theorem c_X5_isOneOfTwo (l : Launch) (z : ZC) (g : Mem) (p0 : Int32) : ctC l yX5_isOneOfTwo cX5_isOneOfTwo 1 (some .boolean) 1 22 z g [.int p0] (qIC z (f_X5_isOneOfTwo p0, g)) := by
  refine ct_of (own := RX5) (q := fun r => qIC z (r, g)) (res := f_X5_isOneOfTwo p0) (lv := [(0, .int p0)]) (enokC z) rfl (by decide) (Nat.le_of_ble_eq_true rfl) rfl (fun p e s m args below meth c C0 hrt hlk => ?_)
  unfold f_X5_isOneOfTwo
  refine j_iload_n C0 0 dX5_isOneOfTwo_0 rfl rfl ?_
  refine j_iconst C0 (v := 0) dX5_isOneOfTwo_1 (by decide) ?_
  refine j_iconst C0 (v := 1) dX5_isOneOfTwo_2 (by decide) ?_
  refine j_callSi C0 (c_X5_isWithin l z _ _ _ _) yk_X5_isWithin w_190 ⟨Nat.le_of_ble_eq_true rfl, Nat.le_of_ble_eq_true rfl⟩ rfl rfl (Nat.le_of_ble_eq_true rfl) dX5_isOneOfTwo_3 ?_
  exact j_zretP C0 hrt hlk (b01_X5_isWithin _ _ _) dX5_isOneOfTwo_6
def f_X5_isShelf (p0 : Int32) : Int32 := (f_X5_isWithin p0 (0 : Int32) (7 : Int32))
theorem b01_X5_isShelf (p0 : Int32) : f_X5_isShelf p0 = 0 ∨ f_X5_isShelf p0 = 1 := by
  unfold f_X5_isShelf
  repeat' split
  all_goals first | (with_reducible exact Or.inl rfl) | (with_reducible exact Or.inr rfl) | assumption | (with_reducible exact b01_X5_isWithin _ _ _)
theorem yk_X5_isShelf : yokS yX5_isShelf RX5 cX5_isShelf 1 (some .boolean) 1 := ⟨w_189, w_188, w_1, by decide +kernel⟩
set_option maxHeartbeats 4000000 in
set_option maxRecDepth 100000 in
theorem c_X5_isShelf (l : Launch) (z : ZC) (g : Mem) (p0 : Int32) : ctC l yX5_isShelf cX5_isShelf 1 (some .boolean) 1 22 z g [.int p0] (qIC z (f_X5_isShelf p0, g)) := by
  refine ct_of (own := RX5) (q := fun r => qIC z (r, g)) (res := f_X5_isShelf p0) (lv := [(0, .int p0)]) (enokC z) rfl (by decide) (Nat.le_of_ble_eq_true rfl) rfl (fun p e s m args below meth c C0 hrt hlk => ?_)
  unfold f_X5_isShelf
  refine j_iload_n C0 0 dX5_isShelf_0 rfl rfl ?_
  refine j_iconst C0 (v := 0) dX5_isShelf_1 (by decide) ?_
  refine j_bipush C0 (v := 7) dX5_isShelf_2 (by decide) ?_
  refine j_callSi C0 (c_X5_isWithin l z _ _ _ _) yk_X5_isWithin w_190 ⟨Nat.le_of_ble_eq_true rfl, Nat.le_of_ble_eq_true rfl⟩ rfl rfl (Nat.le_of_ble_eq_true rfl) dX5_isShelf_4 ?_
  exact j_zretP C0 hrt hlk (b01_X5_isWithin _ _ _) dX5_isShelf_7
theorem isShelf_in {a : Int32} (h : ¬ f_X5_isShelf a = 0) : vp_in a 8 := isWithin_8 h

def f_X5_isFigure (p0 : Int32) : Int32 := (f_X5_isWithin p0 (0 : Int32) (9 : Int32))
theorem b01_X5_isFigure (p0 : Int32) : f_X5_isFigure p0 = 0 ∨ f_X5_isFigure p0 = 1 := by
  unfold f_X5_isFigure
  repeat' split
  all_goals first | (with_reducible exact Or.inl rfl) | (with_reducible exact Or.inr rfl) | assumption | (with_reducible exact b01_X5_isWithin _ _ _)
theorem yk_X5_isFigure : yokS yX5_isFigure RX5 cX5_isFigure 1 (some .boolean) 1 := ⟨w_244, w_243, w_1, by decide +kernel⟩
set_option maxHeartbeats 4000000 in
set_option maxRecDepth 100000 in
theorem c_X5_isFigure (l : Launch) (z : ZC) (g : Mem) (p0 : Int32) : ctC l yX5_isFigure cX5_isFigure 1 (some .boolean) 1 22 z g [.int p0] (qIC z (f_X5_isFigure p0, g)) := by
  refine ct_of (own := RX5) (q := fun r => qIC z (r, g)) (res := f_X5_isFigure p0) (lv := [(0, .int p0)]) (enokC z) rfl (by decide) (Nat.le_of_ble_eq_true rfl) rfl (fun p e s m args below meth c C0 hrt hlk => ?_)
  unfold f_X5_isFigure
  refine j_iload_n C0 0 dX5_isFigure_0 rfl rfl ?_
  refine j_iconst C0 (v := 0) dX5_isFigure_1 (by decide) ?_
  refine j_bipush C0 (v := 9) dX5_isFigure_2 (by decide) ?_
  refine j_callSi C0 (c_X5_isWithin l z _ _ _ _) yk_X5_isWithin w_190 ⟨Nat.le_of_ble_eq_true rfl, Nat.le_of_ble_eq_true rfl⟩ rfl rfl (Nat.le_of_ble_eq_true rfl) dX5_isFigure_4 ?_
  exact j_zretP C0 hrt hlk (b01_X5_isWithin _ _ _) dX5_isFigure_7
def f_X5_isFeeling (p0 : Int32) : Int32 := (f_X5_isWithin p0 (0 : Int32) (30 : Int32))
theorem b01_X5_isFeeling (p0 : Int32) : f_X5_isFeeling p0 = 0 ∨ f_X5_isFeeling p0 = 1 := by
  unfold f_X5_isFeeling
  repeat' split
  all_goals first | (with_reducible exact Or.inl rfl) | (with_reducible exact Or.inr rfl) | assumption | (with_reducible exact b01_X5_isWithin _ _ _)
theorem yk_X5_isFeeling : yokS yX5_isFeeling RX5 cX5_isFeeling 1 (some .boolean) 1 := ⟨w_247, w_246, w_1, by decide +kernel⟩
set_option maxHeartbeats 4000000 in
set_option maxRecDepth 100000 in
theorem c_X5_isFeeling (l : Launch) (z : ZC) (g : Mem) (p0 : Int32) : ctC l yX5_isFeeling cX5_isFeeling 1 (some .boolean) 1 22 z g [.int p0] (qIC z (f_X5_isFeeling p0, g)) := by
  refine ct_of (own := RX5) (q := fun r => qIC z (r, g)) (res := f_X5_isFeeling p0) (lv := [(0, .int p0)]) (enokC z) rfl (by decide) (Nat.le_of_ble_eq_true rfl) rfl (fun p e s m args below meth c C0 hrt hlk => ?_)
  unfold f_X5_isFeeling
  refine j_iload_n C0 0 dX5_isFeeling_0 rfl rfl ?_
  refine j_iconst C0 (v := 0) dX5_isFeeling_1 (by decide) ?_
  refine j_bipush C0 (v := 30) dX5_isFeeling_2 (by decide) ?_
  refine j_callSi C0 (c_X5_isWithin l z _ _ _ _) yk_X5_isWithin w_190 ⟨Nat.le_of_ble_eq_true rfl, Nat.le_of_ble_eq_true rfl⟩ rfl rfl (Nat.le_of_ble_eq_true rfl) dX5_isFeeling_4 ?_
  exact j_zretP C0 hrt hlk (b01_X5_isWithin _ _ _) dX5_isFeeling_7
def f_X5_isPrice (p0 : Int32) : Int32 := (f_X5_isWithin p0 (0 : Int32) (31 : Int32))
theorem b01_X5_isPrice (p0 : Int32) : f_X5_isPrice p0 = 0 ∨ f_X5_isPrice p0 = 1 := by
  unfold f_X5_isPrice
  repeat' split
  all_goals first | (with_reducible exact Or.inl rfl) | (with_reducible exact Or.inr rfl) | assumption | (with_reducible exact b01_X5_isWithin _ _ _)
theorem yk_X5_isPrice : yokS yX5_isPrice RX5 cX5_isPrice 1 (some .boolean) 1 := ⟨w_485, w_484, w_1, by decide +kernel⟩
set_option maxHeartbeats 4000000 in
set_option maxRecDepth 100000 in
theorem c_X5_isPrice (l : Launch) (z : ZC) (g : Mem) (p0 : Int32) : ctC l yX5_isPrice cX5_isPrice 1 (some .boolean) 1 22 z g [.int p0] (qIC z (f_X5_isPrice p0, g)) := by
  refine ct_of (own := RX5) (q := fun r => qIC z (r, g)) (res := f_X5_isPrice p0) (lv := [(0, .int p0)]) (enokC z) rfl (by decide) (Nat.le_of_ble_eq_true rfl) rfl (fun p e s m args below meth c C0 hrt hlk => ?_)
  unfold f_X5_isPrice
  refine j_iload_n C0 0 dX5_isPrice_0 rfl rfl ?_
  refine j_iconst C0 (v := 0) dX5_isPrice_1 (by decide) ?_
  refine j_bipush C0 (v := 31) dX5_isPrice_2 (by decide) ?_
  refine j_callSi C0 (c_X5_isWithin l z _ _ _ _) yk_X5_isWithin w_190 ⟨Nat.le_of_ble_eq_true rfl, Nat.le_of_ble_eq_true rfl⟩ rfl rfl (Nat.le_of_ble_eq_true rfl) dX5_isPrice_4 ?_
  exact j_zretP C0 hrt hlk (b01_X5_isWithin _ _ _) dX5_isPrice_7
def f_X5_isKind (p0 : Int32) : Int32 := (f_X5_isWithin p0 (0 : Int32) ((8 : Int32) - (1 : Int32)))
theorem b01_X5_isKind (p0 : Int32) : f_X5_isKind p0 = 0 ∨ f_X5_isKind p0 = 1 := by
  unfold f_X5_isKind
  repeat' split
  all_goals first | (with_reducible exact Or.inl rfl) | (with_reducible exact Or.inr rfl) | assumption | (with_reducible exact b01_X5_isWithin _ _ _)
theorem yk_X5_isKind : yokS yX5_isKind RX5 cX5_isKind 1 (some .boolean) 1 := ⟨w_239, w_238, w_1, by decide +kernel⟩
set_option maxHeartbeats 4000000 in
set_option maxRecDepth 100000 in
theorem c_X5_isKind (l : Launch) (z : ZC) (g : Mem) (p0 : Int32) : ctC l yX5_isKind cX5_isKind 1 (some .boolean) 1 22 z g [.int p0] (qIC z (f_X5_isKind p0, g)) := by
  refine ct_of (own := RX5) (q := fun r => qIC z (r, g)) (res := f_X5_isKind p0) (lv := [(0, .int p0)]) (enokC z) rfl (by decide) (Nat.le_of_ble_eq_true rfl) rfl (fun p e s m args below meth c C0 hrt hlk => ?_)
  unfold f_X5_isKind
  refine j_iload_n C0 0 dX5_isKind_0 rfl rfl ?_
  refine j_iconst C0 (v := 0) dX5_isKind_1 (by decide) ?_
  refine k_KINDS C0 w_240 dX5_isKind_2 ?_
  refine k_len C0 dX5_isKind_5 ?_
  refine j_iconst C0 (v := 1) dX5_isKind_6 (by decide) ?_
  refine j_isub C0 dX5_isKind_7 ?_
  refine j_callSi C0 (c_X5_isWithin l z _ _ _ _) yk_X5_isWithin w_190 ⟨Nat.le_of_ble_eq_true rfl, Nat.le_of_ble_eq_true rfl⟩ rfl rfl (Nat.le_of_ble_eq_true rfl) dX5_isKind_8 ?_
  exact j_zretP C0 hrt hlk (b01_X5_isWithin _ _ _) dX5_isKind_11
theorem isKind_in {a : Int32} (h : ¬ f_X5_isKind a = 0) : vp_in a 8 := isWithin_8 h

def f_X5_refusalUnlessHeld (g : Mem) (p0 p1 : Int32) : Int32 := if (f_X5_isShelf p0) = 0 then ((-1 : Int32)) else (if (g (24 + ix p0) 1) = 0 then ((-11 : Int32)) else (if (g (24 + ix p0) 1) = p1 then ((0 : Int32)) else ((-12 : Int32))))
theorem yk_X5_refusalUnlessHeld : yokV yX5_refusalUnlessHeld RX5 cX5_refusalUnlessHeld 4 (some .int) 2 := ⟨w_186, w_185, wp_1, w_1, by decide +kernel⟩
set_option maxHeartbeats 4000000 in
set_option maxRecDepth 100000 in
theorem c_X5_refusalUnlessHeld (l : Launch) (z : ZC) (g : Mem) (p0 p1 : Int32) (hI : In g) : ctC l yX5_refusalUnlessHeld cX5_refusalUnlessHeld 4 (some .int) 2 42 z g [.ref (zad z 46), .int p0, .int p1] (qIC z (f_X5_refusalUnlessHeld g p0 p1, g)) := by
  refine ct_of (own := RX5) (q := fun r => qIC z (r, g)) (res := f_X5_refusalUnlessHeld g p0 p1) (lv := [(0, .ref (zad z 46)), (1, .int p0), (2, .int p1)]) (enokC z) rfl (by decide) (Nat.le_of_ble_eq_true rfl) rfl (fun p e s m args below meth c C0 hrt hlk => ?_)
  unfold f_X5_refusalUnlessHeld
  refine j_iload_n C0 1 dX5_refusalUnlessHeld_0 rfl rfl ?_
  refine j_callSi C0 (c_X5_isShelf l z _ _) yk_X5_isShelf w_187 ⟨Nat.le_of_ble_eq_true rfl, Nat.le_of_ble_eq_true rfl⟩ rfl rfl (Nat.le_of_ble_eq_true rfl) dX5_refusalUnlessHeld_1 ?_
  refine j_if_ne C0 9 dX5_refusalUnlessHeld_4 (by decide) (fun c_4 => ?_) (fun c_4 => ?_)
  · refine j_iconst C0 (v := (-1)) dX5_refusalUnlessHeld_7 (by decide) ?_
    exact j_iretP C0 hrt hlk dX5_refusalUnlessHeld_8
  · have hv := isShelf_in c_4
    refine j_aload_n C0 0 dX5_refusalUnlessHeld_9 rfl rfl ?_
    refine g_Cakes_shelves C0 w_156 dX5_refusalUnlessHeld_10 ?_
    refine j_iload_n C0 1 dX5_refusalUnlessHeld_13 rfl rfl ?_
    refine a_shelves C0 hv dX5_refusalUnlessHeld_14 ?_
    refine g_Shelf_holds C0 (vin_lt hv) w_134 dX5_refusalUnlessHeld_15 ?_
    refine j_istore_n C0 (lv' := [(3, _), (0, _), (1, _), (2, _)]) dX5_refusalUnlessHeld_18 rfl (by decide) rfl ?_
    refine j_iload_n C0 0 dX5_refusalUnlessHeld_19 rfl rfl ?_
    refine j_if_ne C0 26 dX5_refusalUnlessHeld_20 (by decide) (fun c_20 => ?_) (fun c_20 => ?_)
    · refine j_bipush C0 (v := (-11)) dX5_refusalUnlessHeld_23 (by decide) ?_
      exact j_iretP C0 hrt hlk dX5_refusalUnlessHeld_25
    · refine j_iload_n C0 0 dX5_refusalUnlessHeld_26 rfl rfl ?_
      refine j_iload_n C0 3 dX5_refusalUnlessHeld_27 rfl rfl ?_
      refine j_icmp_ne C0 35 dX5_refusalUnlessHeld_28 (by decide) (fun c_28 => ?_) (fun c_28 => ?_)
      · refine j_iconst C0 (v := 0) dX5_refusalUnlessHeld_31 (by decide) ?_
        refine j_goto C0 37 dX5_refusalUnlessHeld_32 (by decide) ?_
        exact j_iretP C0 hrt hlk dX5_refusalUnlessHeld_37
      · refine j_bipush C0 (v := (-12)) dX5_refusalUnlessHeld_35 (by decide) ?_
        exact j_iretP C0 hrt hlk dX5_refusalUnlessHeld_37
theorem refusal_in {g : Mem} {a b : Int32} (h : f_X5_refusalUnlessHeld g a b = 0) : vp_in a 8 := by
  unfold f_X5_refusalUnlessHeld at h
  split at h
  · exact absurd h (by decide)
  · exact isShelf_in (by assumption)

def f_X5_refusalOfRow (g : Mem) (p0 : Int32) : Int32 := (f_X5_refusalUnlessHeld g p0 (2 : Int32))
theorem yk_X5_refusalOfRow : yokV yX5_refusalOfRow RX5 cX5_refusalOfRow 2 (some .int) 1 := ⟨w_182, w_181, wp_0, w_1, by decide +kernel⟩
set_option maxHeartbeats 4000000 in
set_option maxRecDepth 100000 in
theorem c_X5_refusalOfRow (l : Launch) (z : ZC) (g : Mem) (p0 : Int32) (hI : In g) : ctC l yX5_refusalOfRow cX5_refusalOfRow 2 (some .int) 3 65 z g [.ref (zad z 46), .int p0] (qIC z (f_X5_refusalOfRow g p0, g)) := by
  refine ct_of (own := RX5) (q := fun r => qIC z (r, g)) (res := f_X5_refusalOfRow g p0) (lv := [(0, .ref (zad z 46)), (1, .int p0)]) (enokC z) rfl (by decide) (Nat.le_of_ble_eq_true rfl) rfl (fun p e s m args below meth c C0 hrt hlk => ?_)
  unfold f_X5_refusalOfRow
  refine j_aload_n C0 0 dX5_refusalOfRow_0 rfl rfl ?_
  refine j_iload_n C0 1 dX5_refusalOfRow_1 rfl rfl ?_
  refine j_iconst C0 (v := 2) dX5_refusalOfRow_2 (by decide) ?_
  refine j_callVi C0 (c_X5_refusalUnlessHeld l z _ _ _ hI) yk_X5_refusalUnlessHeld w_183 (fun H locs hP _ => recvW C0 hP _ (by decide) cel_main rfl) ⟨Nat.le_of_ble_eq_true rfl, Nat.le_of_ble_eq_true rfl⟩ rfl rfl (Nat.le_of_ble_eq_true rfl) dX5_refusalOfRow_3 ?_
  exact j_iretP C0 hrt hlk dX5_refusalOfRow_6
theorem refusalR_in {g : Mem} {a : Int32} (h : f_X5_refusalOfRow g a = 0) : vp_in a 8 := refusal_in h

def f_X5_refusalOfKind (g : Mem) (p0 : Int32) : Int32 := (f_X5_refusalUnlessHeld g p0 (1 : Int32))
theorem yk_X5_refusalOfKind : yokV yX5_refusalOfKind RX5 cX5_refusalOfKind 2 (some .int) 1 := ⟨w_348, w_347, wp_8, w_1, by decide +kernel⟩
set_option maxHeartbeats 4000000 in
set_option maxRecDepth 100000 in
theorem c_X5_refusalOfKind (l : Launch) (z : ZC) (g : Mem) (p0 : Int32) (hI : In g) : ctC l yX5_refusalOfKind cX5_refusalOfKind 2 (some .int) 3 65 z g [.ref (zad z 46), .int p0] (qIC z (f_X5_refusalOfKind g p0, g)) := by
  refine ct_of (own := RX5) (q := fun r => qIC z (r, g)) (res := f_X5_refusalOfKind g p0) (lv := [(0, .ref (zad z 46)), (1, .int p0)]) (enokC z) rfl (by decide) (Nat.le_of_ble_eq_true rfl) rfl (fun p e s m args below meth c C0 hrt hlk => ?_)
  unfold f_X5_refusalOfKind
  refine j_aload_n C0 0 dX5_refusalOfKind_0 rfl rfl ?_
  refine j_iload_n C0 1 dX5_refusalOfKind_1 rfl rfl ?_
  refine j_iconst C0 (v := 1) dX5_refusalOfKind_2 (by decide) ?_
  refine j_callVi C0 (c_X5_refusalUnlessHeld l z _ _ _ hI) yk_X5_refusalUnlessHeld w_183 (fun H locs hP _ => recvW C0 hP _ (by decide) cel_main rfl) ⟨Nat.le_of_ble_eq_true rfl, Nat.le_of_ble_eq_true rfl⟩ rfl rfl (Nat.le_of_ble_eq_true rfl) dX5_refusalOfKind_3 ?_
  exact j_iretP C0 hrt hlk dX5_refusalOfKind_6
theorem refusalK_in {g : Mem} {a : Int32} (h : f_X5_refusalOfKind g a = 0) : vp_in a 8 := refusal_in h

