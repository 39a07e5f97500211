def f_X5_element (g : Mem) (p0 p1 : Int32) : Int32 × Int64 := if (f_X5_isShelf p0) = 0 then (((2 : Int32), (0 : Int64))) else (if (f_X5_refusalOfRow g p0) = 0 then (if (f_X4_hasPlace g (ix p0) p1) = 0 then (((3 : Int32), (0 : Int64))) else (((0 : Int32), (Int32.toInt64 (f_X4_at g (ix p0) p1))))) else (((3 : Int32), (0 : Int64))))
theorem yk_X5_element : yokV yX5_element RX5 cX5_element 3 (some .long) 2 := ⟨w_789, w_787, w_788, w_1, by decide +kernel⟩
set_option maxHeartbeats 4000000 in
set_option maxRecDepth 100000 in
theorem c_X5_element (l : Launch) (hfl : l.stackTraces = false) (z : ZC) (g : Mem) (p0 p1 : Int32) (hI : In g) : vx_Met l yX5_element (Cond.code yX5_element cX5_element 3 (some .long) :: WLg) { frames := 6, cells := 1, slots := 6, locals := 95 } (va_Pc [.ref (zad z 46), .int p0, .int p1] (preX z g)) (qYC z g (f_X5_element g p0 p1)) (exYC z g (f_X5_element g p0 p1)) 1 6 (zA z) := by
  refine ctX_of (own := RX5) (Qr := qYC z g) (XCr := exYC z g) (res := f_X5_element g p0 p1) (lv := [(0, .ref (zad z 46)), (1, .int p0), (2, .int p1)]) rfl (by decide) (Nat.le_of_ble_eq_true rfl) rfl (fun p e s m args below meth c C0 hX hE hno hrt hlk => ?_)
  obtain ⟨a1, a2, a3, a4, a5, t1, t2, t3, t4, t5, hXW⟩ := hX
  unfold f_X5_element
  refine j_iload_n C0 1 dX5_element_0 rfl rfl ?_
  refine j_callSi C0 (c_X5_isShelf l z _ _) yk_X5_isShelf w_187 ⟨Nat.le_of_ble_eq_true rfl, Nat.le_of_ble_eq_true rfl⟩ rfl rfl (Nat.le_of_ble_eq_true rfl) dX5_element_1 ?_
  refine j_if_ne C0 18 dX5_element_4 (by decide) (fun c_4 => ?_) (fun c_4 => ?_)
  · exact x_throwWY C0 hfl hE hno ((2 : Int32), (0 : Int64)) (by decide) (names := ["java/lang/RuntimeException", "java/lang/Exception"]) (by decide +kernel) (by decide +kernel) w_672 w_14 xat_RX5_307 hXW t4 dX5_element_7 dX5_element_10 dX5_element_11 dX5_element_14 dX5_element_17 ⟨by decide, by decide, by decide, by decide⟩ hlk
  · refine j_aload_n C0 0 dX5_element_18 rfl rfl ?_
    refine j_iload_n C0 1 dX5_element_19 rfl rfl ?_
    refine j_callVi C0 (c_X5_refusalOfRow l z _ _ hI) yk_X5_refusalOfRow w_179 (fun H locs hP _ => recvW C0 hP _ (by decide) cel_main rfl) ⟨Nat.le_of_ble_eq_true rfl, Nat.le_of_ble_eq_true rfl⟩ rfl rfl (Nat.le_of_ble_eq_true rfl) dX5_element_20 ?_
    refine j_if_ne C0 39 dX5_element_23 (by decide) (fun c_23 => ?_) (fun c_23 => ?_)
    · have hv := refusalR_in c_23
      refine j_aload_n C0 0 dX5_element_26 rfl rfl ?_
      refine g_Cakes_shelves C0 w_156 dX5_element_27 ?_
      refine j_iload_n C0 1 dX5_element_30 rfl rfl ?_
      refine a_shelves C0 hv dX5_element_31 ?_
      refine j_iload_n C0 2 dX5_element_32 rfl rfl ?_
      refine j_callVi C0 (c_X4_hasPlace l z _ (ix p0) (vin_lt hv) _) yk_X4_hasPlace w_643 (fun H locs hP _ => recvW C0 hP _ (by have := (vin_lt hv); omega) (cel_shelf (vin_lt hv)) rfl) ⟨Nat.le_of_ble_eq_true rfl, Nat.le_of_ble_eq_true rfl⟩ rfl rfl (Nat.le_of_ble_eq_true rfl) dX5_element_33 ?_
      refine j_if_ne C0 50 dX5_element_36 (by decide) (fun c_36 => ?_) (fun c_36 => ?_)
      · exact x_throwWY C0 hfl hE hno ((3 : Int32), (0 : Int64)) (by decide) (names := ["java/lang/RuntimeException", "java/lang/Exception"]) (by decide +kernel) (by decide +kernel) w_673 w_15 xat_RX5_314 hXW t5 dX5_element_39 dX5_element_42 dX5_element_43 dX5_element_46 dX5_element_49 ⟨by decide, by decide, by decide, by decide⟩ hlk
      · refine j_aload_n C0 0 dX5_element_50 rfl rfl ?_
        refine g_Cakes_shelves C0 w_156 dX5_element_51 ?_
        refine j_iload_n C0 1 dX5_element_54 rfl rfl ?_
        refine a_shelves C0 hv dX5_element_55 ?_
        refine j_iload_n C0 2 dX5_element_56 rfl rfl ?_
        refine j_callVi C0 (c_X4_at l z _ (ix p0) (vin_lt hv) _ hI) yk_X4_at w_196 (fun H locs hP _ => recvW C0 hP _ (by have := (vin_lt hv); omega) (cel_shelf (vin_lt hv)) rfl) ⟨Nat.le_of_ble_eq_true rfl, Nat.le_of_ble_eq_true rfl⟩ rfl rfl (Nat.le_of_ble_eq_true rfl) dX5_element_57 ?_
        refine j_i2l C0 dX5_element_60 ?_
        exact x_lret C0 hrt hlk dX5_element_61
    · exact x_throwWY C0 hfl hE hno ((3 : Int32), (0 : Int64)) (by decide) (names := ["java/lang/RuntimeException", "java/lang/Exception"]) (by decide +kernel) (by decide +kernel) w_673 w_15 xat_RX5_314 hXW t5 dX5_element_39 dX5_element_42 dX5_element_43 dX5_element_46 dX5_element_49 ⟨by decide, by decide, by decide, by decide⟩ hlk
