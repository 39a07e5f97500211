def f_X5_toss (g : Mem) (p0 : Int32) : Int32 := if (f_X5_refusalOfKind g p0) = 0 then ((f_toss_tail (g (24 + ix p0) 2) (g (24 + ix p0) 3))) else ((f_X5_refusalOfKind g p0))
set_option maxHeartbeats 4000000 in
set_option maxRecDepth 100000 in
theorem c_X5_toss (l : Launch) (hfl : l.stackTraces = false) (z : ZC) (g : Mem) (p0 : Int32) (hI : In g) : vx_Met l yX5_toss (Cond.codeWith yX5_toss cX5_toss 6 (some .int) tossH :: WLg) { frames := 12, cells := 1, slots := 6, locals := 300 } (va_Pc [.ref (zad z 46), .int p0] (preX z g)) (qIC z (f_X5_toss g p0, g)) noX 1 6 (zA z) := by
  refine ctXH_of (own := RX5) (Qr := fun r => qIC z (r, g)) (XCr := fun _ => noX) (res := f_X5_toss g p0) (lv := [(0, .ref (zad z 46)), (1, .int p0)]) rfl (by decide) (Nat.le_of_ble_eq_true rfl) rfl (fun p e s m args below meth c C0 hX hE htab hrt hlk => ?_)
  unfold f_X5_toss
  refine j_aload_n C0 0 dX5_toss_0 rfl rfl ?_
  refine j_iload_n C0 1 dX5_toss_1 rfl rfl ?_
  refine j_callVi C0 (c_X5_refusalOfKind l z _ _ hI) yk_X5_refusalOfKind w_345 (fun H locs hP _ => recvW C0 hP _ (by decide) cel_main rfl) ⟨Nat.le_of_ble_eq_true rfl, Nat.le_of_ble_eq_true rfl⟩ rfl rfl (Nat.le_of_ble_eq_true rfl) dX5_toss_2 ?_
  refine j_istore_n C0 (lv' := [(2, _), (0, _), (1, _)]) dX5_toss_5 rfl (by decide) rfl ?_
  refine j_iload_n C0 0 dX5_toss_6 rfl rfl ?_
  refine j_if_eq C0 12 dX5_toss_7 (by decide) (fun c_7 => ?_) (fun c_7 => ?_)
  · have hv := refusalK_in c_7
    refine j_aload_n C0 1 dX5_toss_12 rfl rfl ?_
    refine g_Cakes_shelves C0 w_156 dX5_toss_13 ?_
    refine j_iload_n C0 2 dX5_toss_16 rfl rfl ?_
    refine a_shelves C0 hv dX5_toss_17 ?_
    refine g_Shelf_kind C0 (vin_lt hv) w_136 dX5_toss_18 ?_
    refine j_astore_n C0 (lv' := [(3, _), (2, _), (0, _), (1, _)]) dX5_toss_21 rfl (by decide) rfl ?_
    refine j_aload_n C0 2 dX5_toss_22 rfl rfl ?_
    refine g_Cakes_shelves C0 w_156 dX5_toss_23 ?_
    refine j_iload_n C0 3 dX5_toss_26 rfl rfl ?_
    refine a_shelves C0 hv dX5_toss_27 ?_
    refine g_Shelf_figure C0 (vin_lt hv) w_138 dX5_toss_28 ?_
    refine j_istore C0 (lv' := [(4, _), (3, _), (2, _), (0, _), (1, _)]) dX5_toss_31 (by decide) rfl ?_
    refine j_aload_n C0 1 dX5_toss_33 rfl rfl ?_
    refine j_iload C0 0 dX5_toss_34 rfl ?_
    exact j_sub [1, 0] rfl (toss_tail C0 hfl hX hE htab hrt hlk ⟨by decide, by decide, by decide, by decide⟩ (In_sk hI (vin_lt hv)))
  · refine j_iload_n C0 0 dX5_toss_10 rfl rfl ?_
    exact x_iret C0 hrt hlk dX5_toss_11
