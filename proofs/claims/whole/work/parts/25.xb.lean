def f_X1_failWith (w p0 : Int32) : Int32 := if p0 = 0 then ((0 : Int32)) else (if w = (4 : Int32) then ((0 : Int32)) else (if w = (7 : Int32) then ((0 : Int32)) else (if w = (5 : Int32) then ((1 : Int32)) else (if w = (3 : Int32) then ((2 : Int32)) else ((3 : Int32))))))
theorem yk_X1_failWith : yokV yX1_failWith RX1 cX1_failWith 2 none 1 := ⟨w_677, w_675, w_676, w_5, by decide +kernel⟩
set_option maxHeartbeats 4000000 in
set_option maxRecDepth 100000 in
theorem c_X1_failWith (l : Launch) (hfl : l.stackTraces = false) (z : ZC) (g : Mem) (w p0 : Int32) (hw : vp_in w 8) : vx_Met l yX1_failWith (Cond.code yX1_failWith cX1_failWith 2 none :: WLg) { frames := 6, cells := 1, slots := 6, locals := 95 } (va_Pc [.ref (zaE z (ix w)), .int p0] (preX z g)) (qXC z g (f_X1_failWith w p0)) (exXC z g (f_X1_failWith w p0)) 1 6 (zA z) := by
  refine ctX_of (own := RX1) (Qr := qXC z g) (XCr := exXC z g) (res := f_X1_failWith w p0) (lv := [(0, .ref (zaE z (ix w))), (1, .int p0)]) rfl (by decide) (Nat.le_of_ble_eq_true rfl) rfl (fun p e s m args below meth c C0 hX hE hno hrt hlk => ?_)
  obtain ⟨a1, a2, a3, a4, a5, t1, t2, t3, t4, t5, hXW⟩ := hX
  unfold f_X1_failWith
  refine j_iload_n C0 1 dX1_failWith_0 rfl rfl ?_
  refine j_if_eq C0 18 dX1_failWith_1 (by decide) (fun c_1 => ?_) (fun c_1 => ?_)
  · exact x_vret C0 hrt hlk dX1_failWith_18
  · refine j_aload_n C0 0 dX1_failWith_4 rfl rfl ?_
    refine k_BLIND C0 w_678 dX1_failWith_5 ?_
    refine k_acmp_eq C0 hw (vin_lit4) 18 dX1_failWith_8 (by decide) (fun c_8 => ?_) (fun c_8 => ?_)
    · exact x_vret C0 hrt hlk dX1_failWith_18
    · refine j_aload_n C0 0 dX1_failWith_11 rfl rfl ?_
      refine k_COW C0 w_679 dX1_failWith_12 ?_
      refine k_acmp_ne C0 hw (vin_lit7) 19 dX1_failWith_15 (by decide) (fun c_15 => ?_) (fun c_15 => ?_)
      · exact x_vret C0 hrt hlk dX1_failWith_18
      · refine j_aload_n C0 0 dX1_failWith_19 rfl rfl ?_
        refine k_EXPERT C0 w_268 dX1_failWith_20 ?_
        refine k_acmp_ne C0 hw (vin_lit5) 36 dX1_failWith_23 (by decide) (fun c_23 => ?_) (fun c_23 => ?_)
        · exact x_throwX C0 hfl hE hno (1 : Int32) (by decide) (names := ["java/lang/RuntimeException", "java/lang/Exception"]) (by decide +kernel) (by decide +kernel) w_681 w_17 xat_RX1_67 hXW t1 dX1_failWith_26 dX1_failWith_29 dX1_failWith_30 dX1_failWith_32 dX1_failWith_35 ⟨by decide, by decide, by decide, by decide⟩ hlk
        · refine j_aload_n C0 0 dX1_failWith_36 rfl rfl ?_
          refine k_TASTER C0 w_266 dX1_failWith_37 ?_
          refine k_acmp_ne C0 hw (vin_lit3) 53 dX1_failWith_40 (by decide) (fun c_40 => ?_) (fun c_40 => ?_)
          · exact x_throwX C0 hfl hE hno (2 : Int32) (by decide) (names := ["java/lang/RuntimeException", "java/lang/Exception"]) (by decide +kernel) (by decide +kernel) w_749 w_14 xat_RX1_74 hXW t2 dX1_failWith_43 dX1_failWith_46 dX1_failWith_47 dX1_failWith_49 dX1_failWith_52 ⟨by decide, by decide, by decide, by decide⟩ hlk
          · exact x_throwX C0 hfl hE hno (3 : Int32) (by decide) (names := ["java/lang/RuntimeException", "java/lang/Exception"]) (by decide +kernel) (by decide +kernel) w_765 w_15 xat_RX1_79 hXW t3 dX1_failWith_53 dX1_failWith_56 dX1_failWith_57 dX1_failWith_59 dX1_failWith_62 ⟨by decide, by decide, by decide, by decide⟩ hlk
