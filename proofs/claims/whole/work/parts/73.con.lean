def WO6 (I : ClassId) (h : Nat) (u : Nat → Nat) : va_W := [(h, .inr (5, [.ref (u 0), .ref (u 1), .ref (u 2), .ref (u 3), .int 0, .int 0, .int 0, .int 0, .ref (u 4), .ref (u 5), .ref (u 6), .int 0, .int 0, .ref (u 7), .ref (u 8), .ref (u 9), .ref (u 10), .ref (u 11), .ref (u 12), .int 0])), (u 0, rowI I 57), (u 1, rowI I 57), (u 2, rowI I 57), (u 3, rowI I 57), (u 4, rowI I 4), (u 5, rowI I 8), (u 6, rowI I 8), (u 7, rowI I 8), (u 8, rowI I 8), (u 9, rowI I 8), (u 10, rowI I 8), (u 11, rowI I 8), (u 12, rowI I 800)]
theorem k6_init {l : Launch} {D : va_G} {tys : List (ClassId × FieldType)} {aE : Nat → Nat} {I : ClassId} (hI : tys[0]? = some (I, .int)) : ctN l yX6_init cX6_init 1 1 13 13 1088 (.inr (5, [.null, .null, .null, .null, .int 0, .int 0, .int 0, .int 0, .null, .null, .null, .int 0, .int 0, .null, .null, .null, .null, .null, .null, .int 0]) : va_E) (WO6 I) D tys aE := by
  refine ctN_of (own := RX6) (S := Nat → Nat) rfl rfl (by decide +kernel) (by decide) (fun h0 A p e s m args below meth c C0 hK hE hN hA hnm hr hk => ?_)
  refine l_aload_n C0 0 dX6_init_0 rfl rfl ?_
  refine n_obj C0 w_799 ⟨by decide, by decide⟩ dX6_init_1 ?_
  refine l_aload_n C0 0 dX6_init_4 rfl rfl ?_
  refine l_bipush C0 (v := 57) dX6_init_5 (by decide) ?_
  refine n_newi C0 hK hA 0 hI (N := 57) (by decide) (by decide) (by decide) (by decide) dX6_init_7 (fun b1 => ?_)
  refine n_putF C0 hK hnm inW6 tyX6 tyX6_ok nmX6 0 (fs := [.null, .null, .null, .null, .int 0, .int 0, .int 0, .int 0, .null, .null, .null, .int 0, .int 0, .null, .null, .null, .null, .null, .null, .int 0]) rfl (ci := 5) rfl 0 (by decide) w_800 rfl rfl (ty := .array .int) rfl rfl rfl (show 0 < 20 from by decide) dX6_init_9 ?_
  refine n_eq (w2 := ([(h0, .inr (5, [.ref b1, .null, .null, .null, .int 0, .int 0, .int 0, .int 0, .null, .null, .null, .int 0, .int 0, .null, .null, .null, .null, .null, .null, .int 0])), (b1, rowI I 57)] : va_W)) rfl ?_
  refine l_aload_n C0 0 dX6_init_12 rfl rfl ?_
  refine l_bipush C0 (v := 57) dX6_init_13 (by decide) ?_
  refine n_newi C0 hK hA 0 hI (N := 57) (by decide) (by decide) (by decide) (by decide) dX6_init_15 (fun b2 => ?_)
  refine n_putF C0 hK hnm inW6 tyX6 tyX6_ok nmX6 0 (fs := [.ref b1, .null, .null, .null, .int 0, .int 0, .int 0, .int 0, .null, .null, .null, .int 0, .int 0, .null, .null, .null, .null, .null, .null, .int 0]) rfl (ci := 5) rfl 1 (by decide) w_801 rfl rfl (ty := .array .int) rfl rfl rfl (show 1 < 20 from by decide) dX6_init_17 ?_
  refine n_eq (w2 := ([(h0, .inr (5, [.ref b1, .ref b2, .null, .null, .int 0, .int 0, .int 0, .int 0, .null, .null, .null, .int 0, .int 0, .null, .null, .null, .null, .null, .null, .int 0])), (b1, rowI I 57), (b2, rowI I 57)] : va_W)) rfl ?_
  refine l_aload_n C0 0 dX6_init_20 rfl rfl ?_
  refine l_bipush C0 (v := 57) dX6_init_21 (by decide) ?_
  refine n_newi C0 hK hA 0 hI (N := 57) (by decide) (by decide) (by decide) (by decide) dX6_init_23 (fun b3 => ?_)
  refine n_putF C0 hK hnm inW6 tyX6 tyX6_ok nmX6 0 (fs := [.ref b1, .ref b2, .null, .null, .int 0, .int 0, .int 0, .int 0, .null, .null, .null, .int 0, .int 0, .null, .null, .null, .null, .null, .null, .int 0]) rfl (ci := 5) rfl 2 (by decide) w_802 rfl rfl (ty := .array .int) rfl rfl rfl (show 2 < 20 from by decide) dX6_init_25 ?_
  refine n_eq (w2 := ([(h0, .inr (5, [.ref b1, .ref b2, .ref b3, .null, .int 0, .int 0, .int 0, .int 0, .null, .null, .null, .int 0, .int 0, .null, .null, .null, .null, .null, .null, .int 0])), (b1, rowI I 57), (b2, rowI I 57), (b3, rowI I 57)] : va_W)) rfl ?_
  refine l_aload_n C0 0 dX6_init_28 rfl rfl ?_
  refine l_bipush C0 (v := 57) dX6_init_29 (by decide) ?_
  refine n_newi C0 hK hA 0 hI (N := 57) (by decide) (by decide) (by decide) (by decide) dX6_init_31 (fun b4 => ?_)
  refine n_putF C0 hK hnm inW6 tyX6 tyX6_ok nmX6 0 (fs := [.ref b1, .ref b2, .ref b3, .null, .int 0, .int 0, .int 0, .int 0, .null, .null, .null, .int 0, .int 0, .null, .null, .null, .null, .null, .null, .int 0]) rfl (ci := 5) rfl 3 (by decide) w_803 rfl rfl (ty := .array .int) rfl rfl rfl (show 3 < 20 from by decide) dX6_init_33 ?_
  refine n_eq (w2 := ([(h0, .inr (5, [.ref b1, .ref b2, .ref b3, .ref b4, .int 0, .int 0, .int 0, .int 0, .null, .null, .null, .int 0, .int 0, .null, .null, .null, .null, .null, .null, .int 0])), (b1, rowI I 57), (b2, rowI I 57), (b3, rowI I 57), (b4, rowI I 57)] : va_W)) rfl ?_
  refine l_aload_n C0 0 dX6_init_36 rfl rfl ?_
  refine l_iconst C0 (v := 4) dX6_init_37 (by decide) ?_
  refine n_newi C0 hK hA 0 hI (N := 4) (by decide) (by decide) (by decide) (by decide) dX6_init_38 (fun b5 => ?_)
  refine n_putF C0 hK hnm inW6 tyX6 tyX6_ok nmX6 0 (fs := [.ref b1, .ref b2, .ref b3, .ref b4, .int 0, .int 0, .int 0, .int 0, .null, .null, .null, .int 0, .int 0, .null, .null, .null, .null, .null, .null, .int 0]) rfl (ci := 5) rfl 8 (by decide) w_808 rfl rfl (ty := .array .int) rfl rfl rfl (show 8 < 20 from by decide) dX6_init_40 ?_
  refine n_eq (w2 := ([(h0, .inr (5, [.ref b1, .ref b2, .ref b3, .ref b4, .int 0, .int 0, .int 0, .int 0, .ref b5, .null, .null, .int 0, .int 0, .null, .null, .null, .null, .null, .null, .int 0])), (b1, rowI I 57), (b2, rowI I 57), (b3, rowI I 57), (b4, rowI I 57), (b5, rowI I 4)] : va_W)) rfl ?_
  refine l_aload_n C0 0 dX6_init_43 rfl rfl ?_
  refine l_bipush C0 (v := 8) dX6_init_44 (by decide) ?_
  refine n_newi C0 hK hA 0 hI (N := 8) (by decide) (by decide) (by decide) (by decide) dX6_init_46 (fun b6 => ?_)
  refine n_putF C0 hK hnm inW6 tyX6 tyX6_ok nmX6 0 (fs := [.ref b1, .ref b2, .ref b3, .ref b4, .int 0, .int 0, .int 0, .int 0, .ref b5, .null, .null, .int 0, .int 0, .null, .null, .null, .null, .null, .null, .int 0]) rfl (ci := 5) rfl 9 (by decide) w_809 rfl rfl (ty := .array .int) rfl rfl rfl (show 9 < 20 from by decide) dX6_init_48 ?_
  refine n_eq (w2 := ([(h0, .inr (5, [.ref b1, .ref b2, .ref b3, .ref b4, .int 0, .int 0, .int 0, .int 0, .ref b5, .ref b6, .null, .int 0, .int 0, .null, .null, .null, .null, .null, .null, .int 0])), (b1, rowI I 57), (b2, rowI I 57), (b3, rowI I 57), (b4, rowI I 57), (b5, rowI I 4), (b6, rowI I 8)] : va_W)) rfl ?_
  refine l_aload_n C0 0 dX6_init_51 rfl rfl ?_
  refine l_bipush C0 (v := 8) dX6_init_52 (by decide) ?_
  refine n_newi C0 hK hA 0 hI (N := 8) (by decide) (by decide) (by decide) (by decide) dX6_init_54 (fun b7 => ?_)
  refine n_putF C0 hK hnm inW6 tyX6 tyX6_ok nmX6 0 (fs := [.ref b1, .ref b2, .ref b3, .ref b4, .int 0, .int 0, .int 0, .int 0, .ref b5, .ref b6, .null, .int 0, .int 0, .null, .null, .null, .null, .null, .null, .int 0]) rfl (ci := 5) rfl 10 (by decide) w_810 rfl rfl (ty := .array .int) rfl rfl rfl (show 10 < 20 from by decide) dX6_init_56 ?_
  refine n_eq (w2 := ([(h0, .inr (5, [.ref b1, .ref b2, .ref b3, .ref b4, .int 0, .int 0, .int 0, .int 0, .ref b5, .ref b6, .ref b7, .int 0, .int 0, .null, .null, .null, .null, .null, .null, .int 0])), (b1, rowI I 57), (b2, rowI I 57), (b3, rowI I 57), (b4, rowI I 57), (b5, rowI I 4), (b6, rowI I 8), (b7, rowI I 8)] : va_W)) rfl ?_
  refine l_aload_n C0 0 dX6_init_59 rfl rfl ?_
  refine l_bipush C0 (v := 8) dX6_init_60 (by decide) ?_
  refine n_newi C0 hK hA 0 hI (N := 8) (by decide) (by decide) (by decide) (by decide) dX6_init_62 (fun b8 => ?_)
  refine n_putF C0 hK hnm inW6 tyX6 tyX6_ok nmX6 0 (fs := [.ref b1, .ref b2, .ref b3, .ref b4, .int 0, .int 0, .int 0, .int 0, .ref b5, .ref b6, .ref b7, .int 0, .int 0, .null, .null, .null, .null, .null, .null, .int 0]) rfl (ci := 5) rfl 13 (by decide) w_813 rfl rfl (ty := .array .int) rfl rfl rfl (show 13 < 20 from by decide) dX6_init_64 ?_
  refine n_eq (w2 := ([(h0, .inr (5, [.ref b1, .ref b2, .ref b3, .ref b4, .int 0, .int 0, .int 0, .int 0, .ref b5, .ref b6, .ref b7, .int 0, .int 0, .ref b8, .null, .null, .null, .null, .null, .int 0])), (b1, rowI I 57), (b2, rowI I 57), (b3, rowI I 57), (b4, rowI I 57), (b5, rowI I 4), (b6, rowI I 8), (b7, rowI I 8), (b8, rowI I 8)] : va_W)) rfl ?_
  refine l_aload_n C0 0 dX6_init_67 rfl rfl ?_
  refine l_bipush C0 (v := 8) dX6_init_68 (by decide) ?_
  refine n_newi C0 hK hA 0 hI (N := 8) (by decide) (by decide) (by decide) (by decide) dX6_init_70 (fun b9 => ?_)
  refine n_putF C0 hK hnm inW6 tyX6 tyX6_ok nmX6 0 (fs := [.ref b1, .ref b2, .ref b3, .ref b4, .int 0, .int 0, .int 0, .int 0, .ref b5, .ref b6, .ref b7, .int 0, .int 0, .ref b8, .null, .null, .null, .null, .null, .int 0]) rfl (ci := 5) rfl 14 (by decide) w_814 rfl rfl (ty := .array .int) rfl rfl rfl (show 14 < 20 from by decide) dX6_init_72 ?_
  refine n_eq (w2 := ([(h0, .inr (5, [.ref b1, .ref b2, .ref b3, .ref b4, .int 0, .int 0, .int 0, .int 0, .ref b5, .ref b6, .ref b7, .int 0, .int 0, .ref b8, .ref b9, .null, .null, .null, .null, .int 0])), (b1, rowI I 57), (b2, rowI I 57), (b3, rowI I 57), (b4, rowI I 57), (b5, rowI I 4), (b6, rowI I 8), (b7, rowI I 8), (b8, rowI I 8), (b9, rowI I 8)] : va_W)) rfl ?_
  refine l_aload_n C0 0 dX6_init_75 rfl rfl ?_
  refine l_bipush C0 (v := 8) dX6_init_76 (by decide) ?_
  refine n_newi C0 hK hA 0 hI (N := 8) (by decide) (by decide) (by decide) (by decide) dX6_init_78 (fun b10 => ?_)
  refine n_putF C0 hK hnm inW6 tyX6 tyX6_ok nmX6 0 (fs := [.ref b1, .ref b2, .ref b3, .ref b4, .int 0, .int 0, .int 0, .int 0, .ref b5, .ref b6, .ref b7, .int 0, .int 0, .ref b8, .ref b9, .null, .null, .null, .null, .int 0]) rfl (ci := 5) rfl 15 (by decide) w_815 rfl rfl (ty := .array .int) rfl rfl rfl (show 15 < 20 from by decide) dX6_init_80 ?_
  refine n_eq (w2 := ([(h0, .inr (5, [.ref b1, .ref b2, .ref b3, .ref b4, .int 0, .int 0, .int 0, .int 0, .ref b5, .ref b6, .ref b7, .int 0, .int 0, .ref b8, .ref b9, .ref b10, .null, .null, .null, .int 0])), (b1, rowI I 57), (b2, rowI I 57), (b3, rowI I 57), (b4, rowI I 57), (b5, rowI I 4), (b6, rowI I 8), (b7, rowI I 8), (b8, rowI I 8), (b9, rowI I 8), (b10, rowI I 8)] : va_W)) rfl ?_
  refine l_aload_n C0 0 dX6_init_83 rfl rfl ?_
  refine l_bipush C0 (v := 8) dX6_init_84 (by decide) ?_
  refine n_newi C0 hK hA 0 hI (N := 8) (by decide) (by decide) (by decide) (by decide) dX6_init_86 (fun b11 => ?_)
  refine n_putF C0 hK hnm inW6 tyX6 tyX6_ok nmX6 0 (fs := [.ref b1, .ref b2, .ref b3, .ref b4, .int 0, .int 0, .int 0, .int 0, .ref b5, .ref b6, .ref b7, .int 0, .int 0, .ref b8, .ref b9, .ref b10, .null, .null, .null, .int 0]) rfl (ci := 5) rfl 16 (by decide) w_816 rfl rfl (ty := .array .int) rfl rfl rfl (show 16 < 20 from by decide) dX6_init_88 ?_
  refine n_eq (w2 := ([(h0, .inr (5, [.ref b1, .ref b2, .ref b3, .ref b4, .int 0, .int 0, .int 0, .int 0, .ref b5, .ref b6, .ref b7, .int 0, .int 0, .ref b8, .ref b9, .ref b10, .ref b11, .null, .null, .int 0])), (b1, rowI I 57), (b2, rowI I 57), (b3, rowI I 57), (b4, rowI I 57), (b5, rowI I 4), (b6, rowI I 8), (b7, rowI I 8), (b8, rowI I 8), (b9, rowI I 8), (b10, rowI I 8), (b11, rowI I 8)] : va_W)) rfl ?_
  refine l_aload_n C0 0 dX6_init_91 rfl rfl ?_
  refine l_bipush C0 (v := 8) dX6_init_92 (by decide) ?_
  refine n_newi C0 hK hA 0 hI (N := 8) (by decide) (by decide) (by decide) (by decide) dX6_init_94 (fun b12 => ?_)
  refine n_putF C0 hK hnm inW6 tyX6 tyX6_ok nmX6 0 (fs := [.ref b1, .ref b2, .ref b3, .ref b4, .int 0, .int 0, .int 0, .int 0, .ref b5, .ref b6, .ref b7, .int 0, .int 0, .ref b8, .ref b9, .ref b10, .ref b11, .null, .null, .int 0]) rfl (ci := 5) rfl 17 (by decide) w_817 rfl rfl (ty := .array .int) rfl rfl rfl (show 17 < 20 from by decide) dX6_init_96 ?_
  refine n_eq (w2 := ([(h0, .inr (5, [.ref b1, .ref b2, .ref b3, .ref b4, .int 0, .int 0, .int 0, .int 0, .ref b5, .ref b6, .ref b7, .int 0, .int 0, .ref b8, .ref b9, .ref b10, .ref b11, .ref b12, .null, .int 0])), (b1, rowI I 57), (b2, rowI I 57), (b3, rowI I 57), (b4, rowI I 57), (b5, rowI I 4), (b6, rowI I 8), (b7, rowI I 8), (b8, rowI I 8), (b9, rowI I 8), (b10, rowI I 8), (b11, rowI I 8), (b12, rowI I 8)] : va_W)) rfl ?_
  refine l_aload_n C0 0 dX6_init_99 rfl rfl ?_
  refine l_sipush C0 (v := 800) dX6_init_100 (by decide) ?_
  refine n_newi C0 hK hA 0 hI (N := 800) (by decide) (by decide) (by decide) (by decide) dX6_init_103 (fun b13 => ?_)
  refine n_putF C0 hK hnm inW6 tyX6 tyX6_ok nmX6 0 (fs := [.ref b1, .ref b2, .ref b3, .ref b4, .int 0, .int 0, .int 0, .int 0, .ref b5, .ref b6, .ref b7, .int 0, .int 0, .ref b8, .ref b9, .ref b10, .ref b11, .ref b12, .null, .int 0]) rfl (ci := 5) rfl 18 (by decide) w_818 rfl rfl (ty := .array .int) rfl rfl rfl (show 18 < 20 from by decide) dX6_init_105 ?_
  refine n_eq (w2 := ([(h0, .inr (5, [.ref b1, .ref b2, .ref b3, .ref b4, .int 0, .int 0, .int 0, .int 0, .ref b5, .ref b6, .ref b7, .int 0, .int 0, .ref b8, .ref b9, .ref b10, .ref b11, .ref b12, .ref b13, .int 0])), (b1, rowI I 57), (b2, rowI I 57), (b3, rowI I 57), (b4, rowI I 57), (b5, rowI I 4), (b6, rowI I 8), (b7, rowI I 8), (b8, rowI I 8), (b9, rowI I 8), (b10, rowI I 8), (b11, rowI I 8), (b12, rowI I 8), (b13, rowI I 800)] : va_W)) rfl ?_
  exact n_vret C0 hr hk (fun j => ([b1, b2, b3, b4, b5, b6, b7, b8, b9, b10, b11, b12, b13] : List Nat).getD j 0) rfl (by decide) dX6_init_108
