def ent (c : Nat) (fs : List Value) : va_E := .inr (c, fs)
def rowI (I : ClassId) (n : Nat) : va_E := .inl (I, n, .inl (fun _ => 0))
def f8 (u : Nat → Nat) : Nat → Option Nat := va_up (va_up (va_up (va_up (va_up (va_up (va_up (va_up (fun _ => none) 0 (some (u 0))) 1 (some (u 1))) 2 (some (u 2))) 3 (some (u 3))) 4 (some (u 4))) 5 (some (u 5))) 6 (some (u 6))) 7 (some (u 7))
def rowR (I : ClassId) (u : Nat → Nat) : va_E := .inl (I, 8, .inr (.inr (.inr (.inr (f8 u)))))
def WO3 (aE : Nat → Nat) (h : Nat) (_ : Nat → Nat) : va_W := [(h, .inr (2, [.ref (aE 0), .int 0, .int 0, .int 0, .int 0, .int 0, .int 0, .int 0]))]
def WO4 (I : ClassId) (aE : Nat → Nat) (h : Nat) (u : Nat → Nat) : va_W := [(h, .inr (3, [.ref (u 0), .int 0, .ref (aE 0), .int 0, .int 0, .int 0])), (u 0, rowI I 100)]
def WO2 (I : ClassId) (h : Nat) (u : Nat → Nat) : va_W := [(h, .inr (1, [.ref (u 0), .int 0, .ref (u 1), .ref (u 2), .int 0])), (u 0, rowI I 8), (u 1, rowI I 64), (u 2, rowI I 1280)]
def WO0 (C : ClassId) (aE : Nat → Nat) (h : Nat) (u : Nat → Nat) : va_W := [(h, .inr (0, [.ref (u 0), .int 0, .int 0, .int 0])), (u 0, rowR C (fun j => u (1 + j)))] ++ WO3 aE (u 1) u ++ WO3 aE (u 2) u ++ WO3 aE (u 3) u ++ WO3 aE (u 4) u ++ WO3 aE (u 5) u ++ WO3 aE (u 6) u ++ WO3 aE (u 7) u ++ WO3 aE (u 8) u
theorem yok3 : yokI yX3_init cX3_init 1 := ⟨w_39, w_38, w_3, rfl, by decide +kernel⟩
theorem yok4 : yokI yX4_init cX4_init 1 := ⟨w_128, w_127, w_7, rfl, by decide +kernel⟩
theorem yok2 : yokI yX2_init cX2_init 1 := ⟨w_104, w_103, w_6, rfl, by decide +kernel⟩
theorem yok0 : yokI yX0_init cX0_init 2 := ⟨w_32, w_31, w_2, rfl, by decide +kernel⟩
theorem yok5 : yokI yX5_init cX5_init 2 := ⟨w_22, w_21, w_1, rfl, by decide +kernel⟩
theorem yok6 : yokI yX6_init cX6_init 1 := ⟨w_798, w_797, w_8, rfl, by decide +kernel⟩
theorem k3_init {l : Launch} {D : va_G} {tys : List (ClassId × FieldType)} {aE : Nat → Nat} : ctN l yX3_init cX3_init 1 1 13 0 0 (.inr (2, [.null, .int 0, .int 0, .int 0, .int 0, .int 0, .int 0, .int 0]) : va_E) (WO3 aE) D tys aE := by
  refine ctN_of (own := RX3) (S := Nat → Nat) rfl rfl (by decide +kernel) (by decide) (fun h0 A p e s m args below meth c C0 hK hE hN hA hnm hr hk => ?_)
  refine l_aload_n C0 0 dX3_init_0 rfl rfl ?_
  refine n_obj C0 w_40 ⟨by decide, by decide⟩ dX3_init_1 ?_
  refine l_aload_n C0 0 dX3_init_4 rfl rfl ?_
  refine n_GUEST C0 hE w_41 dX3_init_5 ?_
  refine n_put C0 hK inW3 tyX3 tyX3_ok nmX3 0 (fs := [.null, .int 0, .int 0, .int 0, .int 0, .int 0, .int 0, .int 0]) rfl (ci := 2) rfl 0 (by decide) w_43 rfl (ty := .object "CakesToTheWatched$Kind") rfl rfl rfl (show 0 < 8 from by decide) dX3_init_8 ?_
  refine n_eq (w2 := ([(h0, .inr (2, [.ref (aE 0), .int 0, .int 0, .int 0, .int 0, .int 0, .int 0, .int 0]))] : va_W)) rfl ?_
  exact n_vret C0 hr hk (fun j => ([] : List Nat).getD j 0) rfl (by decide) dX3_init_11
theorem k4_init {l : Launch} {D : va_G} {tys : List (ClassId × FieldType)} {aE : Nat → Nat} {I : ClassId} (hI : tys[0]? = some (I, .int)) : ctN l yX4_init cX4_init 1 1 13 1 100 (.inr (3, [.null, .int 0, .null, .int 0, .int 0, .int 0]) : va_E) (WO4 I aE) D tys aE := by
  refine ctN_of (own := RX4) (S := Nat → Nat) rfl rfl (by decide +kernel) (by decide) (fun h0 A p e s m args below meth c C0 hK hE hN hA hnm hr hk => ?_)
  refine l_aload_n C0 0 dX4_init_0 rfl rfl ?_
  refine n_obj C0 w_129 ⟨by decide, by decide⟩ dX4_init_1 ?_
  refine l_aload_n C0 0 dX4_init_4 rfl rfl ?_
  refine l_bipush C0 (v := 100) dX4_init_5 (by decide) ?_
  refine n_newi C0 hK hA 0 hI (N := 100) (by decide) (by decide) (by decide) (by decide) dX4_init_7 (fun b1 => ?_)
  refine n_putF C0 hK hnm inW4 tyX4 tyX4_ok nmX4 0 (fs := [.null, .int 0, .null, .int 0, .int 0, .int 0]) rfl (ci := 3) rfl 0 (by decide) w_131 rfl rfl (ty := .array .int) rfl rfl rfl (show 0 < 6 from by decide) dX4_init_9 ?_
  refine n_eq (w2 := ([(h0, .inr (3, [.ref b1, .int 0, .null, .int 0, .int 0, .int 0])), (b1, rowI I 100)] : va_W)) rfl ?_
  refine l_aload_n C0 0 dX4_init_12 rfl rfl ?_
  refine l_iconst C0 (v := 0) dX4_init_13 (by decide) ?_
  refine n_put C0 hK inW4 tyX4 tyX4_ok nmX4 0 (fs := [.ref b1, .int 0, .null, .int 0, .int 0, .int 0]) rfl (ci := 3) rfl 1 (by decide) w_133 rfl (ty := .int) rfl rfl rfl (show 1 < 6 from by decide) dX4_init_14 ?_
  refine n_eq (w2 := ([(h0, .inr (3, [.ref b1, .int 0, .null, .int 0, .int 0, .int 0])), (b1, rowI I 100)] : va_W)) rfl ?_
  refine l_aload_n C0 0 dX4_init_17 rfl rfl ?_
  refine n_GUEST C0 hE w_130 dX4_init_18 ?_
  refine n_put C0 hK inW4 tyX4 tyX4_ok nmX4 0 (fs := [.ref b1, .int 0, .null, .int 0, .int 0, .int 0]) rfl (ci := 3) rfl 2 (by decide) w_135 rfl (ty := .object "CakesToTheWatched$Kind") rfl rfl rfl (show 2 < 6 from by decide) dX4_init_21 ?_
  refine n_eq (w2 := ([(h0, .inr (3, [.ref b1, .int 0, .ref (aE 0), .int 0, .int 0, .int 0])), (b1, rowI I 100)] : va_W)) rfl ?_
  exact n_vret C0 hr hk (fun j => ([b1] : List Nat).getD j 0) rfl (by decide) dX4_init_24
theorem k2_init {l : Launch} {D : va_G} {tys : List (ClassId × FieldType)} {aE : Nat → Nat} {I : ClassId} (hI : tys[0]? = some (I, .int)) : ctN l yX2_init cX2_init 1 1 13 3 1352 (.inr (1, [.null, .int 0, .null, .null, .int 0]) : va_E) (WO2 I) D tys aE := by
  refine ctN_of (own := RX2) (S := Nat → Nat) rfl rfl (by decide +kernel) (by decide) (fun h0 A p e s m args below meth c C0 hK hE hN hA hnm hr hk => ?_)
  refine l_aload_n C0 0 dX2_init_0 rfl rfl ?_
  refine n_obj C0 w_105 ⟨by decide, by decide⟩ dX2_init_1 ?_
  refine l_aload_n C0 0 dX2_init_4 rfl rfl ?_
  refine l_bipush C0 (v := 8) dX2_init_5 (by decide) ?_
  refine n_newi C0 hK hA 0 hI (N := 8) (by decide) (by decide) (by decide) (by decide) dX2_init_7 (fun b1 => ?_)
  refine n_putF C0 hK hnm inW2 tyX2 tyX2_ok nmX2 0 (fs := [.null, .int 0, .null, .null, .int 0]) rfl (ci := 1) rfl 0 (by decide) w_106 rfl rfl (ty := .array .int) rfl rfl rfl (show 0 < 5 from by decide) dX2_init_9 ?_
  refine n_eq (w2 := ([(h0, .inr (1, [.ref b1, .int 0, .null, .null, .int 0])), (b1, rowI I 8)] : va_W)) rfl ?_
  refine l_aload_n C0 0 dX2_init_12 rfl rfl ?_
  refine l_bipush C0 (v := 64) dX2_init_13 (by decide) ?_
  refine n_newi C0 hK hA 0 hI (N := 64) (by decide) (by decide) (by decide) (by decide) dX2_init_15 (fun b2 => ?_)
  refine n_putF C0 hK hnm inW2 tyX2 tyX2_ok nmX2 0 (fs := [.ref b1, .int 0, .null, .null, .int 0]) rfl (ci := 1) rfl 2 (by decide) w_110 rfl rfl (ty := .array .int) rfl rfl rfl (show 2 < 5 from by decide) dX2_init_17 ?_
  refine n_eq (w2 := ([(h0, .inr (1, [.ref b1, .int 0, .ref b2, .null, .int 0])), (b1, rowI I 8), (b2, rowI I 64)] : va_W)) rfl ?_
  refine l_aload_n C0 0 dX2_init_20 rfl rfl ?_
  refine l_sipush C0 (v := 1280) dX2_init_21 (by decide) ?_
  refine n_newi C0 hK hA 0 hI (N := 1280) (by decide) (by decide) (by decide) (by decide) dX2_init_24 (fun b3 => ?_)
  refine n_putF C0 hK hnm inW2 tyX2 tyX2_ok nmX2 0 (fs := [.ref b1, .int 0, .ref b2, .null, .int 0]) rfl (ci := 1) rfl 3 (by decide) w_111 rfl rfl (ty := .array .int) rfl rfl rfl (show 3 < 5 from by decide) dX2_init_26 ?_
  refine n_eq (w2 := ([(h0, .inr (1, [.ref b1, .int 0, .ref b2, .ref b3, .int 0])), (b1, rowI I 8), (b2, rowI I 64), (b3, rowI I 1280)] : va_W)) rfl ?_
  exact n_vret C0 hr hk (fun j => ([b1, b2, b3] : List Nat).getD j 0) rfl (by decide) dX2_init_29
