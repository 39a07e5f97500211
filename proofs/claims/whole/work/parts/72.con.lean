theorem k0_init {l : Launch} {D : va_G} {tys : List (ClassId × FieldType)} {aE : Nat → Nat} {C : ClassId} (hC : tys[1]? = some (C, .object RX3)) : ctN l yX0_init cX0_init 2 2 36 9 72 (.inr (0, [.null, .int 0, .int 0, .int 0]) : va_E) (WO0 C aE) D tys aE := by
  refine ctN_of (own := RX0) (S := Nat → Nat) rfl rfl (by decide +kernel) (by decide) (fun h0 A p e s m args below meth c C0 hK hE hN hA hnm hr hk => ?_)
  refine l_aload_n C0 0 dX0_init_0 rfl rfl ?_
  refine n_obj C0 w_33 ⟨by decide, by decide⟩ dX0_init_1 ?_
  refine l_aload_n C0 0 dX0_init_4 rfl rfl ?_
  refine l_bipush C0 (v := 8) dX0_init_5 (by decide) ?_
  refine n_newq C0 hK hA 1 hE.2.1 hC w_34 (N := 8) (by decide) (by decide) (by decide) (by decide) dX0_init_7 (fun b1 => ?_)
  refine n_putF C0 hK hnm inW0 tyX0 tyX0_ok nmX0 0 (fs := [.null, .int 0, .int 0, .int 0]) rfl (ci := 0) rfl 0 (by decide) w_81 rfl rfl (ty := .array (.object "CakesToTheWatched$Person")) rfl rfl rfl (show 0 < 4 from by decide) dX0_init_10 ?_
  refine n_eq (w2 := ([(h0, .inr (0, [.ref b1, .int 0, .int 0, .int 0])), (b1, .inl (C, 8, .inr (.inr (.inr (.inr (fun _ => none))))))] : va_W)) rfl ?_
  refine l_iconst C0 (v := 0) dX0_init_13 (by decide) ?_
  refine l_istore_n C0 (lv' := [(1, _), (0, _)]) dX0_init_14 rfl (by decide) rfl ?_
  refine l_iload_n C0 0 dX0_init_15 rfl rfl ?_
  refine l_bipush C0 (v := 8) dX0_init_16 (by decide) ?_
  refine l_icmp_ge C0 40 dX0_init_18 (by decide) (fun q => absurd q (by decide)) (fun _ => ?_)
  refine l_aload_n C0 1 dX0_init_21 rfl rfl ?_
  refine n_get C0 hK inW0 0 rfl (ci := 0) rfl 0 (by decide) w_81 rfl dX0_init_22 ?_
  refine l_iload_n C0 0 dX0_init_25 rfl rfl ?_
  refine n_new C0 hK hA inW3 tyX3 tyX3_ok w_34 w_36 w_3 (ci := 2) rfl [.null, .int 0, .int 0, .int 0, .int 0, .int 0, .int 0, .int 0] (by decide) (by decide) dX0_init_26 (fun b2 => ?_)
  refine l_dup C0 dX0_init_29 rfl ?_
  refine n_ctorN C0 hK hA hE hN k3_init yok3 hN.1 _ (by decide) (by decide) (show 3 ≤ 8 from by decide) dX0_init_30 (fun u2 => ?_)
  refine n_eq (w2 := ([(h0, .inr (0, [.ref b1, .int 0, .int 0, .int 0])), (b1, .inl (C, 8, .inr (.inr (.inr (.inr (fun _ => none))))))] ++ WO3 aE b2 u2 : va_W)) rfl ?_
  refine n_aast C0 hK 1 1 2 2 (cA := C) (n := 8) rfl hC rfl rfl vin_lit0 dX0_init_33 ?_
  refine n_eq (w2 := ([(h0, .inr (0, [.ref b1, .int 0, .int 0, .int 0])), (b1, .inl (C, 8, .inr (.inr (.inr (.inr (va_up (fun _ => none) 0 (some b2)))))))] ++ WO3 aE b2 u2 : va_W)) rfl ?_
  refine l_iinc C0 (lv' := [(1, _), (0, _)]) (v := 1) 0 dX0_init_34 rfl (by decide) (by decide) rfl ?_
  refine l_goto C0 15 dX0_init_37 (by decide) ?_
  refine l_iload_n C0 0 dX0_init_15 rfl rfl ?_
  refine l_bipush C0 (v := 8) dX0_init_16 (by decide) ?_
  refine l_icmp_ge C0 40 dX0_init_18 (by decide) (fun q => absurd q (by decide)) (fun _ => ?_)
  refine l_aload_n C0 1 dX0_init_21 rfl rfl ?_
  refine n_get C0 hK inW0 0 rfl (ci := 0) rfl 0 (by decide) w_81 rfl dX0_init_22 ?_
  refine l_iload_n C0 0 dX0_init_25 rfl rfl ?_
  refine n_new C0 hK hA inW3 tyX3 tyX3_ok w_34 w_36 w_3 (ci := 2) rfl [.null, .int 0, .int 0, .int 0, .int 0, .int 0, .int 0, .int 0] (by decide) (by decide) dX0_init_26 (fun b3 => ?_)
  refine l_dup C0 dX0_init_29 rfl ?_
  refine n_ctorN C0 hK hA hE hN k3_init yok3 hN.1 _ (by decide) (by decide) (show 3 ≤ 8 from by decide) dX0_init_30 (fun u3 => ?_)
  refine n_eq (w2 := ([(h0, .inr (0, [.ref b1, .int 0, .int 0, .int 0])), (b1, .inl (C, 8, .inr (.inr (.inr (.inr (va_up (fun _ => none) 0 (some b2)))))))] ++ WO3 aE b2 u2 ++ WO3 aE b3 u3 : va_W)) rfl ?_
  refine n_aast C0 hK 1 1 3 2 (cA := C) (n := 8) rfl hC rfl rfl vin_lit1 dX0_init_33 ?_
  refine n_eq (w2 := ([(h0, .inr (0, [.ref b1, .int 0, .int 0, .int 0])), (b1, .inl (C, 8, .inr (.inr (.inr (.inr (va_up (va_up (fun _ => none) 0 (some b2)) 1 (some b3)))))))] ++ WO3 aE b2 u2 ++ WO3 aE b3 u3 : va_W)) rfl ?_
  refine l_iinc C0 (lv' := [(1, _), (0, _)]) (v := 2) 0 dX0_init_34 rfl (by decide) (by decide) rfl ?_
  refine l_goto C0 15 dX0_init_37 (by decide) ?_
  refine l_iload_n C0 0 dX0_init_15 rfl rfl ?_
  refine l_bipush C0 (v := 8) dX0_init_16 (by decide) ?_
  refine l_icmp_ge C0 40 dX0_init_18 (by decide) (fun q => absurd q (by decide)) (fun _ => ?_)
  refine l_aload_n C0 1 dX0_init_21 rfl rfl ?_
  refine n_get C0 hK inW0 0 rfl (ci := 0) rfl 0 (by decide) w_81 rfl dX0_init_22 ?_
  refine l_iload_n C0 0 dX0_init_25 rfl rfl ?_
  refine n_new C0 hK hA inW3 tyX3 tyX3_ok w_34 w_36 w_3 (ci := 2) rfl [.null, .int 0, .int 0, .int 0, .int 0, .int 0, .int 0, .int 0] (by decide) (by decide) dX0_init_26 (fun b4 => ?_)
  refine l_dup C0 dX0_init_29 rfl ?_
  refine n_ctorN C0 hK hA hE hN k3_init yok3 hN.1 _ (by decide) (by decide) (show 3 ≤ 8 from by decide) dX0_init_30 (fun u4 => ?_)
  refine n_eq (w2 := ([(h0, .inr (0, [.ref b1, .int 0, .int 0, .int 0])), (b1, .inl (C, 8, .inr (.inr (.inr (.inr (va_up (va_up (fun _ => none) 0 (some b2)) 1 (some b3)))))))] ++ WO3 aE b2 u2 ++ WO3 aE b3 u3 ++ WO3 aE b4 u4 : va_W)) rfl ?_
  refine n_aast C0 hK 1 1 4 2 (cA := C) (n := 8) rfl hC rfl rfl vin_lit2 dX0_init_33 ?_
  refine n_eq (w2 := ([(h0, .inr (0, [.ref b1, .int 0, .int 0, .int 0])), (b1, .inl (C, 8, .inr (.inr (.inr (.inr (va_up (va_up (va_up (fun _ => none) 0 (some b2)) 1 (some b3)) 2 (some b4)))))))] ++ WO3 aE b2 u2 ++ WO3 aE b3 u3 ++ WO3 aE b4 u4 : va_W)) rfl ?_
  refine l_iinc C0 (lv' := [(1, _), (0, _)]) (v := 3) 0 dX0_init_34 rfl (by decide) (by decide) rfl ?_
  refine l_goto C0 15 dX0_init_37 (by decide) ?_
  refine l_iload_n C0 0 dX0_init_15 rfl rfl ?_
  refine l_bipush C0 (v := 8) dX0_init_16 (by decide) ?_
  refine l_icmp_ge C0 40 dX0_init_18 (by decide) (fun q => absurd q (by decide)) (fun _ => ?_)
  refine l_aload_n C0 1 dX0_init_21 rfl rfl ?_
  refine n_get C0 hK inW0 0 rfl (ci := 0) rfl 0 (by decide) w_81 rfl dX0_init_22 ?_
  refine l_iload_n C0 0 dX0_init_25 rfl rfl ?_
  refine n_new C0 hK hA inW3 tyX3 tyX3_ok w_34 w_36 w_3 (ci := 2) rfl [.null, .int 0, .int 0, .int 0, .int 0, .int 0, .int 0, .int 0] (by decide) (by decide) dX0_init_26 (fun b5 => ?_)
  refine l_dup C0 dX0_init_29 rfl ?_
  refine n_ctorN C0 hK hA hE hN k3_init yok3 hN.1 _ (by decide) (by decide) (show 3 ≤ 8 from by decide) dX0_init_30 (fun u5 => ?_)
  refine n_eq (w2 := ([(h0, .inr (0, [.ref b1, .int 0, .int 0, .int 0])), (b1, .inl (C, 8, .inr (.inr (.inr (.inr (va_up (va_up (va_up (fun _ => none) 0 (some b2)) 1 (some b3)) 2 (some b4)))))))] ++ WO3 aE b2 u2 ++ WO3 aE b3 u3 ++ WO3 aE b4 u4 ++ WO3 aE b5 u5 : va_W)) rfl ?_
  refine n_aast C0 hK 1 1 5 2 (cA := C) (n := 8) rfl hC rfl rfl vin_lit3 dX0_init_33 ?_
  refine n_eq (w2 := ([(h0, .inr (0, [.ref b1, .int 0, .int 0, .int 0])), (b1, .inl (C, 8, .inr (.inr (.inr (.inr (va_up (va_up (va_up (va_up (fun _ => none) 0 (some b2)) 1 (some b3)) 2 (some b4)) 3 (some b5)))))))] ++ WO3 aE b2 u2 ++ WO3 aE b3 u3 ++ WO3 aE b4 u4 ++ WO3 aE b5 u5 : va_W)) rfl ?_
  refine l_iinc C0 (lv' := [(1, _), (0, _)]) (v := 4) 0 dX0_init_34 rfl (by decide) (by decide) rfl ?_
  refine l_goto C0 15 dX0_init_37 (by decide) ?_
  refine l_iload_n C0 0 dX0_init_15 rfl rfl ?_
  refine l_bipush C0 (v := 8) dX0_init_16 (by decide) ?_
  refine l_icmp_ge C0 40 dX0_init_18 (by decide) (fun q => absurd q (by decide)) (fun _ => ?_)
  refine l_aload_n C0 1 dX0_init_21 rfl rfl ?_
  refine n_get C0 hK inW0 0 rfl (ci := 0) rfl 0 (by decide) w_81 rfl dX0_init_22 ?_
  refine l_iload_n C0 0 dX0_init_25 rfl rfl ?_
  refine n_new C0 hK hA inW3 tyX3 tyX3_ok w_34 w_36 w_3 (ci := 2) rfl [.null, .int 0, .int 0, .int 0, .int 0, .int 0, .int 0, .int 0] (by decide) (by decide) dX0_init_26 (fun b6 => ?_)
  refine l_dup C0 dX0_init_29 rfl ?_
  refine n_ctorN C0 hK hA hE hN k3_init yok3 hN.1 _ (by decide) (by decide) (show 3 ≤ 8 from by decide) dX0_init_30 (fun u6 => ?_)
  refine n_eq (w2 := ([(h0, .inr (0, [.ref b1, .int 0, .int 0, .int 0])), (b1, .inl (C, 8, .inr (.inr (.inr (.inr (va_up (va_up (va_up (va_up (fun _ => none) 0 (some b2)) 1 (some b3)) 2 (some b4)) 3 (some b5)))))))] ++ WO3 aE b2 u2 ++ WO3 aE b3 u3 ++ WO3 aE b4 u4 ++ WO3 aE b5 u5 ++ WO3 aE b6 u6 : va_W)) rfl ?_
  refine n_aast C0 hK 1 1 6 2 (cA := C) (n := 8) rfl hC rfl rfl vin_lit4 dX0_init_33 ?_
  refine n_eq (w2 := ([(h0, .inr (0, [.ref b1, .int 0, .int 0, .int 0])), (b1, .inl (C, 8, .inr (.inr (.inr (.inr (va_up (va_up (va_up (va_up (va_up (fun _ => none) 0 (some b2)) 1 (some b3)) 2 (some b4)) 3 (some b5)) 4 (some b6)))))))] ++ WO3 aE b2 u2 ++ WO3 aE b3 u3 ++ WO3 aE b4 u4 ++ WO3 aE b5 u5 ++ WO3 aE b6 u6 : va_W)) rfl ?_
  refine l_iinc C0 (lv' := [(1, _), (0, _)]) (v := 5) 0 dX0_init_34 rfl (by decide) (by decide) rfl ?_
  refine l_goto C0 15 dX0_init_37 (by decide) ?_
  refine l_iload_n C0 0 dX0_init_15 rfl rfl ?_
  refine l_bipush C0 (v := 8) dX0_init_16 (by decide) ?_
  refine l_icmp_ge C0 40 dX0_init_18 (by decide) (fun q => absurd q (by decide)) (fun _ => ?_)
  refine l_aload_n C0 1 dX0_init_21 rfl rfl ?_
  refine n_get C0 hK inW0 0 rfl (ci := 0) rfl 0 (by decide) w_81 rfl dX0_init_22 ?_
  refine l_iload_n C0 0 dX0_init_25 rfl rfl ?_
  refine n_new C0 hK hA inW3 tyX3 tyX3_ok w_34 w_36 w_3 (ci := 2) rfl [.null, .int 0, .int 0, .int 0, .int 0, .int 0, .int 0, .int 0] (by decide) (by decide) dX0_init_26 (fun b7 => ?_)
  refine l_dup C0 dX0_init_29 rfl ?_
  refine n_ctorN C0 hK hA hE hN k3_init yok3 hN.1 _ (by decide) (by decide) (show 3 ≤ 8 from by decide) dX0_init_30 (fun u7 => ?_)
  refine n_eq (w2 := ([(h0, .inr (0, [.ref b1, .int 0, .int 0, .int 0])), (b1, .inl (C, 8, .inr (.inr (.inr (.inr (va_up (va_up (va_up (va_up (va_up (fun _ => none) 0 (some b2)) 1 (some b3)) 2 (some b4)) 3 (some b5)) 4 (some b6)))))))] ++ WO3 aE b2 u2 ++ WO3 aE b3 u3 ++ WO3 aE b4 u4 ++ WO3 aE b5 u5 ++ WO3 aE b6 u6 ++ WO3 aE b7 u7 : va_W)) rfl ?_
  refine n_aast C0 hK 1 1 7 2 (cA := C) (n := 8) rfl hC rfl rfl vin_lit5 dX0_init_33 ?_
  refine n_eq (w2 := ([(h0, .inr (0, [.ref b1, .int 0, .int 0, .int 0])), (b1, .inl (C, 8, .inr (.inr (.inr (.inr (va_up (va_up (va_up (va_up (va_up (va_up (fun _ => none) 0 (some b2)) 1 (some b3)) 2 (some b4)) 3 (some b5)) 4 (some b6)) 5 (some b7)))))))] ++ WO3 aE b2 u2 ++ WO3 aE b3 u3 ++ WO3 aE b4 u4 ++ WO3 aE b5 u5 ++ WO3 aE b6 u6 ++ WO3 aE b7 u7 : va_W)) rfl ?_
  refine l_iinc C0 (lv' := [(1, _), (0, _)]) (v := 6) 0 dX0_init_34 rfl (by decide) (by decide) rfl ?_
  refine l_goto C0 15 dX0_init_37 (by decide) ?_
  refine l_iload_n C0 0 dX0_init_15 rfl rfl ?_
  refine l_bipush C0 (v := 8) dX0_init_16 (by decide) ?_
  refine l_icmp_ge C0 40 dX0_init_18 (by decide) (fun q => absurd q (by decide)) (fun _ => ?_)
  refine l_aload_n C0 1 dX0_init_21 rfl rfl ?_
  refine n_get C0 hK inW0 0 rfl (ci := 0) rfl 0 (by decide) w_81 rfl dX0_init_22 ?_
  refine l_iload_n C0 0 dX0_init_25 rfl rfl ?_
  refine n_new C0 hK hA inW3 tyX3 tyX3_ok w_34 w_36 w_3 (ci := 2) rfl [.null, .int 0, .int 0, .int 0, .int 0, .int 0, .int 0, .int 0] (by decide) (by decide) dX0_init_26 (fun b8 => ?_)
  refine l_dup C0 dX0_init_29 rfl ?_
  refine n_ctorN C0 hK hA hE hN k3_init yok3 hN.1 _ (by decide) (by decide) (show 3 ≤ 8 from by decide) dX0_init_30 (fun u8 => ?_)
  refine n_eq (w2 := ([(h0, .inr (0, [.ref b1, .int 0, .int 0, .int 0])), (b1, .inl (C, 8, .inr (.inr (.inr (.inr (va_up (va_up (va_up (va_up (va_up (va_up (fun _ => none) 0 (some b2)) 1 (some b3)) 2 (some b4)) 3 (some b5)) 4 (some b6)) 5 (some b7)))))))] ++ WO3 aE b2 u2 ++ WO3 aE b3 u3 ++ WO3 aE b4 u4 ++ WO3 aE b5 u5 ++ WO3 aE b6 u6 ++ WO3 aE b7 u7 ++ WO3 aE b8 u8 : va_W)) rfl ?_
  refine n_aast C0 hK 1 1 8 2 (cA := C) (n := 8) rfl hC rfl rfl vin_lit6 dX0_init_33 ?_
  refine n_eq (w2 := ([(h0, .inr (0, [.ref b1, .int 0, .int 0, .int 0])), (b1, .inl (C, 8, .inr (.inr (.inr (.inr (va_up (va_up (va_up (va_up (va_up (va_up (va_up (fun _ => none) 0 (some b2)) 1 (some b3)) 2 (some b4)) 3 (some b5)) 4 (some b6)) 5 (some b7)) 6 (some b8)))))))] ++ WO3 aE b2 u2 ++ WO3 aE b3 u3 ++ WO3 aE b4 u4 ++ WO3 aE b5 u5 ++ WO3 aE b6 u6 ++ WO3 aE b7 u7 ++ WO3 aE b8 u8 : va_W)) rfl ?_
  refine l_iinc C0 (lv' := [(1, _), (0, _)]) (v := 7) 0 dX0_init_34 rfl (by decide) (by decide) rfl ?_
  refine l_goto C0 15 dX0_init_37 (by decide) ?_
  refine l_iload_n C0 0 dX0_init_15 rfl rfl ?_
  refine l_bipush C0 (v := 8) dX0_init_16 (by decide) ?_
  refine l_icmp_ge C0 40 dX0_init_18 (by decide) (fun q => absurd q (by decide)) (fun _ => ?_)
  refine l_aload_n C0 1 dX0_init_21 rfl rfl ?_
  refine n_get C0 hK inW0 0 rfl (ci := 0) rfl 0 (by decide) w_81 rfl dX0_init_22 ?_
  refine l_iload_n C0 0 dX0_init_25 rfl rfl ?_
  refine n_new C0 hK hA inW3 tyX3 tyX3_ok w_34 w_36 w_3 (ci := 2) rfl [.null, .int 0, .int 0, .int 0, .int 0, .int 0, .int 0, .int 0] (by decide) (by decide) dX0_init_26 (fun b9 => ?_)
  refine l_dup C0 dX0_init_29 rfl ?_
  refine n_ctorN C0 hK hA hE hN k3_init yok3 hN.1 _ (by decide) (by decide) (show 3 ≤ 8 from by decide) dX0_init_30 (fun u9 => ?_)
  refine n_eq (w2 := ([(h0, .inr (0, [.ref b1, .int 0, .int 0, .int 0])), (b1, .inl (C, 8, .inr (.inr (.inr (.inr (va_up (va_up (va_up (va_up (va_up (va_up (va_up (fun _ => none) 0 (some b2)) 1 (some b3)) 2 (some b4)) 3 (some b5)) 4 (some b6)) 5 (some b7)) 6 (some b8)))))))] ++ WO3 aE b2 u2 ++ WO3 aE b3 u3 ++ WO3 aE b4 u4 ++ WO3 aE b5 u5 ++ WO3 aE b6 u6 ++ WO3 aE b7 u7 ++ WO3 aE b8 u8 ++ WO3 aE b9 u9 : va_W)) rfl ?_
  refine n_aast C0 hK 1 1 9 2 (cA := C) (n := 8) rfl hC rfl rfl vin_lit7 dX0_init_33 ?_
  refine n_eq (w2 := ([(h0, .inr (0, [.ref b1, .int 0, .int 0, .int 0])), (b1, .inl (C, 8, .inr (.inr (.inr (.inr (va_up (va_up (va_up (va_up (va_up (va_up (va_up (va_up (fun _ => none) 0 (some b2)) 1 (some b3)) 2 (some b4)) 3 (some b5)) 4 (some b6)) 5 (some b7)) 6 (some b8)) 7 (some b9)))))))] ++ WO3 aE b2 u2 ++ WO3 aE b3 u3 ++ WO3 aE b4 u4 ++ WO3 aE b5 u5 ++ WO3 aE b6 u6 ++ WO3 aE b7 u7 ++ WO3 aE b8 u8 ++ WO3 aE b9 u9 : va_W)) rfl ?_
  refine l_iinc C0 (lv' := [(1, _), (0, _)]) (v := 8) 0 dX0_init_34 rfl (by decide) (by decide) rfl ?_
  refine l_goto C0 15 dX0_init_37 (by decide) ?_
  refine l_iload_n C0 0 dX0_init_15 rfl rfl ?_
  refine l_bipush C0 (v := 8) dX0_init_16 (by decide) ?_
  refine l_icmp_ge C0 40 dX0_init_18 (by decide) (fun _ => ?_) (fun q => absurd (by decide) q)
  exact n_vret C0 hr hk (fun j => ([b1, b2, b3, b4, b5, b6, b7, b8, b9] : List Nat).getD j 0) rfl (by decide) dX0_init_40
