def f_X5_howManyBuy_4 (g : Mem) (p0 : Int32) : Nat → Int32 → Int32 → Int32
  | 0, _, _ => 0
  | n0 + 1, a2, a3 => if (g 40 1) ≤ a3 then (a2) else (if (g (8 * 0 + ix a3) 4) ≤ 0 then (f_X5_howManyBuy_4 g p0 n0 a2 (a3 + (1 : Int32))) else (if (f_X3_stilledHunger g (8 * 0 + ix a3)) < p0 then (f_X5_howManyBuy_4 g p0 n0 a2 (a3 + (1 : Int32))) else (f_X5_howManyBuy_4 g p0 n0 (a2 + (1 : Int32)) (a3 + (1 : Int32)))))
def f_X5_howManyBuy (g : Mem) (p0 : Int32) : Int32 := f_X5_howManyBuy_4 g p0 9 (0 : Int32) (0 : Int32)
theorem yk_X5_howManyBuy : yokV yX5_howManyBuy RX5 cX5_howManyBuy 5 (some .int) 1 := ⟨w_489, w_488, wp_19, w_1, by decide +kernel⟩
set_option maxHeartbeats 4000000 in
set_option maxRecDepth 100000 in
theorem c_X5_howManyBuy (l : Launch) (z : ZC) (g : Mem) (p0 : Int32) (hI : In g) : ctC l yX5_howManyBuy cX5_howManyBuy 5 (some .int) 2 33 z g [.ref (zad z 46), .int p0] (qIC z (f_X5_howManyBuy g p0, g)) := by
  refine ct_of (own := RX5) (q := fun r => qIC z (r, g)) (res := f_X5_howManyBuy g p0) (lv := [(0, .ref (zad z 46)), (1, .int p0)]) (enokC z) rfl (by decide) (Nat.le_of_ble_eq_true rfl) rfl (fun p e s m args below meth c C0 hrt hlk => ?_)
  unfold f_X5_howManyBuy
  refine j_iconst C0 (v := 0) dX5_howManyBuy_0 (by decide) ?_
  refine j_istore_n C0 (lv' := [(2, _), (0, _), (1, _)]) dX5_howManyBuy_1 rfl (by decide) rfl ?_
  refine j_iconst C0 (v := 0) dX5_howManyBuy_2 (by decide) ?_
  refine j_istore_n C0 (lv' := [(3, _), (2, _), (0, _), (1, _)]) dX5_howManyBuy_3 rfl (by decide) rfl ?_
  have L4 : ∀ (n0 : Nat) (a2 : Int32) (a3 : Int32), lc a3 (g 40 1) n0 → jj p l e { frames := 2, cells := 0, slots := 0, locals := 33 } s m args below meth c (zA z) (zD z) 52 (zad z) (celC z) 5 (fun r => MQ below (qIC z (r, g)) args s 0 0 (zA z)) (f_X5_howManyBuy_4 g p0 n0 a2 a3) g 4 [(0, .ref (zad z 46)), (1, .int p0), (2, .int a2), (3, .int a3)] [] := by
    intro n0
    induction n0 with
    | zero => intro a2 a3 hL; exact absurd hL.2 (Nat.not_lt_zero _)
    | succ n0 ih0 =>
      intro a2 a3 hL
      rw [f_X5_howManyBuy_4]
      refine j_iload_n C0 3 dX5_howManyBuy_4 rfl rfl ?_
      refine j_aload_n C0 0 dX5_howManyBuy_5 rfl rfl ?_
      refine g_Cakes_now C0 w_157 dX5_howManyBuy_6 ?_
      refine g_Fete_size C0 lt3_0 w_85 dX5_howManyBuy_9 ?_
      refine j_icmp_ge C0 52 dX5_howManyBuy_12 (by decide) (fun c_12 => ?_) (fun c_12 => ?_)
      · refine j_iload_n C0 2 dX5_howManyBuy_52 rfl rfl ?_
        exact j_iretP C0 hrt hlk dX5_howManyBuy_53
      · have hv_a3 : vp_in a3 8 := vin_lc hL c_12 (In_sz40 hI)
        refine j_aload_n C0 0 dX5_howManyBuy_15 rfl rfl ?_
        refine g_Cakes_now C0 w_157 dX5_howManyBuy_16 ?_
        refine g_Fete_people C0 lt3_0 w_82 dX5_howManyBuy_19 ?_
        refine j_iload_n C0 3 dX5_howManyBuy_22 rfl rfl ?_
        refine a_people C0 lt3_0 hv_a3 dX5_howManyBuy_23 ?_
        refine j_astore C0 (lv' := [(4, _), (0, _), (1, _), (2, _), (3, _)]) dX5_howManyBuy_24 (by decide) rfl ?_
        refine j_aload C0 0 dX5_howManyBuy_26 rfl ?_
        refine g_Person_hunger C0 (vin_pk lt3_0 hv_a3) w_53 dX5_howManyBuy_28 ?_
        refine j_if_le C0 46 dX5_howManyBuy_31 (by decide) (fun c_31 => ?_) (fun c_31 => ?_)
        · refine j_iinc C0 (lv' := [(3, _), (4, _), (0, _), (1, _), (2, _)]) (v := _ + (1)) 4 dX5_howManyBuy_46 rfl (by rfl) (by decide) rfl ?_
          refine j_goto C0 4 dX5_howManyBuy_49 (by decide) ?_
          exact j_sub [2, 3, 4, 0] rfl (ih0 _ _ (lc_stepN hL c_12))
        · refine j_aload C0 0 dX5_howManyBuy_34 rfl ?_
          refine j_callVi C0 (c_X3_stilledHunger l z _ (8 * 0 + ix a3) (vin_pk lt3_0 hv_a3)) yk_X3_stilledHunger w_474 (fun H locs hP _ => recvW C0 hP _ (Nat.lt_of_lt_of_le (vin_pk lt3_0 hv_a3) (by decide)) (cel_person (vin_pk lt3_0 hv_a3)) rfl) ⟨Nat.le_of_ble_eq_true rfl, Nat.le_of_ble_eq_true rfl⟩ rfl rfl (Nat.le_of_ble_eq_true rfl) dX5_howManyBuy_36 ?_
          refine j_iload_n C0 2 dX5_howManyBuy_39 rfl rfl ?_
          refine j_icmp_lt C0 46 dX5_howManyBuy_40 (by decide) (fun c_40 => ?_) (fun c_40 => ?_)
          · refine j_iinc C0 (lv' := [(3, _), (4, _), (0, _), (1, _), (2, _)]) (v := _ + (1)) 4 dX5_howManyBuy_46 rfl (by rfl) (by decide) rfl ?_
            refine j_goto C0 4 dX5_howManyBuy_49 (by decide) ?_
            exact j_sub [2, 3, 4, 0] rfl (ih0 _ _ (lc_stepN hL c_12))
          · refine j_iinc C0 (lv' := [(2, _), (4, _), (0, _), (1, _), (3, _)]) (v := _ + (1)) 3 dX5_howManyBuy_43 rfl (by rfl) (by decide) rfl ?_
            refine j_iinc C0 (lv' := [(3, _), (2, _), (4, _), (0, _), (1, _)]) (v := _ + (1)) 4 dX5_howManyBuy_46 rfl (by rfl) (by decide) rfl ?_
            refine j_goto C0 4 dX5_howManyBuy_49 (by decide) ?_
            exact j_sub [3, 4, 1, 0] rfl (ih0 _ _ (lc_stepN hL c_12))
  exact j_sub [2, 3, 1, 0] rfl (L4 9 _ _ (lc_0 (by have := (In_sz40 hI); omega) (by decide)))
def f_X5_howManySell_4 (g : Mem) (p0 : Int32) : Nat → Int32 → Int32 → Int32
  | 0, _, _ => 0
  | n0 + 1, a2, a3 => if (g 40 1) ≤ a3 then (a2) else (if (f_X3_canLook g (8 * 0 + ix a3)) = 0 then (f_X5_howManySell_4 g p0 n0 a2 (a3 + (1 : Int32))) else (if p0 ≤ (f_X3_stilledWish g (8 * 0 + ix a3)) then (f_X5_howManySell_4 g p0 n0 a2 (a3 + (1 : Int32))) else (f_X5_howManySell_4 g p0 n0 (a2 + (1 : Int32)) (a3 + (1 : Int32)))))
def f_X5_howManySell (g : Mem) (p0 : Int32) : Int32 := f_X5_howManySell_4 g p0 9 (0 : Int32) (0 : Int32)
theorem yk_X5_howManySell : yokV yX5_howManySell RX5 cX5_howManySell 5 (some .int) 1 := ⟨w_493, w_492, wp_20, w_1, by decide +kernel⟩
set_option maxHeartbeats 4000000 in
set_option maxRecDepth 100000 in
theorem c_X5_howManySell (l : Launch) (z : ZC) (g : Mem) (p0 : Int32) (hI : In g) : ctC l yX5_howManySell cX5_howManySell 5 (some .int) 2 33 z g [.ref (zad z 46), .int p0] (qIC z (f_X5_howManySell g p0, g)) := by
  refine ct_of (own := RX5) (q := fun r => qIC z (r, g)) (res := f_X5_howManySell g p0) (lv := [(0, .ref (zad z 46)), (1, .int p0)]) (enokC z) rfl (by decide) (Nat.le_of_ble_eq_true rfl) rfl (fun p e s m args below meth c C0 hrt hlk => ?_)
  unfold f_X5_howManySell
  refine j_iconst C0 (v := 0) dX5_howManySell_0 (by decide) ?_
  refine j_istore_n C0 (lv' := [(2, _), (0, _), (1, _)]) dX5_howManySell_1 rfl (by decide) rfl ?_
  refine j_iconst C0 (v := 0) dX5_howManySell_2 (by decide) ?_
  refine j_istore_n C0 (lv' := [(3, _), (2, _), (0, _), (1, _)]) dX5_howManySell_3 rfl (by decide) rfl ?_
  have L4 : ∀ (n0 : Nat) (a2 : Int32) (a3 : Int32), lc a3 (g 40 1) n0 → jj p l e { frames := 2, cells := 0, slots := 0, locals := 33 } s m args below meth c (zA z) (zD z) 52 (zad z) (celC z) 5 (fun r => MQ below (qIC z (r, g)) args s 0 0 (zA z)) (f_X5_howManySell_4 g p0 n0 a2 a3) g 4 [(0, .ref (zad z 46)), (1, .int p0), (2, .int a2), (3, .int a3)] [] := by
    intro n0
    induction n0 with
    | zero => intro a2 a3 hL; exact absurd hL.2 (Nat.not_lt_zero _)
    | succ n0 ih0 =>
      intro a2 a3 hL
      rw [f_X5_howManySell_4]
      refine j_iload_n C0 3 dX5_howManySell_4 rfl rfl ?_
      refine j_aload_n C0 0 dX5_howManySell_5 rfl rfl ?_
      refine g_Cakes_now C0 w_157 dX5_howManySell_6 ?_
      refine g_Fete_size C0 lt3_0 w_85 dX5_howManySell_9 ?_
      refine j_icmp_ge C0 52 dX5_howManySell_12 (by decide) (fun c_12 => ?_) (fun c_12 => ?_)
      · refine j_iload_n C0 2 dX5_howManySell_52 rfl rfl ?_
        exact j_iretP C0 hrt hlk dX5_howManySell_53
      · have hv_a3 : vp_in a3 8 := vin_lc hL c_12 (In_sz40 hI)
        refine j_aload_n C0 0 dX5_howManySell_15 rfl rfl ?_
        refine g_Cakes_now C0 w_157 dX5_howManySell_16 ?_
        refine g_Fete_people C0 lt3_0 w_82 dX5_howManySell_19 ?_
        refine j_iload_n C0 3 dX5_howManySell_22 rfl rfl ?_
        refine a_people C0 lt3_0 hv_a3 dX5_howManySell_23 ?_
        refine j_astore C0 (lv' := [(4, _), (0, _), (1, _), (2, _), (3, _)]) dX5_howManySell_24 (by decide) rfl ?_
        refine j_aload C0 0 dX5_howManySell_26 rfl ?_
        refine j_callVi C0 (c_X3_canLook l z _ (8 * 0 + ix a3) (vin_pk lt3_0 hv_a3) hI) yk_X3_canLook w_450 (fun H locs hP _ => recvW C0 hP _ (Nat.lt_of_lt_of_le (vin_pk lt3_0 hv_a3) (by decide)) (cel_person (vin_pk lt3_0 hv_a3)) rfl) ⟨Nat.le_of_ble_eq_true rfl, Nat.le_of_ble_eq_true rfl⟩ rfl rfl (Nat.le_of_ble_eq_true rfl) dX5_howManySell_28 ?_
        refine j_if_eq C0 46 dX5_howManySell_31 (by decide) (fun c_31 => ?_) (fun c_31 => ?_)
        · refine j_iinc C0 (lv' := [(3, _), (4, _), (0, _), (1, _), (2, _)]) (v := _ + (1)) 4 dX5_howManySell_46 rfl (by rfl) (by decide) rfl ?_
          refine j_goto C0 4 dX5_howManySell_49 (by decide) ?_
          exact j_sub [2, 3, 4, 0] rfl (ih0 _ _ (lc_stepN hL c_12))
        · refine j_aload C0 0 dX5_howManySell_34 rfl ?_
          refine j_callVi C0 (c_X3_stilledWish l z _ (8 * 0 + ix a3) (vin_pk lt3_0 hv_a3)) yk_X3_stilledWish w_494 (fun H locs hP _ => recvW C0 hP _ (Nat.lt_of_lt_of_le (vin_pk lt3_0 hv_a3) (by decide)) (cel_person (vin_pk lt3_0 hv_a3)) rfl) ⟨Nat.le_of_ble_eq_true rfl, Nat.le_of_ble_eq_true rfl⟩ rfl rfl (Nat.le_of_ble_eq_true rfl) dX5_howManySell_36 ?_
          refine j_iload_n C0 2 dX5_howManySell_39 rfl rfl ?_
          refine j_icmp_ge C0 46 dX5_howManySell_40 (by decide) (fun c_40 => ?_) (fun c_40 => ?_)
          · refine j_iinc C0 (lv' := [(3, _), (4, _), (0, _), (1, _), (2, _)]) (v := _ + (1)) 4 dX5_howManySell_46 rfl (by rfl) (by decide) rfl ?_
            refine j_goto C0 4 dX5_howManySell_49 (by decide) ?_
            exact j_sub [2, 3, 4, 0] rfl (ih0 _ _ (lc_stepN hL c_12))
          · refine j_iinc C0 (lv' := [(2, _), (4, _), (0, _), (1, _), (3, _)]) (v := _ + (1)) 3 dX5_howManySell_43 rfl (by rfl) (by decide) rfl ?_
            refine j_iinc C0 (lv' := [(3, _), (2, _), (4, _), (0, _), (1, _)]) (v := _ + (1)) 4 dX5_howManySell_46 rfl (by rfl) (by decide) rfl ?_
            refine j_goto C0 4 dX5_howManySell_49 (by decide) ?_
            exact j_sub [3, 4, 1, 0] rfl (ih0 _ _ (lc_stepN hL c_12))
  exact j_sub [2, 3, 1, 0] rfl (L4 9 _ _ (lc_0 (by have := (In_sz40 hI); omega) (by decide)))
def f_X5_prices (g : Mem) (p0 p1 : Int32) : Int32 := if (f_X5_isPrice p0) = 0 then ((-1 : Int32)) else (if (f_X5_isOneOfTwo p1) = 0 then ((-1 : Int32)) else (if p1 = 0 then ((f_X5_howManyBuy g p0)) else ((f_X5_howManySell g p0))))
theorem yk_X5_prices : yokV yX5_prices RX5 cX5_prices 3 (some .int) 2 := ⟨w_482, w_480, w_481, w_1, by decide +kernel⟩
set_option maxHeartbeats 4000000 in
set_option maxRecDepth 100000 in
theorem c_X5_prices (l : Launch) (z : ZC) (g : Mem) (p0 p1 : Int32) (hI : In g) : ctC l yX5_prices cX5_prices 3 (some .int) 3 57 z g [.ref (zad z 46), .int p0, .int p1] (qIC z (f_X5_prices g p0 p1, g)) := by
  refine ct_of (own := RX5) (q := fun r => qIC z (r, g)) (res := f_X5_prices g p0 p1) (lv := [(0, .ref (zad z 46)), (1, .int p0), (2, .int p1)]) (enokC z) rfl (by decide) (Nat.le_of_ble_eq_true rfl) rfl (fun p e s m args below meth c C0 hrt hlk => ?_)
  unfold f_X5_prices
  refine j_iload_n C0 1 dX5_prices_0 rfl rfl ?_
  refine j_callSi C0 (c_X5_isPrice l z _ _) yk_X5_isPrice w_483 ⟨Nat.le_of_ble_eq_true rfl, Nat.le_of_ble_eq_true rfl⟩ rfl rfl (Nat.le_of_ble_eq_true rfl) dX5_prices_1 ?_
  refine j_if_eq C0 14 dX5_prices_4 (by decide) (fun c_4 => ?_) (fun c_4 => ?_)
  · refine j_iconst C0 (v := (-1)) dX5_prices_14 (by decide) ?_
    exact j_iretP C0 hrt hlk dX5_prices_15
  · refine j_iload_n C0 2 dX5_prices_7 rfl rfl ?_
    refine j_callSi C0 (c_X5_isOneOfTwo l z _ _) yk_X5_isOneOfTwo w_353 ⟨Nat.le_of_ble_eq_true rfl, Nat.le_of_ble_eq_true rfl⟩ rfl rfl (Nat.le_of_ble_eq_true rfl) dX5_prices_8 ?_
    refine j_if_ne C0 16 dX5_prices_11 (by decide) (fun c_11 => ?_) (fun c_11 => ?_)
    · refine j_iconst C0 (v := (-1)) dX5_prices_14 (by decide) ?_
      exact j_iretP C0 hrt hlk dX5_prices_15
    · refine j_iload_n C0 2 dX5_prices_16 rfl rfl ?_
      refine j_if_ne C0 28 dX5_prices_17 (by decide) (fun c_17 => ?_) (fun c_17 => ?_)
      · refine j_aload_n C0 0 dX5_prices_20 rfl rfl ?_
        refine j_iload_n C0 1 dX5_prices_21 rfl rfl ?_
        refine j_callVi C0 (c_X5_howManyBuy l z _ _ hI) yk_X5_howManyBuy w_486 (fun H locs hP _ => recvW C0 hP _ (by decide) cel_main rfl) ⟨Nat.le_of_ble_eq_true rfl, Nat.le_of_ble_eq_true rfl⟩ rfl rfl (Nat.le_of_ble_eq_true rfl) dX5_prices_22 ?_
        refine j_goto C0 33 dX5_prices_25 (by decide) ?_
        exact j_iretP C0 hrt hlk dX5_prices_33
      · refine j_aload_n C0 0 dX5_prices_28 rfl rfl ?_
        refine j_iload_n C0 1 dX5_prices_29 rfl rfl ?_
        refine j_callVi C0 (c_X5_howManySell l z _ _ hI) yk_X5_howManySell w_490 (fun H locs hP _ => recvW C0 hP _ (by decide) cel_main rfl) ⟨Nat.le_of_ble_eq_true rfl, Nat.le_of_ble_eq_true rfl⟩ rfl rfl (Nat.le_of_ble_eq_true rfl) dX5_prices_30 ?_
        exact j_iretP C0 hrt hlk dX5_prices_33
def f_X5_clears_27 (g : Mem) (p0 : Int32) : Nat → Int32 → Int32
  | 0, _ => 0
  | n0 + 1, a3 => if (31 : Int32) < a3 then ((-4 : Int32)) else (if (if (f_X5_howManySell g p0) < (g 40 2) then (f_X5_howManySell g p0) else (g 40 2)) < (f_X5_howManyBuy g a3) then (f_X5_clears_27 g p0 n0 (a3 + (1 : Int32))) else (a3))
def f_X5_clears (g : Mem) (p0 : Int32) : Int32 := if (f_X5_isPrice p0) = 0 then ((-1 : Int32)) else (f_X5_clears_27 g p0 33 (0 : Int32))
theorem yk_X5_clears : yokV yX5_clears RX5 cX5_clears 4 (some .int) 1 := ⟨w_498, w_496, w_497, w_1, by decide +kernel⟩
set_option maxHeartbeats 4000000 in
set_option maxRecDepth 100000 in
theorem c_X5_clears (l : Launch) (z : ZC) (g : Mem) (p0 : Int32) (hI : In g) : ctC l yX5_clears cX5_clears 4 (some .int) 3 57 z g [.ref (zad z 46), .int p0] (qIC z (f_X5_clears g p0, g)) := by
  refine ct_of (own := RX5) (q := fun r => qIC z (r, g)) (res := f_X5_clears g p0) (lv := [(0, .ref (zad z 46)), (1, .int p0)]) (enokC z) rfl (by decide) (Nat.le_of_ble_eq_true rfl) rfl (fun p e s m args below meth c C0 hrt hlk => ?_)
  unfold f_X5_clears
  refine j_iload_n C0 1 dX5_clears_0 rfl rfl ?_
  refine j_callSi C0 (c_X5_isPrice l z _ _) yk_X5_isPrice w_483 ⟨Nat.le_of_ble_eq_true rfl, Nat.le_of_ble_eq_true rfl⟩ rfl rfl (Nat.le_of_ble_eq_true rfl) dX5_clears_1 ?_
  refine j_if_ne C0 9 dX5_clears_4 (by decide) (fun c_4 => ?_) (fun c_4 => ?_)
  · refine j_iconst C0 (v := (-1)) dX5_clears_7 (by decide) ?_
    exact j_iretP C0 hrt hlk dX5_clears_8
  · refine j_aload_n C0 0 dX5_clears_9 rfl rfl ?_
    refine g_Cakes_now C0 w_157 dX5_clears_10 ?_
    refine g_Fete_slicesLeft C0 lt3_0 w_88 dX5_clears_13 ?_
    refine j_aload_n C0 0 dX5_clears_16 rfl rfl ?_
    refine j_iload_n C0 1 dX5_clears_17 rfl rfl ?_
    refine j_callVi C0 (c_X5_howManySell l z _ _ hI) yk_X5_howManySell w_490 (fun H locs hP _ => recvW C0 hP _ (by decide) cel_main rfl) ⟨Nat.le_of_ble_eq_true rfl, Nat.le_of_ble_eq_true rfl⟩ rfl rfl (Nat.le_of_ble_eq_true rfl) dX5_clears_18 ?_
    refine j_mmin C0 w_451 w_313 w_9 w_314 (Nat.le_of_ble_eq_true rfl) (Nat.le_of_ble_eq_true rfl) dX5_clears_21 ?_
    refine j_istore_n C0 (lv' := [(2, _), (0, _), (1, _)]) dX5_clears_24 rfl (by decide) rfl ?_
    refine j_iconst C0 (v := 0) dX5_clears_25 (by decide) ?_
    refine j_istore_n C0 (lv' := [(3, _), (2, _), (0, _), (1, _)]) dX5_clears_26 rfl (by decide) rfl ?_
    have L27 : ∀ (n0 : Nat) (a3 : Int32), lcE a3 31 n0 → jj p l e { frames := 3, cells := 0, slots := 0, locals := 57 } s m args below meth c (zA z) (zD z) 52 (zad z) (celC z) 4 (fun r => MQ below (qIC z (r, g)) args s 0 0 (zA z)) (f_X5_clears_27 g p0 n0 a3) g 27 [(0, .ref (zad z 46)), (1, .int p0), (2, .int (if (f_X5_howManySell g p0) < (g 40 2) then (f_X5_howManySell g p0) else (g 40 2))), (3, .int a3)] [] := by
      intro n0
      induction n0 with
      | zero => intro a3 hL; exact absurd hL.2 (Nat.not_lt_zero _)
      | succ n0 ih0 =>
        intro a3 hL
        rw [f_X5_clears_27]
        refine j_iload_n C0 3 dX5_clears_27 rfl rfl ?_
        refine j_bipush C0 (v := 31) dX5_clears_28 (by decide) ?_
        refine j_icmp_gt C0 50 dX5_clears_30 (by decide) (fun c_30 => ?_) (fun c_30 => ?_)
        · refine j_bipush C0 (v := (-4)) dX5_clears_50 (by decide) ?_
          exact j_iretP C0 hrt hlk dX5_clears_52
        · refine j_aload_n C0 0 dX5_clears_33 rfl rfl ?_
          refine j_iload_n C0 3 dX5_clears_34 rfl rfl ?_
          refine j_callVi C0 (c_X5_howManyBuy l z _ _ hI) yk_X5_howManyBuy w_486 (fun H locs hP _ => recvW C0 hP _ (by decide) cel_main rfl) ⟨Nat.le_of_ble_eq_true rfl, Nat.le_of_ble_eq_true rfl⟩ rfl rfl (Nat.le_of_ble_eq_true rfl) dX5_clears_35 ?_
          refine j_iload_n C0 2 dX5_clears_38 rfl rfl ?_
          refine j_icmp_gt C0 44 dX5_clears_39 (by decide) (fun c_39 => ?_) (fun c_39 => ?_)
          · refine j_iinc C0 (lv' := [(3, _), (0, _), (1, _), (2, _)]) (v := _ + (1)) 3 dX5_clears_44 rfl (by rfl) (by decide) rfl ?_
            refine j_goto C0 27 dX5_clears_47 (by decide) ?_
            exact j_sub [1, 2, 3, 0] rfl (ih0 _ (lcE_step hL c_30 (by decide)))
          · refine j_iload_n C0 3 dX5_clears_42 rfl rfl ?_
            exact j_iretP C0 hrt hlk dX5_clears_43
    exact j_sub [2, 3, 1, 0] rfl (L27 33 _ (lcE_from (by decide) (by decide) (by decide)))
def f_X5_lastOnes (g : Mem) (p0 p1 p2 : Int32) : Int32 := if (f_X5_isWithin p0 (0 : Int32) (99 : Int32)) = 0 then ((-1 : Int32)) else (if (f_X5_isWithin p1 (1 : Int32) (9 : Int32)) = 0 then ((-1 : Int32)) else (if (f_X5_isOneOfTwo p2) = 0 then ((-1 : Int32)) else (if p2 = (1 : Int32) then ((p0 - p0 / (p1 + (1 : Int32)) * (p1 + (1 : Int32)))) else ((if (1 : Int32) < (p0 - p0 / (p1 + (1 : Int32)) * (p1 + (1 : Int32))) then (1 : Int32) else (p0 - p0 / (p1 + (1 : Int32)) * (p1 + (1 : Int32))))))))
theorem yk_X5_lastOnes : yokV yX5_lastOnes RX5 cX5_lastOnes 5 (some .int) 3 := ⟨w_528, w_526, w_527, w_1, by decide +kernel⟩
set_option maxHeartbeats 4000000 in
set_option maxRecDepth 100000 in
theorem c_X5_lastOnes (l : Launch) (z : ZC) (g : Mem) (p0 p1 p2 : Int32) (hI : In g) : ctC l yX5_lastOnes cX5_lastOnes 5 (some .int) 2 42 z g [.ref (zad z 46), .int p0, .int p1, .int p2] (qIC z (f_X5_lastOnes g p0 p1 p2, g)) := by
  refine ct_of (own := RX5) (q := fun r => qIC z (r, g)) (res := f_X5_lastOnes g p0 p1 p2) (lv := [(0, .ref (zad z 46)), (1, .int p0), (2, .int p1), (3, .int p2)]) (enokC z) rfl (by decide) (Nat.le_of_ble_eq_true rfl) rfl (fun p e s m args below meth c C0 hrt hlk => ?_)
  unfold f_X5_lastOnes
  refine j_iload_n C0 1 dX5_lastOnes_0 rfl rfl ?_
  refine j_iconst C0 (v := 0) dX5_lastOnes_1 (by decide) ?_
  refine j_bipush C0 (v := 99) dX5_lastOnes_2 (by decide) ?_
  refine j_callSi C0 (c_X5_isWithin l z _ _ _ _) yk_X5_isWithin w_190 ⟨Nat.le_of_ble_eq_true rfl, Nat.le_of_ble_eq_true rfl⟩ rfl rfl (Nat.le_of_ble_eq_true rfl) dX5_lastOnes_4 ?_
  refine j_if_eq C0 27 dX5_lastOnes_7 (by decide) (fun c_7 => ?_) (fun c_7 => ?_)
  · refine j_iconst C0 (v := (-1)) dX5_lastOnes_27 (by decide) ?_
    exact j_iretP C0 hrt hlk dX5_lastOnes_28
  · refine j_iload_n C0 2 dX5_lastOnes_10 rfl rfl ?_
    refine j_iconst C0 (v := 1) dX5_lastOnes_11 (by decide) ?_
    refine j_bipush C0 (v := 9) dX5_lastOnes_12 (by decide) ?_
    refine j_callSi C0 (c_X5_isWithin l z _ _ _ _) yk_X5_isWithin w_190 ⟨Nat.le_of_ble_eq_true rfl, Nat.le_of_ble_eq_true rfl⟩ rfl rfl (Nat.le_of_ble_eq_true rfl) dX5_lastOnes_14 ?_
    refine j_if_eq C0 27 dX5_lastOnes_17 (by decide) (fun c_17 => ?_) (fun c_17 => ?_)
    · refine j_iconst C0 (v := (-1)) dX5_lastOnes_27 (by decide) ?_
      exact j_iretP C0 hrt hlk dX5_lastOnes_28
    · refine j_iload_n C0 3 dX5_lastOnes_20 rfl rfl ?_
      refine j_callSi C0 (c_X5_isOneOfTwo l z _ _) yk_X5_isOneOfTwo w_353 ⟨Nat.le_of_ble_eq_true rfl, Nat.le_of_ble_eq_true rfl⟩ rfl rfl (Nat.le_of_ble_eq_true rfl) dX5_lastOnes_21 ?_
      refine j_if_ne C0 29 dX5_lastOnes_24 (by decide) (fun c_24 => ?_) (fun c_24 => ?_)
      · refine j_iconst C0 (v := (-1)) dX5_lastOnes_27 (by decide) ?_
        exact j_iretP C0 hrt hlk dX5_lastOnes_28
      · refine j_iload_n C0 1 dX5_lastOnes_29 rfl rfl ?_
        refine j_iload_n C0 2 dX5_lastOnes_30 rfl rfl ?_
        refine j_iconst C0 (v := 1) dX5_lastOnes_31 (by decide) ?_
        refine j_iadd C0 dX5_lastOnes_32 ?_
        refine j_irem C0 dX5_lastOnes_33 (k1_ne c_17) ?_
        refine j_istore C0 (lv' := [(4, _), (0, _), (1, _), (2, _), (3, _)]) dX5_lastOnes_34 (by decide) rfl ?_
        refine j_iload_n C0 4 dX5_lastOnes_36 rfl rfl ?_
        refine j_iconst C0 (v := 1) dX5_lastOnes_37 (by decide) ?_
        refine j_icmp_ne C0 46 dX5_lastOnes_38 (by decide) (fun c_38 => ?_) (fun c_38 => ?_)
        · refine j_iload C0 0 dX5_lastOnes_41 rfl ?_
          refine j_goto C0 52 dX5_lastOnes_43 (by decide) ?_
          exact j_iretP C0 hrt hlk dX5_lastOnes_52
        · refine j_iload C0 0 dX5_lastOnes_46 rfl ?_
          refine j_iconst C0 (v := 1) dX5_lastOnes_48 (by decide) ?_
          refine j_mmin C0 w_451 w_313 w_9 w_314 (Nat.le_of_ble_eq_true rfl) (Nat.le_of_ble_eq_true rfl) dX5_lastOnes_49 ?_
          exact j_iretP C0 hrt hlk dX5_lastOnes_52
def f_X5_shareOf (g : Mem) (p0 : Int32) : Int32 := if (f_X0_allHunger g 0) ≤ 0 then ((0 : Int32)) else (if (f_X0_isThere g 0 p0) = 0 then ((0 : Int32)) else ((((g 40 2) * (g (8 * 0 + ix p0) 4)) / (f_X0_allHunger g 0))))
theorem yk_X5_shareOf : yokV yX5_shareOf RX5 cX5_shareOf 3 (some .int) 1 := ⟨w_536, w_535, wp_23, w_1, by decide +kernel⟩
set_option maxHeartbeats 4000000 in
set_option maxRecDepth 100000 in
theorem c_X5_shareOf (l : Launch) (z : ZC) (g : Mem) (p0 : Int32) (hI : In g) : ctC l yX5_shareOf cX5_shareOf 3 (some .int) 1 22 z g [.ref (zad z 46), .int p0] (qIC z (f_X5_shareOf g p0, g)) := by
  refine ct_of (own := RX5) (q := fun r => qIC z (r, g)) (res := f_X5_shareOf g p0) (lv := [(0, .ref (zad z 46)), (1, .int p0)]) (enokC z) rfl (by decide) (Nat.le_of_ble_eq_true rfl) rfl (fun p e s m args below meth c C0 hrt hlk => ?_)
  unfold f_X5_shareOf
  refine j_aload_n C0 0 dX5_shareOf_0 rfl rfl ?_
  refine g_Cakes_now C0 w_157 dX5_shareOf_1 ?_
  refine j_callVi C0 (c_X0_allHunger l z _ 0 lt3_0 hI) yk_X0_allHunger w_460 (fun H locs hP _ => recvW C0 hP _ (by have := lt3_0; omega) (cel_fete lt3_0) rfl) ⟨Nat.le_of_ble_eq_true rfl, Nat.le_of_ble_eq_true rfl⟩ rfl rfl (Nat.le_of_ble_eq_true rfl) dX5_shareOf_4 ?_
  refine j_istore_n C0 (lv' := [(2, _), (0, _), (1, _)]) dX5_shareOf_7 rfl (by decide) rfl ?_
  refine j_iload_n C0 0 dX5_shareOf_8 rfl rfl ?_
  refine j_if_le C0 48 dX5_shareOf_9 (by decide) (fun c_9 => ?_) (fun c_9 => ?_)
  · refine j_iconst C0 (v := 0) dX5_shareOf_48 (by decide) ?_
    exact j_iretP C0 hrt hlk dX5_shareOf_49
  · refine j_aload_n C0 1 dX5_shareOf_12 rfl rfl ?_
    refine g_Cakes_now C0 w_157 dX5_shareOf_13 ?_
    refine j_iload_n C0 2 dX5_shareOf_16 rfl rfl ?_
    refine j_callVi C0 (c_X0_isThere l z _ 0 lt3_0 _) yk_X0_isThere w_331 (fun H locs hP _ => recvW C0 hP _ (by have := lt3_0; omega) (cel_fete lt3_0) rfl) ⟨Nat.le_of_ble_eq_true rfl, Nat.le_of_ble_eq_true rfl⟩ rfl rfl (Nat.le_of_ble_eq_true rfl) dX5_shareOf_17 ?_
    refine j_if_eq C0 48 dX5_shareOf_20 (by decide) (fun c_20 => ?_) (fun c_20 => ?_)
    · refine j_iconst C0 (v := 0) dX5_shareOf_48 (by decide) ?_
      exact j_iretP C0 hrt hlk dX5_shareOf_49
    · have hv := isThere_in hI lt3_0 c_20
      refine j_aload_n C0 1 dX5_shareOf_23 rfl rfl ?_
      refine g_Cakes_now C0 w_157 dX5_shareOf_24 ?_
      refine g_Fete_slicesLeft C0 lt3_0 w_88 dX5_shareOf_27 ?_
      refine j_aload_n C0 1 dX5_shareOf_30 rfl rfl ?_
      refine g_Cakes_now C0 w_157 dX5_shareOf_31 ?_
      refine g_Fete_people C0 lt3_0 w_82 dX5_shareOf_34 ?_
      refine j_iload_n C0 2 dX5_shareOf_37 rfl rfl ?_
      refine a_people C0 lt3_0 hv dX5_shareOf_38 ?_
      refine g_Person_hunger C0 (vin_pk lt3_0 hv) w_53 dX5_shareOf_39 ?_
      refine j_imul C0 dX5_shareOf_42 ?_
      refine j_iload_n C0 0 dX5_shareOf_43 rfl rfl ?_
      refine j_idiv C0 dX5_shareOf_44 (ne0_of c_9) ?_
      refine j_goto C0 49 dX5_shareOf_45 (by decide) ?_
      exact j_iretP C0 hrt hlk dX5_shareOf_49
def f_X5_shares_38 (g : Mem) (p0 : Int32) : Nat → Int32 → Int32 → Int32
  | 0, _, _ => 0
  | n0 + 1, a2, a3 => if (g 40 1) ≤ a3 then (a2) else (f_X5_shares_38 g p0 n0 (a2 - (f_X5_shareOf g a3)) (a3 + (1 : Int32)))
def f_X5_shares (g : Mem) (p0 : Int32) : Int32 := if p0 < (-1 : Int32) then ((-1 : Int32)) else (if p0 < (g 40 1) then (if p0 < 0 then (f_X5_shares_38 g p0 9 (g 40 2) (0 : Int32)) else ((f_X5_shareOf g p0))) else ((-1 : Int32)))
theorem yk_X5_shares : yokV yX5_shares RX5 cX5_shares 4 (some .int) 1 := ⟨w_532, w_530, w_531, w_1, by decide +kernel⟩
set_option maxHeartbeats 4000000 in
set_option maxRecDepth 100000 in
theorem c_X5_shares (l : Launch) (z : ZC) (g : Mem) (p0 : Int32) (hI : In g) : ctC l yX5_shares cX5_shares 4 (some .int) 2 44 z g [.ref (zad z 46), .int p0] (qIC z (f_X5_shares g p0, g)) := by
  refine ct_of (own := RX5) (q := fun r => qIC z (r, g)) (res := f_X5_shares g p0) (lv := [(0, .ref (zad z 46)), (1, .int p0)]) (enokC z) rfl (by decide) (Nat.le_of_ble_eq_true rfl) rfl (fun p e s m args below meth c C0 hrt hlk => ?_)
  unfold f_X5_shares
  refine j_iload_n C0 1 dX5_shares_0 rfl rfl ?_
  refine j_iconst C0 (v := (-1)) dX5_shares_1 (by decide) ?_
  refine j_icmp_lt C0 16 dX5_shares_2 (by decide) (fun c_2 => ?_) (fun c_2 => ?_)
  · refine j_iconst C0 (v := (-1)) dX5_shares_16 (by decide) ?_
    exact j_iretP C0 hrt hlk dX5_shares_17
  · refine j_iload_n C0 1 dX5_shares_5 rfl rfl ?_
    refine j_aload_n C0 0 dX5_shares_6 rfl rfl ?_
    refine g_Cakes_now C0 w_157 dX5_shares_7 ?_
    refine g_Fete_size C0 lt3_0 w_85 dX5_shares_10 ?_
    refine j_icmp_lt C0 18 dX5_shares_13 (by decide) (fun c_13 => ?_) (fun c_13 => ?_)
    · refine j_iload_n C0 1 dX5_shares_18 rfl rfl ?_
      refine j_if_lt C0 28 dX5_shares_19 (by decide) (fun c_19 => ?_) (fun c_19 => ?_)
      · refine j_aload_n C0 0 dX5_shares_28 rfl rfl ?_
        refine g_Cakes_now C0 w_157 dX5_shares_29 ?_
        refine g_Fete_slicesLeft C0 lt3_0 w_88 dX5_shares_32 ?_
        refine j_istore_n C0 (lv' := [(2, _), (0, _), (1, _)]) dX5_shares_35 rfl (by decide) rfl ?_
        refine j_iconst C0 (v := 0) dX5_shares_36 (by decide) ?_
        refine j_istore_n C0 (lv' := [(3, _), (2, _), (0, _), (1, _)]) dX5_shares_37 rfl (by decide) rfl ?_
        have L38 : ∀ (n0 : Nat) (a2 : Int32) (a3 : Int32), lc a3 (g 40 1) n0 → jj p l e { frames := 2, cells := 0, slots := 0, locals := 44 } s m args below meth c (zA z) (zD z) 52 (zad z) (celC z) 4 (fun r => MQ below (qIC z (r, g)) args s 0 0 (zA z)) (f_X5_shares_38 g p0 n0 a2 a3) g 38 [(0, .ref (zad z 46)), (1, .int p0), (2, .int a2), (3, .int a3)] [] := by
          intro n0
          induction n0 with
          | zero => intro a2 a3 hL; exact absurd hL.2 (Nat.not_lt_zero _)
          | succ n0 ih0 =>
            intro a2 a3 hL
            rw [f_X5_shares_38]
            refine j_iload_n C0 3 dX5_shares_38 rfl rfl ?_
            refine j_aload_n C0 0 dX5_shares_39 rfl rfl ?_
            refine g_Cakes_now C0 w_157 dX5_shares_40 ?_
            refine g_Fete_size C0 lt3_0 w_85 dX5_shares_43 ?_
            refine j_icmp_ge C0 63 dX5_shares_46 (by decide) (fun c_46 => ?_) (fun c_46 => ?_)
            · refine j_iload_n C0 2 dX5_shares_63 rfl rfl ?_
              exact j_iretP C0 hrt hlk dX5_shares_64
            · refine j_iload_n C0 2 dX5_shares_49 rfl rfl ?_
              refine j_aload_n C0 0 dX5_shares_50 rfl rfl ?_
              refine j_iload_n C0 3 dX5_shares_51 rfl rfl ?_
              refine j_callVi C0 (c_X5_shareOf l z _ _ hI) yk_X5_shareOf w_533 (fun H locs hP _ => recvW C0 hP _ (by decide) cel_main rfl) ⟨Nat.le_of_ble_eq_true rfl, Nat.le_of_ble_eq_true rfl⟩ rfl rfl (Nat.le_of_ble_eq_true rfl) dX5_shares_52 ?_
              refine j_isub C0 dX5_shares_55 ?_
              refine j_istore_n C0 (lv' := [(2, _), (0, _), (1, _), (3, _)]) dX5_shares_56 rfl (by decide) rfl ?_
              refine j_iinc C0 (lv' := [(3, _), (2, _), (0, _), (1, _)]) (v := _ + (1)) 3 dX5_shares_57 rfl (by rfl) (by decide) rfl ?_
              refine j_goto C0 38 dX5_shares_60 (by decide) ?_
              exact j_sub [2, 3, 1, 0] rfl (ih0 _ _ (lc_stepN hL c_46))
        exact j_sub [2, 3, 1, 0] rfl (L38 9 _ _ (lc_0 (by have := (In_sz40 hI); omega) (by decide)))
      · refine j_aload_n C0 0 dX5_shares_22 rfl rfl ?_
        refine j_iload_n C0 1 dX5_shares_23 rfl rfl ?_
        refine j_callVi C0 (c_X5_shareOf l z _ _ hI) yk_X5_shareOf w_533 (fun H locs hP _ => recvW C0 hP _ (by decide) cel_main rfl) ⟨Nat.le_of_ble_eq_true rfl, Nat.le_of_ble_eq_true rfl⟩ rfl rfl (Nat.le_of_ble_eq_true rfl) dX5_shares_24 ?_
        exact j_iretP C0 hrt hlk dX5_shares_27
    · refine j_iconst C0 (v := (-1)) dX5_shares_16 (by decide) ?_
      exact j_iretP C0 hrt hlk dX5_shares_17
def f_X5_canEatWatchedFromOutside_2 (g : Mem) (p0 p1 : Int32) : Nat → Int32 → Int32
  | 0, _ => 0
  | n0 + 1, a3 => if (g 40 1) ≤ a3 then ((0 : Int32)) else (if ((p1 >>> (a3 &&& 31)) &&& (1 : Int32)) = 0 then (if (f_X0_canEat g 0 p0 a3) = 0 then (f_X5_canEatWatchedFromOutside_2 g p0 p1 n0 (a3 + (1 : Int32))) else ((1 : Int32))) else (f_X5_canEatWatchedFromOutside_2 g p0 p1 n0 (a3 + (1 : Int32))))
def f_X5_canEatWatchedFromOutside (g : Mem) (p0 p1 : Int32) : Int32 := f_X5_canEatWatchedFromOutside_2 g p0 p1 9 (0 : Int32)
theorem b01_f_X5_canEatWatchedFromOutside_2 (g : Mem) (p0 p1 : Int32) : ∀ (n : Nat) (x0 : Int32), f_X5_canEatWatchedFromOutside_2 g p0 p1 n x0 = 0 ∨ f_X5_canEatWatchedFromOutside_2 g p0 p1 n x0 = 1 := by
  intro n
  induction n with
  | zero => intros; exact Or.inl rfl
  | succ n ih =>
    intros
    rw [f_X5_canEatWatchedFromOutside_2]
    repeat' split
    all_goals first | (with_reducible exact Or.inl rfl) | (with_reducible exact Or.inr rfl) | exact ih _
theorem b01_X5_canEatWatchedFromOutside (g : Mem) (p0 p1 : Int32) : f_X5_canEatWatchedFromOutside g p0 p1 = 0 ∨ f_X5_canEatWatchedFromOutside g p0 p1 = 1 := by
  unfold f_X5_canEatWatchedFromOutside
  repeat' split
  all_goals first | (with_reducible exact Or.inl rfl) | (with_reducible exact Or.inr rfl) | assumption | exact b01_f_X5_canEatWatchedFromOutside_2 _ _ _ _ _
theorem yk_X5_canEatWatchedFromOutside : yokV yX5_canEatWatchedFromOutside RX5 cX5_canEatWatchedFromOutside 4 (some .boolean) 2 := ⟨w_572, w_571, wp_24, w_1, by decide +kernel⟩
set_option maxHeartbeats 4000000 in
set_option maxRecDepth 100000 in
theorem c_X5_canEatWatchedFromOutside (l : Launch) (z : ZC) (g : Mem) (p0 p1 : Int32) (hI : In g) : ctC l yX5_canEatWatchedFromOutside cX5_canEatWatchedFromOutside 4 (some .boolean) 3 65 z g [.ref (zad z 46), .int p0, .int p1] (qIC z (f_X5_canEatWatchedFromOutside g p0 p1, g)) := by
  refine ct_of (own := RX5) (q := fun r => qIC z (r, g)) (res := f_X5_canEatWatchedFromOutside g p0 p1) (lv := [(0, .ref (zad z 46)), (1, .int p0), (2, .int p1)]) (enokC z) rfl (by decide) (Nat.le_of_ble_eq_true rfl) rfl (fun p e s m args below meth c C0 hrt hlk => ?_)
  unfold f_X5_canEatWatchedFromOutside
  refine j_iconst C0 (v := 0) dX5_canEatWatchedFromOutside_0 (by decide) ?_
  refine j_istore_n C0 (lv' := [(3, _), (0, _), (1, _), (2, _)]) dX5_canEatWatchedFromOutside_1 rfl (by decide) rfl ?_
  have L2 : ∀ (n0 : Nat) (a3 : Int32), lc a3 (g 40 1) n0 → jj p l e { frames := 3, cells := 0, slots := 0, locals := 65 } s m args below meth c (zA z) (zD z) 52 (zad z) (celC z) 4 (fun r => MQ below (qIC z (r, g)) args s 0 0 (zA z)) (f_X5_canEatWatchedFromOutside_2 g p0 p1 n0 a3) g 2 [(0, .ref (zad z 46)), (1, .int p0), (2, .int p1), (3, .int a3)] [] := by
    intro n0
    induction n0 with
    | zero => intro a3 hL; exact absurd hL.2 (Nat.not_lt_zero _)
    | succ n0 ih0 =>
      intro a3 hL
      rw [f_X5_canEatWatchedFromOutside_2]
      refine j_iload_n C0 3 dX5_canEatWatchedFromOutside_2 rfl rfl ?_
      refine j_aload_n C0 0 dX5_canEatWatchedFromOutside_3 rfl rfl ?_
      refine g_Cakes_now C0 w_157 dX5_canEatWatchedFromOutside_4 ?_
      refine g_Fete_size C0 lt3_0 w_85 dX5_canEatWatchedFromOutside_7 ?_
      refine j_icmp_ge C0 41 dX5_canEatWatchedFromOutside_10 (by decide) (fun c_10 => ?_) (fun c_10 => ?_)
      · refine j_iconst C0 (v := 0) dX5_canEatWatchedFromOutside_41 (by decide) ?_
        exact j_zretP C0 hrt hlk (Or.inl rfl) dX5_canEatWatchedFromOutside_42
      · refine j_iload_n C0 2 dX5_canEatWatchedFromOutside_13 rfl rfl ?_
        refine j_iload_n C0 3 dX5_canEatWatchedFromOutside_14 rfl rfl ?_
        refine j_ishr C0 dX5_canEatWatchedFromOutside_15 ?_
        refine j_iconst C0 (v := 1) dX5_canEatWatchedFromOutside_16 (by decide) ?_
        refine j_iand C0 dX5_canEatWatchedFromOutside_17 ?_
        refine j_if_ne C0 35 dX5_canEatWatchedFromOutside_18 (by decide) (fun c_18 => ?_) (fun c_18 => ?_)
        · refine j_aload_n C0 0 dX5_canEatWatchedFromOutside_21 rfl rfl ?_
          refine g_Cakes_now C0 w_157 dX5_canEatWatchedFromOutside_22 ?_
          refine j_iload_n C0 1 dX5_canEatWatchedFromOutside_25 rfl rfl ?_
          refine j_iload_n C0 3 dX5_canEatWatchedFromOutside_26 rfl rfl ?_
          refine j_callVi C0 (c_X0_canEat l z _ 0 lt3_0 _ _ hI) yk_X0_canEat w_369 (fun H locs hP _ => recvW C0 hP _ (by have := lt3_0; omega) (cel_fete lt3_0) rfl) ⟨Nat.le_of_ble_eq_true rfl, Nat.le_of_ble_eq_true rfl⟩ rfl rfl (Nat.le_of_ble_eq_true rfl) dX5_canEatWatchedFromOutside_27 ?_
          refine j_if_eq C0 35 dX5_canEatWatchedFromOutside_30 (by decide) (fun c_30 => ?_) (fun c_30 => ?_)
          · refine j_iinc C0 (lv' := [(3, _), (0, _), (1, _), (2, _)]) (v := _ + (1)) 3 dX5_canEatWatchedFromOutside_35 rfl (by rfl) (by decide) rfl ?_
            refine j_goto C0 2 dX5_canEatWatchedFromOutside_38 (by decide) ?_
            exact j_sub [1, 2, 3, 0] rfl (ih0 _ (lc_stepN hL c_10))
          · refine j_iconst C0 (v := 1) dX5_canEatWatchedFromOutside_33 (by decide) ?_
            exact j_zretP C0 hrt hlk (Or.inr rfl) dX5_canEatWatchedFromOutside_34
        · refine j_iinc C0 (lv' := [(3, _), (0, _), (1, _), (2, _)]) (v := _ + (1)) 3 dX5_canEatWatchedFromOutside_35 rfl (by rfl) (by decide) rfl ?_
          refine j_goto C0 2 dX5_canEatWatchedFromOutside_38 (by decide) ?_
          exact j_sub [1, 2, 3, 0] rfl (ih0 _ (lc_stepN hL c_10))
  exact j_sub [1, 2, 3, 0] rfl (L2 9 _ (lc_0 (by have := (In_sz40 hI); omega) (by decide)))
def f_X5_seen_23 (g : Mem) (p0 : Int32) : Nat → Int32 → Int32 → Int32
  | 0, _, _ => 0
  | n0 + 1, a2, a3 => if (g 40 1) ≤ a3 then (a2) else (if ((p0 >>> (a3 &&& 31)) &&& (1 : Int32)) = (1 : Int32) then (if (f_X5_canEatWatchedFromOutside g a3 p0) = 0 then ((0 : Int32)) else (f_X5_seen_23 g p0 n0 a2 (a3 + (1 : Int32)))) else (if (f_X3_canLook g (8 * 0 + ix a3)) = 0 then (f_X5_seen_23 g p0 n0 a2 (a3 + (1 : Int32))) else (f_X5_seen_23 g p0 n0 (a2 + (1 : Int32)) (a3 + (1 : Int32)))))
def f_X5_seen (g : Mem) (p0 : Int32) : Int32 := if p0 < 0 then ((-1 : Int32)) else (if p0 < ((1 : Int32) <<< ((g 40 1) &&& 31)) then (f_X5_seen_23 g p0 9 (0 : Int32) (0 : Int32)) else ((-1 : Int32)))
theorem yk_X5_seen : yokV yX5_seen RX5 cX5_seen 5 (some .int) 1 := ⟨w_568, w_566, w_567, w_1, by decide +kernel⟩
set_option maxHeartbeats 4000000 in
set_option maxRecDepth 100000 in
theorem c_X5_seen (l : Launch) (z : ZC) (g : Mem) (p0 : Int32) (hI : In g) : ctC l yX5_seen cX5_seen 5 (some .int) 4 88 z g [.ref (zad z 46), .int p0] (qIC z (f_X5_seen g p0, g)) := by
  refine ct_of (own := RX5) (q := fun r => qIC z (r, g)) (res := f_X5_seen g p0) (lv := [(0, .ref (zad z 46)), (1, .int p0)]) (enokC z) rfl (by decide) (Nat.le_of_ble_eq_true rfl) rfl (fun p e s m args below meth c C0 hrt hlk => ?_)
  unfold f_X5_seen
  refine j_iload_n C0 1 dX5_seen_0 rfl rfl ?_
  refine j_if_lt C0 17 dX5_seen_1 (by decide) (fun c_1 => ?_) (fun c_1 => ?_)
  · refine j_iconst C0 (v := (-1)) dX5_seen_17 (by decide) ?_
    exact j_iretP C0 hrt hlk dX5_seen_18
  · refine j_iload_n C0 1 dX5_seen_4 rfl rfl ?_
    refine j_iconst C0 (v := 1) dX5_seen_5 (by decide) ?_
    refine j_aload_n C0 0 dX5_seen_6 rfl rfl ?_
    refine g_Cakes_now C0 w_157 dX5_seen_7 ?_
    refine g_Fete_size C0 lt3_0 w_85 dX5_seen_10 ?_
    refine j_ishl C0 dX5_seen_13 ?_
    refine j_icmp_lt C0 19 dX5_seen_14 (by decide) (fun c_14 => ?_) (fun c_14 => ?_)
    · refine j_iconst C0 (v := 0) dX5_seen_19 (by decide) ?_
      refine j_istore_n C0 (lv' := [(2, _), (0, _), (1, _)]) dX5_seen_20 rfl (by decide) rfl ?_
      refine j_iconst C0 (v := 0) dX5_seen_21 (by decide) ?_
      refine j_istore_n C0 (lv' := [(3, _), (2, _), (0, _), (1, _)]) dX5_seen_22 rfl (by decide) rfl ?_
      have L23 : ∀ (n0 : Nat) (a2 : Int32) (a3 : Int32), lc a3 (g 40 1) n0 → jj p l e { frames := 4, cells := 0, slots := 0, locals := 88 } s m args below meth c (zA z) (zD z) 52 (zad z) (celC z) 5 (fun r => MQ below (qIC z (r, g)) args s 0 0 (zA z)) (f_X5_seen_23 g p0 n0 a2 a3) g 23 [(0, .ref (zad z 46)), (1, .int p0), (2, .int a2), (3, .int a3)] [] := by
        intro n0
        induction n0 with
        | zero => intro a2 a3 hL; exact absurd hL.2 (Nat.not_lt_zero _)
        | succ n0 ih0 =>
          intro a2 a3 hL
          rw [f_X5_seen_23]
          refine j_iload_n C0 3 dX5_seen_23 rfl rfl ?_
          refine j_aload_n C0 0 dX5_seen_24 rfl rfl ?_
          refine g_Cakes_now C0 w_157 dX5_seen_25 ?_
          refine g_Fete_size C0 lt3_0 w_85 dX5_seen_28 ?_
          refine j_icmp_ge C0 95 dX5_seen_31 (by decide) (fun c_31 => ?_) (fun c_31 => ?_)
          · refine j_iload_n C0 2 dX5_seen_95 rfl rfl ?_
            exact j_iretP C0 hrt hlk dX5_seen_96
          · have hv_a3 : vp_in a3 8 := vin_lc hL c_31 (In_sz40 hI)
            refine j_iload_n C0 1 dX5_seen_34 rfl rfl ?_
            refine j_iload_n C0 3 dX5_seen_35 rfl rfl ?_
            refine j_ishr C0 dX5_seen_36 ?_
            refine j_iconst C0 (v := 1) dX5_seen_37 (by decide) ?_
            refine j_iand C0 dX5_seen_38 ?_
            refine j_iconst C0 (v := 1) dX5_seen_39 (by decide) ?_
            refine j_icmp_ne C0 47 dX5_seen_40 (by decide) (fun c_40 => ?_) (fun c_40 => ?_)
            · refine j_iconst C0 (v := 1) dX5_seen_43 (by decide) ?_
              refine j_goto C0 48 dX5_seen_44 (by decide) ?_
              refine j_istore C0 (lv' := [(4, _), (0, _), (1, _), (2, _), (3, _)]) dX5_seen_48 (by decide) rfl ?_
              refine j_iload C0 0 dX5_seen_50 rfl ?_
              refine j_if_eqF C0 66 dX5_seen_52 (by decide) (by decide) ?_
              refine j_aload_n C0 1 dX5_seen_55 rfl rfl ?_
              refine j_iload_n C0 4 dX5_seen_56 rfl rfl ?_
              refine j_iload_n C0 2 dX5_seen_57 rfl rfl ?_
              refine j_callVi C0 (c_X5_canEatWatchedFromOutside l z _ _ _ hI) yk_X5_canEatWatchedFromOutside w_569 (fun H locs hP _ => recvW C0 hP _ (by decide) cel_main rfl) ⟨Nat.le_of_ble_eq_true rfl, Nat.le_of_ble_eq_true rfl⟩ rfl rfl (Nat.le_of_ble_eq_true rfl) dX5_seen_58 ?_
              refine j_if_ne C0 66 dX5_seen_61 (by decide) (fun c_61 => ?_) (fun c_61 => ?_)
              · refine j_iconst C0 (v := 0) dX5_seen_64 (by decide) ?_
                exact j_iretP C0 hrt hlk dX5_seen_65
              · refine j_iload C0 0 dX5_seen_66 rfl ?_
                refine j_if_neT C0 89 dX5_seen_68 (by decide) (by decide) ?_
                refine j_iinc C0 (lv' := [(3, _), (4, _), (0, _), (1, _), (2, _)]) (v := _ + (1)) 4 dX5_seen_89 rfl (by rfl) (by decide) rfl ?_
                refine j_goto C0 23 dX5_seen_92 (by decide) ?_
                exact j_sub [2, 3, 4, 0] rfl (ih0 _ _ (lc_stepN hL c_31))
            · refine j_iconst C0 (v := 0) dX5_seen_47 (by decide) ?_
              refine j_istore C0 (lv' := [(4, _), (0, _), (1, _), (2, _), (3, _)]) dX5_seen_48 (by decide) rfl ?_
              refine j_iload C0 0 dX5_seen_50 rfl ?_
              refine j_if_eqT C0 66 dX5_seen_52 (by decide) (by decide) ?_
              refine j_iload C0 0 dX5_seen_66 rfl ?_
              refine j_if_neF C0 89 dX5_seen_68 (by decide) (by decide) ?_
              refine j_aload_n C0 1 dX5_seen_71 rfl rfl ?_
              refine g_Cakes_now C0 w_157 dX5_seen_72 ?_
              refine g_Fete_people C0 lt3_0 w_82 dX5_seen_75 ?_
              refine j_iload_n C0 4 dX5_seen_78 rfl rfl ?_
              refine a_people C0 lt3_0 hv_a3 dX5_seen_79 ?_
              refine j_callVi C0 (c_X3_canLook l z _ (8 * 0 + ix a3) (vin_pk lt3_0 hv_a3) hI) yk_X3_canLook w_450 (fun H locs hP _ => recvW C0 hP _ (Nat.lt_of_lt_of_le (vin_pk lt3_0 hv_a3) (by decide)) (cel_person (vin_pk lt3_0 hv_a3)) rfl) ⟨Nat.le_of_ble_eq_true rfl, Nat.le_of_ble_eq_true rfl⟩ rfl rfl (Nat.le_of_ble_eq_true rfl) dX5_seen_80 ?_
              refine j_if_eq C0 89 dX5_seen_83 (by decide) (fun c_83 => ?_) (fun c_83 => ?_)
              · refine j_iinc C0 (lv' := [(3, _), (4, _), (0, _), (1, _), (2, _)]) (v := _ + (1)) 4 dX5_seen_89 rfl (by rfl) (by decide) rfl ?_
                refine j_goto C0 23 dX5_seen_92 (by decide) ?_
                exact j_sub [2, 3, 4, 0] rfl (ih0 _ _ (lc_stepN hL c_31))
              · refine j_iinc C0 (lv' := [(2, _), (4, _), (0, _), (1, _), (3, _)]) (v := _ + (1)) 3 dX5_seen_86 rfl (by rfl) (by decide) rfl ?_
                refine j_iinc C0 (lv' := [(3, _), (2, _), (4, _), (0, _), (1, _)]) (v := _ + (1)) 4 dX5_seen_89 rfl (by rfl) (by decide) rfl ?_
                refine j_goto C0 23 dX5_seen_92 (by decide) ?_
                exact j_sub [3, 4, 1, 0] rfl (ih0 _ _ (lc_stepN hL c_31))
      exact j_sub [2, 3, 1, 0] rfl (L23 9 _ _ (lc_0 (by have := (In_sz40 hI); omega) (by decide)))
    · refine j_iconst C0 (v := (-1)) dX5_seen_17 (by decide) ?_
      exact j_iretP C0 hrt hlk dX5_seen_18
def f_X5_nextSeed (p0 : Int32) : Int32 := ((p0 * (1103515245 : Int32)) + (12345 : Int32))
theorem yk_X5_nextSeed : yokS yX5_nextSeed RX5 cX5_nextSeed 1 (some .int) 1 := ⟨w_592, w_591, w_1, by decide +kernel⟩
set_option maxHeartbeats 4000000 in
set_option maxRecDepth 100000 in
theorem c_X5_nextSeed (l : Launch) (z : ZC) (g : Mem) (p0 : Int32) : ctC l yX5_nextSeed cX5_nextSeed 1 (some .int) 0 0 z g [.int p0] (qIC z (f_X5_nextSeed p0, g)) := by
  refine ct_of (own := RX5) (q := fun r => qIC z (r, g)) (res := f_X5_nextSeed p0) (lv := [(0, .int p0)]) (enokC z) rfl (by decide) (Nat.le_of_ble_eq_true rfl) rfl (fun p e s m args below meth c C0 hrt hlk => ?_)
  unfold f_X5_nextSeed
  refine j_iload_n C0 0 dX5_nextSeed_0 rfl rfl ?_
  refine j_ldc_w C0 dX5_nextSeed_1 w_593 ?_
  refine j_imul C0 dX5_nextSeed_4 ?_
  refine j_sipush C0 (v := 12345) dX5_nextSeed_5 (by decide) ?_
  refine j_iadd C0 dX5_nextSeed_8 ?_
  exact j_iretP C0 hrt hlk dX5_nextSeed_9
def f_X5_drawn (p0 p1 : Int32) : Int32 := if p1 ≤ 0 then ((0 : Int32)) else ((((p0 &&& (2147483647 : Int32)) / (65536 : Int32)) - ((p0 &&& (2147483647 : Int32)) / (65536 : Int32)) / p1 * p1))
theorem yk_X5_drawn : yokS yX5_drawn RX5 cX5_drawn 2 (some .int) 2 := ⟨w_596, w_595, w_1, by decide +kernel⟩
set_option maxHeartbeats 4000000 in
set_option maxRecDepth 100000 in
theorem c_X5_drawn (l : Launch) (z : ZC) (g : Mem) (p0 p1 : Int32) : ctC l yX5_drawn cX5_drawn 2 (some .int) 0 0 z g [.int p0, .int p1] (qIC z (f_X5_drawn p0 p1, g)) := by
  refine ct_of (own := RX5) (q := fun r => qIC z (r, g)) (res := f_X5_drawn p0 p1) (lv := [(0, .int p0), (1, .int p1)]) (enokC z) rfl (by decide) (Nat.le_of_ble_eq_true rfl) rfl (fun p e s m args below meth c C0 hrt hlk => ?_)
  unfold f_X5_drawn
  refine j_iload_n C0 1 dX5_drawn_0 rfl rfl ?_
  refine j_if_le C0 18 dX5_drawn_1 (by decide) (fun c_1 => ?_) (fun c_1 => ?_)
  · refine j_iconst C0 (v := 0) dX5_drawn_18 (by decide) ?_
    exact j_iretP C0 hrt hlk dX5_drawn_19
  · refine j_iload_n C0 0 dX5_drawn_4 rfl rfl ?_
    refine j_ldc_w C0 dX5_drawn_5 w_597 ?_
    refine j_iand C0 dX5_drawn_8 ?_
    refine j_ldc_w C0 dX5_drawn_9 w_598 ?_
    refine j_idiv C0 dX5_drawn_12 (by decide) ?_
    refine j_iload_n C0 1 dX5_drawn_13 rfl rfl ?_
    refine j_irem C0 dX5_drawn_14 (ne0_of c_1) ?_
    refine j_goto C0 19 dX5_drawn_15 (by decide) ?_
    exact j_iretP C0 hrt hlk dX5_drawn_19
