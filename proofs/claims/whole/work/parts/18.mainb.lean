def f_X5_choices_5 (g : Mem) (p0 p1 : Int32) : Nat → Int64 → Int32 → Int64
  | 0, _, _ => 0
  | n0 + 1, a2, a4 => if p1 < a4 then (a2) else (f_X5_choices_5 g p0 p1 n0 ((a2 * (Int32.toInt64 ((p0 - p1) + a4))) / (Int32.toInt64 a4)) (a4 + (1 : Int32)))
def f_X5_choices (g : Mem) (p0 p1 : Int32) : Int64 := f_X5_choices_5 g p0 p1 9 (1 : Int64) (1 : Int32)
theorem yk_X5_choices : yokS yX5_choices RX5 cX5_choices 5 (some .long) 2 := ⟨w_544, w_543, w_1, by decide +kernel⟩
set_option maxHeartbeats 4000000 in
set_option maxRecDepth 100000 in
theorem c_X5_choices (l : Launch) (z : ZC) (g : Mem) (p0 p1 : Int32) (h1 : p1.toInt ≤ 8) : ctC l yX5_choices cX5_choices 5 (some .long) 0 0 z g [.int p0, .int p1] (qLC z (f_X5_choices g p0 p1, g)) := by
  refine ct_of (own := RX5) (q := fun r => qLC z (r, g)) (res := f_X5_choices g p0 p1) (lv := [(0, .int p0), (1, .int p1)]) (enokC z) rfl (by decide) (Nat.le_of_ble_eq_true rfl) rfl (fun p e s m args below meth c C0 hrt hlk => ?_)
  unfold f_X5_choices
  refine j_lconst C0 (v := 1) dX5_choices_0 (by decide) ?_
  refine j_lstore_n C0 (lv' := [(2, _), (0, _), (1, _)]) dX5_choices_1 rfl (by decide) rfl ?_
  refine j_iconst C0 (v := 1) dX5_choices_2 (by decide) ?_
  refine j_istore C0 (lv' := [(4, _), (2, _), (0, _), (1, _)]) dX5_choices_3 (by decide) rfl ?_
  have L5 : ∀ (n0 : Nat) (a2 : Int64) (a4 : Int32), lcE a4 p1 n0 → 1 ≤ a4.toInt → jj p l e { frames := 0, cells := 0, slots := 0, locals := 0 } s m args below meth c (zA z) (zD z) 52 (zad z) (celC z) 5 (fun r => MQ below (qLC z (r, g)) args s 0 0 (zA z)) (f_X5_choices_5 g p0 p1 n0 a2 a4) g 5 [(0, .int p0), (1, .int p1), (2, .long a2), (4, .int a4)] [] := by
    intro n0
    induction n0 with
    | zero => intro a2 a4 hL hp; exact absurd hL.2 (Nat.not_lt_zero _)
    | succ n0 ih0 =>
      intro a2 a4 hL hp
      rw [f_X5_choices_5]
      refine j_iload C0 3 dX5_choices_5 rfl ?_
      refine j_iload_n C0 1 dX5_choices_7 rfl rfl ?_
      refine j_icmp_gt C0 31 dX5_choices_8 (by decide) (fun c_8 => ?_) (fun c_8 => ?_)
      · refine j_lload_n C0 2 dX5_choices_31 rfl rfl ?_
        exact j_lretP C0 hrt hlk dX5_choices_32
      · refine j_lload_n C0 2 dX5_choices_11 rfl rfl ?_
        refine j_iload_n C0 0 dX5_choices_12 rfl rfl ?_
        refine j_iload_n C0 1 dX5_choices_13 rfl rfl ?_
        refine j_isub C0 dX5_choices_14 ?_
        refine j_iload C0 3 dX5_choices_15 rfl ?_
        refine j_iadd C0 dX5_choices_17 ?_
        refine j_i2l C0 dX5_choices_18 ?_
        refine j_lmul C0 dX5_choices_19 ?_
        refine j_iload C0 3 dX5_choices_20 rfl ?_
        refine j_i2l C0 dX5_choices_22 ?_
        refine j_ldiv C0 dX5_choices_23 (i64_ne hp) ?_
        refine j_lstore_n C0 (lv' := [(2, _), (0, _), (1, _), (4, _)]) dX5_choices_24 rfl (by decide) rfl ?_
        refine j_iinc C0 (lv' := [(4, _), (2, _), (0, _), (1, _)]) (v := _ + (1)) 3 dX5_choices_25 rfl (by rfl) (by decide) rfl ?_
        refine j_goto C0 5 dX5_choices_28 (by decide) ?_
        exact j_sub [2, 3, 1, 0] rfl (ih0 _ _ (lcE_step hL c_8 (by omega)) (one_step hL.1 hp (by have q : ¬ p1.toInt < a4.toInt := fun q => c_8 (Int32.lt_iff_toInt_lt.mpr q); omega)))
  exact j_sub [2, 3, 1, 0] rfl (L5 9 _ _ (lcE_from (by decide) (by have e1 : (1 : Int32).toInt = 1 := rfl; omega) (by decide)) (by decide))
def f_X5_power_5 (g : Mem) (p0 p1 : Int32) : Nat → Int64 → Int32 → Int64
  | 0, _, _ => 0
  | n0 + 1, a2, a4 => if p1 ≤ a4 then (a2) else (f_X5_power_5 g p0 p1 n0 (a2 * (Int32.toInt64 p0)) (a4 + (1 : Int32)))
def f_X5_power (g : Mem) (p0 p1 : Int32) : Int64 := f_X5_power_5 g p0 p1 9 (1 : Int64) (0 : Int32)
theorem yk_X5_power : yokS yX5_power RX5 cX5_power 5 (some .long) 2 := ⟨w_547, w_546, w_1, by decide +kernel⟩
set_option maxHeartbeats 4000000 in
set_option maxRecDepth 100000 in
theorem c_X5_power (l : Launch) (z : ZC) (g : Mem) (p0 p1 : Int32) (h1 : p1.toInt ≤ 8) : ctC l yX5_power cX5_power 5 (some .long) 0 0 z g [.int p0, .int p1] (qLC z (f_X5_power g p0 p1, g)) := by
  refine ct_of (own := RX5) (q := fun r => qLC z (r, g)) (res := f_X5_power g p0 p1) (lv := [(0, .int p0), (1, .int p1)]) (enokC z) rfl (by decide) (Nat.le_of_ble_eq_true rfl) rfl (fun p e s m args below meth c C0 hrt hlk => ?_)
  unfold f_X5_power
  refine j_lconst C0 (v := 1) dX5_power_0 (by decide) ?_
  refine j_lstore_n C0 (lv' := [(2, _), (0, _), (1, _)]) dX5_power_1 rfl (by decide) rfl ?_
  refine j_iconst C0 (v := 0) dX5_power_2 (by decide) ?_
  refine j_istore C0 (lv' := [(4, _), (2, _), (0, _), (1, _)]) dX5_power_3 (by decide) rfl ?_
  have L5 : ∀ (n0 : Nat) (a2 : Int64) (a4 : Int32), lc a4 p1 n0 → jj p l e { frames := 0, cells := 0, slots := 0, locals := 0 } s m args below meth c (zA z) (zD z) 52 (zad z) (celC z) 5 (fun r => MQ below (qLC z (r, g)) args s 0 0 (zA z)) (f_X5_power_5 g p0 p1 n0 a2 a4) g 5 [(0, .int p0), (1, .int p1), (2, .long a2), (4, .int a4)] [] := by
    intro n0
    induction n0 with
    | zero => intro a2 a4 hL; exact absurd hL.2 (Nat.not_lt_zero _)
    | succ n0 ih0 =>
      intro a2 a4 hL
      rw [f_X5_power_5]
      refine j_iload C0 3 dX5_power_5 rfl ?_
      refine j_iload_n C0 1 dX5_power_7 rfl rfl ?_
      refine j_icmp_ge C0 22 dX5_power_8 (by decide) (fun c_8 => ?_) (fun c_8 => ?_)
      · refine j_lload_n C0 2 dX5_power_22 rfl rfl ?_
        exact j_lretP C0 hrt hlk dX5_power_23
      · refine j_lload_n C0 2 dX5_power_11 rfl rfl ?_
        refine j_iload_n C0 0 dX5_power_12 rfl rfl ?_
        refine j_i2l C0 dX5_power_13 ?_
        refine j_lmul C0 dX5_power_14 ?_
        refine j_lstore_n C0 (lv' := [(2, _), (0, _), (1, _), (4, _)]) dX5_power_15 rfl (by decide) rfl ?_
        refine j_iinc C0 (lv' := [(4, _), (2, _), (0, _), (1, _)]) (v := _ + (1)) 3 dX5_power_16 rfl (by rfl) (by decide) rfl ?_
        refine j_goto C0 5 dX5_power_19 (by decide) ?_
        exact j_sub [2, 3, 1, 0] rfl (ih0 _ _ (lc_stepN hL c_8))
  exact j_sub [2, 3, 1, 0] rfl (L5 9 _ _ (lc_0 (by omega) (by decide)))
def f_X5_commonDivisor_9 (g : Mem) (p0 p1 : Int64) : Nat → Int64 → Int64 → Int32 → Int64
  | 0, _, _, _ => 0
  | n0 + 1, a4, a6, a8 => if (100 : Int32) ≤ a8 then (a4) else (if (lg_cmp a6 (0 : Int64)) = 0 then (a4) else (f_X5_commonDivisor_9 g p0 p1 n0 a6 (a4 - a4 / a6 * a6) (a8 + (1 : Int32))))
def f_X5_commonDivisor (g : Mem) (p0 p1 : Int64) : Int64 := f_X5_commonDivisor_9 g p0 p1 101 p0 p1 (0 : Int32)
theorem yk_X5_commonDivisor : yokS yX5_commonDivisor RX5 cX5_commonDivisor 11 (some .long) 2 := ⟨w_553, w_552, w_1, by decide +kernel⟩
set_option maxHeartbeats 4000000 in
set_option maxRecDepth 100000 in
theorem c_X5_commonDivisor (l : Launch) (z : ZC) (g : Mem) (p0 p1 : Int64) : ctC l yX5_commonDivisor cX5_commonDivisor 11 (some .long) 0 0 z g [.long p0, .long p1] (qLC z (f_X5_commonDivisor g p0 p1, g)) := by
  refine ct_of (own := RX5) (q := fun r => qLC z (r, g)) (res := f_X5_commonDivisor g p0 p1) (lv := [(0, .long p0), (2, .long p1)]) (enokC z) rfl (by decide) (Nat.le_of_ble_eq_true rfl) rfl (fun p e s m args below meth c C0 hrt hlk => ?_)
  unfold f_X5_commonDivisor
  refine j_lload_n C0 0 dX5_commonDivisor_0 rfl rfl ?_
  refine j_lstore C0 (lv' := [(4, _), (0, _), (2, _)]) dX5_commonDivisor_1 (by decide) rfl ?_
  refine j_lload_n C0 2 dX5_commonDivisor_3 rfl rfl ?_
  refine j_lstore C0 (lv' := [(6, _), (4, _), (0, _), (2, _)]) dX5_commonDivisor_4 (by decide) rfl ?_
  refine j_iconst C0 (v := 0) dX5_commonDivisor_6 (by decide) ?_
  refine j_istore C0 (lv' := [(8, _), (6, _), (4, _), (0, _), (2, _)]) dX5_commonDivisor_7 (by decide) rfl ?_
  have L9 : ∀ (n0 : Nat) (a4 : Int64) (a6 : Int64) (a8 : Int32), lc a8 100 n0 → jj p l e { frames := 0, cells := 0, slots := 0, locals := 0 } s m args below meth c (zA z) (zD z) 52 (zad z) (celC z) 11 (fun r => MQ below (qLC z (r, g)) args s 0 0 (zA z)) (f_X5_commonDivisor_9 g p0 p1 n0 a4 a6 a8) g 9 [(0, .long p0), (2, .long p1), (4, .long a4), (6, .long a6), (8, .int a8)] [] := by
    intro n0
    induction n0 with
    | zero => intro a4 a6 a8 hL; exact absurd hL.2 (Nat.not_lt_zero _)
    | succ n0 ih0 =>
      intro a4 a6 a8 hL
      rw [f_X5_commonDivisor_9]
      refine j_iload C0 4 dX5_commonDivisor_9 rfl ?_
      refine j_bipush C0 (v := 100) dX5_commonDivisor_11 (by decide) ?_
      refine j_icmp_ge C0 44 dX5_commonDivisor_13 (by decide) (fun c_13 => ?_) (fun c_13 => ?_)
      · refine j_lload C0 2 dX5_commonDivisor_44 rfl ?_
        exact j_lretP C0 hrt hlk dX5_commonDivisor_46
      · refine j_lload C0 3 dX5_commonDivisor_16 rfl ?_
        refine j_lconst C0 (v := 0) dX5_commonDivisor_18 (by decide) ?_
        refine j_lcmp C0 dX5_commonDivisor_19 ?_
        refine j_if_eq C0 44 dX5_commonDivisor_20 (by decide) (fun c_20 => ?_) (fun c_20 => ?_)
        · refine j_lload C0 2 dX5_commonDivisor_44 rfl ?_
          exact j_lretP C0 hrt hlk dX5_commonDivisor_46
        · refine j_lload C0 2 dX5_commonDivisor_23 rfl ?_
          refine j_lload C0 3 dX5_commonDivisor_25 rfl ?_
          refine j_lrem C0 dX5_commonDivisor_27 (lcmp_ne c_20) ?_
          refine j_lstore C0 (lv' := [(9, _), (0, _), (2, _), (4, _), (6, _), (8, _)]) dX5_commonDivisor_28 (by decide) rfl ?_
          refine j_lload C0 4 dX5_commonDivisor_30 rfl ?_
          refine j_lstore C0 (lv' := [(4, _), (9, _), (0, _), (2, _), (6, _), (8, _)]) dX5_commonDivisor_32 (by decide) rfl ?_
          refine j_lload C0 1 dX5_commonDivisor_34 rfl ?_
          refine j_lstore C0 (lv' := [(6, _), (4, _), (9, _), (0, _), (2, _), (8, _)]) dX5_commonDivisor_36 (by decide) rfl ?_
          refine j_iinc C0 (lv' := [(8, _), (6, _), (4, _), (9, _), (0, _), (2, _)]) (v := _ + (1)) 5 dX5_commonDivisor_38 rfl (by rfl) (by decide) rfl ?_
          refine j_goto C0 9 dX5_commonDivisor_41 (by decide) ?_
          exact j_sub [4, 5, 2, 1, 0] rfl (ih0 _ _ _ (lc_stepN hL c_13))
  exact j_sub [3, 4, 2, 1, 0] rfl (L9 101 _ _ _ (lc_0 (by decide) (by decide)))
def f_X5_partInLeastTerms (g : Mem) (p0 p1 : Int64) (p2 : Int32) : Int64 := if p2 = 0 then ((p0 / (if (1 : Int64) < (f_X5_commonDivisor g p0 p1) then (f_X5_commonDivisor g p0 p1) else (1 : Int64)))) else ((p1 / (if (1 : Int64) < (f_X5_commonDivisor g p0 p1) then (f_X5_commonDivisor g p0 p1) else (1 : Int64))))
theorem yk_X5_partInLeastTerms : yokS yX5_partInLeastTerms RX5 cX5_partInLeastTerms 7 (some .long) 3 := ⟨w_550, w_549, w_1, by decide +kernel⟩
set_option maxHeartbeats 4000000 in
set_option maxRecDepth 100000 in
theorem c_X5_partInLeastTerms (l : Launch) (z : ZC) (g : Mem) (p0 p1 : Int64) (p2 : Int32) : ctC l yX5_partInLeastTerms cX5_partInLeastTerms 7 (some .long) 1 30 z g [.long p0, .long p1, .int p2] (qLC z (f_X5_partInLeastTerms g p0 p1 p2, g)) := by
  refine ct_of (own := RX5) (q := fun r => qLC z (r, g)) (res := f_X5_partInLeastTerms g p0 p1 p2) (lv := [(0, .long p0), (2, .long p1), (4, .int p2)]) (enokC z) rfl (by decide) (Nat.le_of_ble_eq_true rfl) rfl (fun p e s m args below meth c C0 hrt hlk => ?_)
  unfold f_X5_partInLeastTerms
  refine j_lload_n C0 0 dX5_partInLeastTerms_0 rfl rfl ?_
  refine j_lload_n C0 1 dX5_partInLeastTerms_1 rfl rfl ?_
  refine j_callSl C0 (c_X5_commonDivisor l z _ _ _) yk_X5_commonDivisor w_551 ⟨Nat.le_of_ble_eq_true rfl, Nat.le_of_ble_eq_true rfl⟩ rfl rfl (Nat.le_of_ble_eq_true rfl) dX5_partInLeastTerms_2 ?_
  refine j_lconst C0 (v := 1) dX5_partInLeastTerms_5 (by decide) ?_
  refine j_mmaxl C0 w_554 w_555 w_9 w_556 (Nat.le_of_ble_eq_true rfl) (Nat.le_of_ble_eq_true rfl) dX5_partInLeastTerms_6 ?_
  refine j_lstore C0 (lv' := [(5, _), (0, _), (2, _), (4, _)]) dX5_partInLeastTerms_9 (by decide) rfl ?_
  refine j_iload C0 3 dX5_partInLeastTerms_11 rfl ?_
  refine j_if_ne C0 20 dX5_partInLeastTerms_13 (by decide) (fun c_13 => ?_) (fun c_13 => ?_)
  · refine j_lload_n C0 1 dX5_partInLeastTerms_16 rfl rfl ?_
    refine j_goto C0 21 dX5_partInLeastTerms_17 (by decide) ?_
    refine j_lload C0 0 dX5_partInLeastTerms_21 rfl ?_
    refine j_ldiv C0 dX5_partInLeastTerms_23 max1_ne ?_
    exact j_lretP C0 hrt hlk dX5_partInLeastTerms_24
  · refine j_lload_n C0 2 dX5_partInLeastTerms_20 rfl rfl ?_
    refine j_lload C0 0 dX5_partInLeastTerms_21 rfl ?_
    refine j_ldiv C0 dX5_partInLeastTerms_23 max1_ne ?_
    exact j_lretP C0 hrt hlk dX5_partInLeastTerms_24
def f_X5_mean (g : Mem) (p0 : Int32) : Int64 := if (f_X5_isOneOfTwo p0) = 0 then ((1000000001 : Int64)) else ((f_X5_partInLeastTerms g (Int32.toInt64 (f_X0_allHunger g 0)) (Int32.toInt64 (if (g 40 1) < (1 : Int32) then (1 : Int32) else (g 40 1))) p0))
theorem yk_X5_mean : yokV yX5_mean RX5 cX5_mean 2 (some .long) 1 := ⟨w_560, w_558, w_559, w_1, by decide +kernel⟩
set_option maxHeartbeats 4000000 in
set_option maxRecDepth 100000 in
theorem c_X5_mean (l : Launch) (z : ZC) (g : Mem) (p0 : Int32) (hI : In g) : ctC l yX5_mean cX5_mean 2 (some .long) 2 56 z g [.ref (zad z 46), .int p0] (qLC z (f_X5_mean g p0, g)) := by
  refine ct_of (own := RX5) (q := fun r => qLC z (r, g)) (res := f_X5_mean g p0) (lv := [(0, .ref (zad z 46)), (1, .int p0)]) (enokC z) rfl (by decide) (Nat.le_of_ble_eq_true rfl) rfl (fun p e s m args below meth c C0 hrt hlk => ?_)
  unfold f_X5_mean
  refine j_iload_n C0 1 dX5_mean_0 rfl rfl ?_
  refine j_callSi C0 (c_X5_isOneOfTwo l z _ _) yk_X5_isOneOfTwo w_353 ⟨Nat.le_of_ble_eq_true rfl, Nat.le_of_ble_eq_true rfl⟩ rfl rfl (Nat.le_of_ble_eq_true rfl) dX5_mean_1 ?_
  refine j_if_ne C0 11 dX5_mean_4 (by decide) (fun c_4 => ?_) (fun c_4 => ?_)
  · refine j_ldc2 C0 dX5_mean_7 w_541 ?_
    exact j_lretP C0 hrt hlk dX5_mean_10
  · refine j_aload_n C0 0 dX5_mean_11 rfl rfl ?_
    refine g_Cakes_now C0 w_157 dX5_mean_12 ?_
    refine j_callVi C0 (c_X0_allHunger l z _ 0 lt3_0 hI) yk_X0_allHunger w_460 (fun H locs hP _ => recvW C0 hP _ (by have := lt3_0; omega) (cel_fete lt3_0) rfl) ⟨Nat.le_of_ble_eq_true rfl, Nat.le_of_ble_eq_true rfl⟩ rfl rfl (Nat.le_of_ble_eq_true rfl) dX5_mean_15 ?_
    refine j_i2l C0 dX5_mean_18 ?_
    refine j_aload_n C0 0 dX5_mean_19 rfl rfl ?_
    refine g_Cakes_now C0 w_157 dX5_mean_20 ?_
    refine g_Fete_size C0 lt3_0 w_85 dX5_mean_23 ?_
    refine j_iconst C0 (v := 1) dX5_mean_26 (by decide) ?_
    refine j_mmax C0 w_336 w_316 w_9 w_317 (Nat.le_of_ble_eq_true rfl) (Nat.le_of_ble_eq_true rfl) dX5_mean_27 ?_
    refine j_i2l C0 dX5_mean_30 ?_
    refine j_iload_n C0 1 dX5_mean_31 rfl rfl ?_
    refine j_callSl C0 (c_X5_partInLeastTerms l z _ _ _ _) yk_X5_partInLeastTerms w_548 ⟨Nat.le_of_ble_eq_true rfl, Nat.le_of_ble_eq_true rfl⟩ rfl rfl (Nat.le_of_ble_eq_true rfl) dX5_mean_32 ?_
    exact j_lretP C0 hrt hlk dX5_mean_35
def f_X5_crowd_61 (g : Mem) (p0 p1 p2 p3 : Int32) : Nat → Int64 → Int32 → Int64
  | 0, _, _ => 0
  | n0 + 1, a6, a8 => if p0 < a8 then ((f_X5_partInLeastTerms g a6 (f_X5_power g p1 p0) p3)) else (f_X5_crowd_61 g p0 p1 p2 p3 n0 (a6 + ((f_X5_choices g p0 a8) * (f_X5_power g (p1 - (1 : Int32)) (p0 - a8)))) (a8 + (1 : Int32)))
def f_X5_crowd (g : Mem) (p0 p1 p2 p3 : Int32) : Int64 := if (f_X5_isWithin p0 (0 : Int32) (8 : Int32)) = 0 then ((1000000001 : Int64)) else (if (f_X5_isWithin p1 (2 : Int32) (20 : Int32)) = 0 then ((1000000001 : Int64)) else (if (f_X5_isWithin p2 (0 : Int32) (4 : Int32)) = 0 then ((1000000001 : Int64)) else (if (f_X5_isOneOfTwo p3) = 0 then ((1000000001 : Int64)) else (f_X5_crowd_61 g p0 p1 p2 p3 10 (0 : Int64) ((2 : Int32) * p2)))))
theorem yk_X5_crowd : yokV yX5_crowd RX5 cX5_crowd 9 (some .long) 4 := ⟨w_540, w_538, w_539, w_1, by decide +kernel⟩
set_option maxHeartbeats 4000000 in
set_option maxRecDepth 100000 in
theorem c_X5_crowd (l : Launch) (z : ZC) (g : Mem) (p0 p1 p2 p3 : Int32) (hI : In g) : ctC l yX5_crowd cX5_crowd 9 (some .long) 2 56 z g [.ref (zad z 46), .int p0, .int p1, .int p2, .int p3] (qLC z (f_X5_crowd g p0 p1 p2 p3, g)) := by
  refine ct_of (own := RX5) (q := fun r => qLC z (r, g)) (res := f_X5_crowd g p0 p1 p2 p3) (lv := [(0, .ref (zad z 46)), (1, .int p0), (2, .int p1), (3, .int p2), (4, .int p3)]) (enokC z) rfl (by decide) (Nat.le_of_ble_eq_true rfl) rfl (fun p e s m args below meth c C0 hrt hlk => ?_)
  unfold f_X5_crowd
  refine j_iload_n C0 1 dX5_crowd_0 rfl rfl ?_
  refine j_iconst C0 (v := 0) dX5_crowd_1 (by decide) ?_
  refine j_bipush C0 (v := 8) dX5_crowd_2 (by decide) ?_
  refine j_callSi C0 (c_X5_isWithin l z _ _ _ _) yk_X5_isWithin w_190 ⟨Nat.le_of_ble_eq_true rfl, Nat.le_of_ble_eq_true rfl⟩ rfl rfl (Nat.le_of_ble_eq_true rfl) dX5_crowd_4 ?_
  refine j_if_eq C0 33 dX5_crowd_7 (by decide) (fun c_7 => ?_) (fun c_7 => ?_)
  · refine j_iconst C0 (v := 0) dX5_crowd_33 (by decide) ?_
    refine j_istore C0 (lv' := [(5, _), (0, _), (1, _), (2, _), (3, _), (4, _)]) dX5_crowd_34 (by decide) rfl ?_
    refine j_iload C0 0 dX5_crowd_36 rfl ?_
    refine j_if_eqT C0 49 dX5_crowd_38 (by decide) (by decide) ?_
    refine j_ldc2 C0 dX5_crowd_49 w_541 ?_
    exact j_lretP C0 hrt hlk dX5_crowd_52
  · refine j_iload_n C0 2 dX5_crowd_10 rfl rfl ?_
    refine j_iconst C0 (v := 2) dX5_crowd_11 (by decide) ?_
    refine j_bipush C0 (v := 20) dX5_crowd_12 (by decide) ?_
    refine j_callSi C0 (c_X5_isWithin l z _ _ _ _) yk_X5_isWithin w_190 ⟨Nat.le_of_ble_eq_true rfl, Nat.le_of_ble_eq_true rfl⟩ rfl rfl (Nat.le_of_ble_eq_true rfl) dX5_crowd_14 ?_
    refine j_if_eq C0 33 dX5_crowd_17 (by decide) (fun c_17 => ?_) (fun c_17 => ?_)
    · refine j_iconst C0 (v := 0) dX5_crowd_33 (by decide) ?_
      refine j_istore C0 (lv' := [(5, _), (0, _), (1, _), (2, _), (3, _), (4, _)]) dX5_crowd_34 (by decide) rfl ?_
      refine j_iload C0 0 dX5_crowd_36 rfl ?_
      refine j_if_eqT C0 49 dX5_crowd_38 (by decide) (by decide) ?_
      refine j_ldc2 C0 dX5_crowd_49 w_541 ?_
      exact j_lretP C0 hrt hlk dX5_crowd_52
    · refine j_iload_n C0 3 dX5_crowd_20 rfl rfl ?_
      refine j_iconst C0 (v := 0) dX5_crowd_21 (by decide) ?_
      refine j_iconst C0 (v := 4) dX5_crowd_22 (by decide) ?_
      refine j_callSi C0 (c_X5_isWithin l z _ _ _ _) yk_X5_isWithin w_190 ⟨Nat.le_of_ble_eq_true rfl, Nat.le_of_ble_eq_true rfl⟩ rfl rfl (Nat.le_of_ble_eq_true rfl) dX5_crowd_23 ?_
      refine j_if_eq C0 33 dX5_crowd_26 (by decide) (fun c_26 => ?_) (fun c_26 => ?_)
      · refine j_iconst C0 (v := 0) dX5_crowd_33 (by decide) ?_
        refine j_istore C0 (lv' := [(5, _), (0, _), (1, _), (2, _), (3, _), (4, _)]) dX5_crowd_34 (by decide) rfl ?_
        refine j_iload C0 0 dX5_crowd_36 rfl ?_
        refine j_if_eqT C0 49 dX5_crowd_38 (by decide) (by decide) ?_
        refine j_ldc2 C0 dX5_crowd_49 w_541 ?_
        exact j_lretP C0 hrt hlk dX5_crowd_52
      · refine j_iconst C0 (v := 1) dX5_crowd_29 (by decide) ?_
        refine j_goto C0 34 dX5_crowd_30 (by decide) ?_
        refine j_istore C0 (lv' := [(5, _), (0, _), (1, _), (2, _), (3, _), (4, _)]) dX5_crowd_34 (by decide) rfl ?_
        refine j_iload C0 0 dX5_crowd_36 rfl ?_
        refine j_if_eqF C0 49 dX5_crowd_38 (by decide) (by decide) ?_
        refine j_iload C0 5 dX5_crowd_41 rfl ?_
        refine j_callSi C0 (c_X5_isOneOfTwo l z _ _) yk_X5_isOneOfTwo w_353 ⟨Nat.le_of_ble_eq_true rfl, Nat.le_of_ble_eq_true rfl⟩ rfl rfl (Nat.le_of_ble_eq_true rfl) dX5_crowd_43 ?_
        refine j_if_ne C0 53 dX5_crowd_46 (by decide) (fun c_46 => ?_) (fun c_46 => ?_)
        · refine j_ldc2 C0 dX5_crowd_49 w_541 ?_
          exact j_lretP C0 hrt hlk dX5_crowd_52
        · refine j_lconst C0 (v := 0) dX5_crowd_53 (by decide) ?_
          refine j_lstore C0 (lv' := [(6, _), (5, _), (0, _), (1, _), (2, _), (3, _), (4, _)]) dX5_crowd_54 (by decide) rfl ?_
          refine j_iconst C0 (v := 2) dX5_crowd_56 (by decide) ?_
          refine j_iload_n C0 5 dX5_crowd_57 rfl rfl ?_
          refine j_imul C0 dX5_crowd_58 ?_
          refine j_istore C0 (lv' := [(8, _), (6, _), (5, _), (0, _), (1, _), (2, _), (3, _), (4, _)]) dX5_crowd_59 (by decide) rfl ?_
          have L61 : ∀ (n0 : Nat) (a6 : Int64) (a8 : Int32), lcE a8 p0 n0 → jj p l e { frames := 2, cells := 0, slots := 0, locals := 56 } s m args below meth c (zA z) (zD z) 52 (zad z) (celC z) 9 (fun r => MQ below (qLC z (r, g)) args s 0 0 (zA z)) (f_X5_crowd_61 g p0 p1 p2 p3 n0 a6 a8) g 61 [(0, .ref (zad z 46)), (1, .int p0), (2, .int p1), (3, .int p2), (4, .int p3), (6, .long a6), (8, .int a8)] [] := by
            intro n0
            induction n0 with
            | zero => intro a6 a8 hL; exact absurd hL.2 (Nat.not_lt_zero _)
            | succ n0 ih0 =>
              intro a6 a8 hL
              rw [f_X5_crowd_61]
              refine j_iload C0 6 dX5_crowd_61 rfl ?_
              refine j_iload_n C0 1 dX5_crowd_63 rfl rfl ?_
              refine j_icmp_gt C0 95 dX5_crowd_64 (by decide) (fun c_64 => ?_) (fun c_64 => ?_)
              · refine j_lload C0 5 dX5_crowd_95 rfl ?_
                refine j_iload_n C0 2 dX5_crowd_97 rfl rfl ?_
                refine j_iload_n C0 1 dX5_crowd_98 rfl rfl ?_
                refine j_callSl C0 (c_X5_power l z _ _ _ (by have := (isWithin_in c_7).2; have e8 : (8 : Int32).toInt = 8 := rfl; omega)) yk_X5_power w_545 ⟨Nat.le_of_ble_eq_true rfl, Nat.le_of_ble_eq_true rfl⟩ rfl rfl (Nat.le_of_ble_eq_true rfl) dX5_crowd_99 ?_
                refine j_iload C0 4 dX5_crowd_102 rfl ?_
                refine j_callSl C0 (c_X5_partInLeastTerms l z _ _ _ _) yk_X5_partInLeastTerms w_548 ⟨Nat.le_of_ble_eq_true rfl, Nat.le_of_ble_eq_true rfl⟩ rfl rfl (Nat.le_of_ble_eq_true rfl) dX5_crowd_104 ?_
                exact j_lretP C0 hrt hlk dX5_crowd_107
              · have hcw := crowd_in hL c_64 (isWithin_in c_7)
                refine j_lload C0 5 dX5_crowd_67 rfl ?_
                refine j_iload_n C0 1 dX5_crowd_69 rfl rfl ?_
                refine j_iload C0 6 dX5_crowd_70 rfl ?_
                refine j_callSl C0 (c_X5_choices l z _ _ _ hcw.1) yk_X5_choices w_542 ⟨Nat.le_of_ble_eq_true rfl, Nat.le_of_ble_eq_true rfl⟩ rfl rfl (Nat.le_of_ble_eq_true rfl) dX5_crowd_72 ?_
                refine j_iload_n C0 2 dX5_crowd_75 rfl rfl ?_
                refine j_iconst C0 (v := 1) dX5_crowd_76 (by decide) ?_
                refine j_isub C0 dX5_crowd_77 ?_
                refine j_iload_n C0 1 dX5_crowd_78 rfl rfl ?_
                refine j_iload C0 6 dX5_crowd_79 rfl ?_
                refine j_isub C0 dX5_crowd_81 ?_
                refine j_callSl C0 (c_X5_power l z _ _ _ hcw.2) yk_X5_power w_545 ⟨Nat.le_of_ble_eq_true rfl, Nat.le_of_ble_eq_true rfl⟩ rfl rfl (Nat.le_of_ble_eq_true rfl) dX5_crowd_82 ?_
                refine j_lmul C0 dX5_crowd_85 ?_
                refine j_ladd C0 dX5_crowd_86 ?_
                refine j_lstore C0 (lv' := [(6, _), (0, _), (1, _), (2, _), (3, _), (4, _), (8, _)]) dX5_crowd_87 (by decide) rfl ?_
                refine j_iinc C0 (lv' := [(8, _), (6, _), (0, _), (1, _), (2, _), (3, _), (4, _)]) (v := _ + (1)) 6 dX5_crowd_89 rfl (by rfl) (by decide) rfl ?_
                refine j_goto C0 61 dX5_crowd_92 (by decide) ?_
                exact j_sub [2, 3, 4, 5, 6, 1, 0] rfl (ih0 _ _ (lcE_step hL c_64 (by have := (isWithin_in c_7).2; have e8 : (8 : Int32).toInt = 8 := rfl; omega)))
          exact j_sub [3, 4, 5, 6, 7, 1, 0] rfl (L61 10 _ _ (crowd_0 (isWithin_in c_7) (isWithin_in c_26)))
