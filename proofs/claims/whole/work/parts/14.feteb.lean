def f_X0_turn_m1 (g : Mem) (t : Nat) (p0 p1 : Int32) : Mem := up g (8 * t + ix p0) 4 ((g (8 * t + ix p0) 4) - (f_X3_stilledHunger g (8 * t + ix p0)))
def f_X0_turn_m2 (g : Mem) (t : Nat) (p0 p1 : Int32) : Mem := up (f_X0_turn_m1 g t p0 p1) (8 * t + ix p1) 5 (((f_X0_turn_m1 g t p0 p1) (8 * t + ix p1) 5) - (f_X3_stilledWish (f_X0_turn_m1 g t p0 p1) (8 * t + ix p1)))
def f_X0_turn_m3 (g : Mem) (t : Nat) (p0 p1 : Int32) : Mem := up (f_X0_turn_m2 g t p0 p1) (8 * t + ix p0) 6 (if (99 : Int32) < (((f_X0_turn_m2 g t p0 p1) (8 * t + ix p0) 6) + (1 : Int32)) then (99 : Int32) else (((f_X0_turn_m2 g t p0 p1) (8 * t + ix p0) 6) + (1 : Int32)))
def f_X0_turn_m4 (g : Mem) (t : Nat) (p0 p1 : Int32) : Mem := up (f_X0_turn_m3 g t p0 p1) (8 * t + ix p1) 7 (if (99 : Int32) < (((f_X0_turn_m3 g t p0 p1) (8 * t + ix p1) 7) + (1 : Int32)) then (99 : Int32) else (((f_X0_turn_m3 g t p0 p1) (8 * t + ix p1) 7) + (1 : Int32)))
def f_X0_turn_m5 (g : Mem) (t : Nat) (p0 p1 : Int32) : Mem := up (f_X0_turn_m4 g t p0 p1) (40 + t) 2 (((f_X0_turn_m4 g t p0 p1) (40 + t) 2) - (1 : Int32))
def f_X0_turn_m6 (g : Mem) (t : Nat) (p0 p1 : Int32) : Mem := up (f_X0_turn_m5 g t p0 p1) (40 + t) 3 (((f_X0_turn_m5 g t p0 p1) (40 + t) 3) + (1 : Int32))
def f_X0_turn (g : Mem) (t : Nat) (p0 p1 : Int32) : Int32 × Mem := ((f_X0_joysOf g t p0 p1), (f_X0_turn_m6 g t p0 p1))
def r_X0_turn (g : Mem) (t : Nat) (p0 p1 : Int32) : Int32 := (f_X0_turn g t p0 p1).1
def m_X0_turn (g : Mem) (t : Nat) (p0 p1 : Int32) : Mem := (f_X0_turn g t p0 p1).2
theorem e_X0_turn (g : Mem) (t : Nat) (p0 p1 : Int32) : (r_X0_turn g t p0 p1, m_X0_turn g t p0 p1) = f_X0_turn g t p0 p1 := by unfold r_X0_turn m_X0_turn; exact pmk_eta _
theorem yk_X0_turn : yokV yX0_turn RX0 cX0_turn 6 (some .int) 2 := ⟨w_299, w_297, w_298, w_2, by decide +kernel⟩
set_option maxHeartbeats 4000000 in
set_option maxRecDepth 100000 in
theorem c_X0_turn (l : Launch) (z : ZC) (g : Mem) (t : Nat) (ht : t < 3) (p0 p1 : Int32) (hv0 : vp_in p0 8) (hv1 : vp_in p1 8) (hI : In g) : ctC l yX0_turn cX0_turn 6 (some .int) 4 78 z g [.ref (zad z (40 + t)), .int p0, .int p1] (qIC z (r_X0_turn g t p0 p1, m_X0_turn g t p0 p1)) := by
  rw [e_X0_turn]
  refine ct_of (own := RX0) (q := fun r => qIC z r) (res := f_X0_turn g t p0 p1) (lv := [(0, .ref (zad z (40 + t))), (1, .int p0), (2, .int p1)]) (enokC z) rfl (by decide) (Nat.le_of_ble_eq_true rfl) rfl (fun p e s m args below meth c C0 hrt hlk => ?_)
  unfold f_X0_turn
  refine j_aload_n C0 0 dX0_turn_0 rfl rfl ?_
  refine j_iload_n C0 1 dX0_turn_1 rfl rfl ?_
  refine j_iload_n C0 2 dX0_turn_2 rfl rfl ?_
  refine j_callVi C0 (c_X0_joysOf l z _ t ht _ _ hv0 hv1 hI) yk_X0_joysOf w_300 (fun H locs hP _ => recvW C0 hP _ (by have := ht; omega) (cel_fete ht) rfl) ⟨Nat.le_of_ble_eq_true rfl, Nat.le_of_ble_eq_true rfl⟩ rfl rfl (Nat.le_of_ble_eq_true rfl) dX0_turn_3 ?_
  refine j_istore_n C0 (lv' := [(3, _), (0, _), (1, _), (2, _)]) dX0_turn_6 rfl (by decide) rfl ?_
  refine j_aload_n C0 1 dX0_turn_7 rfl rfl ?_
  refine g_Fete_people C0 ht w_81 dX0_turn_8 ?_
  refine j_iload_n C0 2 dX0_turn_11 rfl rfl ?_
  refine a_people C0 ht hv0 dX0_turn_12 ?_
  refine j_astore C0 (lv' := [(4, _), (3, _), (0, _), (1, _), (2, _)]) dX0_turn_13 (by decide) rfl ?_
  refine j_aload_n C0 2 dX0_turn_15 rfl rfl ?_
  refine g_Fete_people C0 ht w_81 dX0_turn_16 ?_
  refine j_iload_n C0 4 dX0_turn_19 rfl rfl ?_
  refine a_people C0 ht hv1 dX0_turn_20 ?_
  refine j_astore C0 (lv' := [(5, _), (4, _), (3, _), (0, _), (1, _), (2, _)]) dX0_turn_21 (by decide) rfl ?_
  refine j_aload C0 1 dX0_turn_23 rfl ?_
  refine j_dup C0 dX0_turn_25 rfl ?_
  refine g_Person_hunger C0 (vin_pk ht hv0) w_54 dX0_turn_26 ?_
  refine j_aload C0 1 dX0_turn_29 rfl ?_
  refine j_callVi C0 (c_X3_stilledHunger l z _ (8 * t + ix p0) (vin_pk ht hv0)) yk_X3_stilledHunger w_308 (fun H locs hP _ => recvW C0 hP _ (Nat.lt_of_lt_of_le (vin_pk ht hv0) (by decide)) (cel_person (vin_pk ht hv0)) rfl) ⟨Nat.le_of_ble_eq_true rfl, Nat.le_of_ble_eq_true rfl⟩ rfl rfl (Nat.le_of_ble_eq_true rfl) dX0_turn_31 ?_
  refine j_isub C0 dX0_turn_34 ?_
  refine p_Person_hunger C0 (vin_pk ht hv0) w_54 dX0_turn_35 ?_
  refine j_aload C0 0 dX0_turn_38 rfl ?_
  refine j_dup C0 dX0_turn_40 rfl ?_
  refine g_Person_wish C0 (vin_pk ht hv1) w_57 dX0_turn_41 ?_
  refine j_aload C0 0 dX0_turn_44 rfl ?_
  refine j_callVi C0 (c_X3_stilledWish l z _ (8 * t + ix p1) (vin_pk ht hv1)) yk_X3_stilledWish w_322 (fun H locs hP _ => recvW C0 hP _ (Nat.lt_of_lt_of_le (vin_pk ht hv1) (by decide)) (cel_person (vin_pk ht hv1)) rfl) ⟨Nat.le_of_ble_eq_true rfl, Nat.le_of_ble_eq_true rfl⟩ rfl rfl (Nat.le_of_ble_eq_true rfl) dX0_turn_46 ?_
  refine j_isub C0 dX0_turn_49 ?_
  refine p_Person_wish C0 (vin_pk ht hv1) w_57 dX0_turn_50 ?_
  refine j_aload C0 1 dX0_turn_53 rfl ?_
  refine j_aload C0 1 dX0_turn_55 rfl ?_
  refine g_Person_eaten C0 (vin_pk ht hv0) w_60 dX0_turn_57 ?_
  refine j_iconst C0 (v := 1) dX0_turn_60 (by decide) ?_
  refine j_iadd C0 dX0_turn_61 ?_
  refine j_bipush C0 (v := 99) dX0_turn_62 (by decide) ?_
  refine j_mmin C0 w_326 w_313 w_9 w_314 (Nat.le_of_ble_eq_true rfl) (Nat.le_of_ble_eq_true rfl) dX0_turn_64 ?_
  refine p_Person_eaten C0 (vin_pk ht hv0) w_60 dX0_turn_67 ?_
  refine j_aload C0 0 dX0_turn_70 rfl ?_
  refine j_aload C0 0 dX0_turn_72 rfl ?_
  refine g_Person_watched C0 (vin_pk ht hv1) w_63 dX0_turn_74 ?_
  refine j_iconst C0 (v := 1) dX0_turn_77 (by decide) ?_
  refine j_iadd C0 dX0_turn_78 ?_
  refine j_bipush C0 (v := 99) dX0_turn_79 (by decide) ?_
  refine j_mmin C0 w_326 w_313 w_9 w_314 (Nat.le_of_ble_eq_true rfl) (Nat.le_of_ble_eq_true rfl) dX0_turn_81 ?_
  refine p_Person_watched C0 (vin_pk ht hv1) w_63 dX0_turn_84 ?_
  refine j_aload_n C0 3 dX0_turn_87 rfl rfl ?_
  refine j_dup C0 dX0_turn_88 rfl ?_
  refine g_Fete_slicesLeft C0 ht w_87 dX0_turn_89 ?_
  refine j_iconst C0 (v := 1) dX0_turn_92 (by decide) ?_
  refine j_isub C0 dX0_turn_93 ?_
  refine p_Fete_slicesLeft C0 ht w_87 dX0_turn_94 ?_
  refine j_aload_n C0 3 dX0_turn_97 rfl rfl ?_
  refine j_dup C0 dX0_turn_98 rfl ?_
  refine g_Fete_step C0 ht w_89 dX0_turn_99 ?_
  refine j_iconst C0 (v := 1) dX0_turn_102 (by decide) ?_
  refine j_iadd C0 dX0_turn_103 ?_
  refine p_Fete_step C0 ht w_89 dX0_turn_104 ?_
  refine j_iload_n C0 2 dX0_turn_107 rfl rfl ?_
  exact j_iretM C0 hrt hlk dX0_turn_108
theorem In_turn {g : Mem} (hI : In g) {t : Nat} (ht : t < 3) {p0 p1 : Int32} (h0 : vp_in p0 8) (h1 : vp_in p1 8) : In (m_X0_turn g t p0 p1) := by
  have k0 := vin_pk ht h0
  have k1 := vin_pk ht h1
  exact In_upF (In_upF (In_upP (In_upP (In_upP (In_upP hI k0 (by decide)) k1 (by decide)) k0 (by decide)) k1 (by decide)) ht (by decide)) ht (by decide)

