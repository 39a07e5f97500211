def f_X0_isThere (g : Mem) (t : Nat) (p0 : Int32) : Int32 := if p0 < 0 then ((0 : Int32)) else (if (g (40 + t) 1) ≤ p0 then ((0 : Int32)) else ((1 : Int32)))
theorem b01_X0_isThere (g : Mem) (t : Nat) (p0 : Int32) : f_X0_isThere g t p0 = 0 ∨ f_X0_isThere g t p0 = 1 := by
  unfold f_X0_isThere
  repeat' split
  all_goals first | (with_reducible exact Or.inl rfl) | (with_reducible exact Or.inr rfl) | assumption
theorem yk_X0_isThere : yokV yX0_isThere RX0 cX0_isThere 2 (some .boolean) 1 := ⟨w_289, w_287, w_288, w_2, by decide +kernel⟩
set_option maxHeartbeats 4000000 in
set_option maxRecDepth 100000 in
theorem c_X0_isThere (l : Launch) (z : ZC) (g : Mem) (t : Nat) (ht : t < 3) (p0 : Int32) : ctC l yX0_isThere cX0_isThere 2 (some .boolean) 0 0 z g [.ref (zad z (40 + t)), .int p0] (qIC z (f_X0_isThere g t p0, g)) := by
  refine ct_of (own := RX0) (q := fun r => qIC z (r, g)) (res := f_X0_isThere g t p0) (lv := [(0, .ref (zad z (40 + t))), (1, .int p0)]) (enokC z) rfl (by decide) (Nat.le_of_ble_eq_true rfl) rfl (fun p e s m args below meth c C0 hrt hlk => ?_)
  unfold f_X0_isThere
  refine j_iload_n C0 1 dX0_isThere_0 rfl rfl ?_
  refine j_if_lt C0 16 dX0_isThere_1 (by decide) (fun c_1 => ?_) (fun c_1 => ?_)
  · refine j_iconst C0 (v := 0) dX0_isThere_16 (by decide) ?_
    exact j_zretP C0 hrt hlk (Or.inl rfl) dX0_isThere_17
  · refine j_iload_n C0 1 dX0_isThere_4 rfl rfl ?_
    refine j_aload_n C0 0 dX0_isThere_5 rfl rfl ?_
    refine g_Fete_size C0 ht w_84 dX0_isThere_6 ?_
    refine j_icmp_ge C0 16 dX0_isThere_9 (by decide) (fun c_9 => ?_) (fun c_9 => ?_)
    · refine j_iconst C0 (v := 0) dX0_isThere_16 (by decide) ?_
      exact j_zretP C0 hrt hlk (Or.inl rfl) dX0_isThere_17
    · refine j_iconst C0 (v := 1) dX0_isThere_12 (by decide) ?_
      refine j_goto C0 17 dX0_isThere_13 (by decide) ?_
      exact j_zretP C0 hrt hlk (Or.inr rfl) dX0_isThere_17
theorem isThere_in {g : Mem} (hI : In g) {t : Nat} (ht : t < 3) {p0 : Int32} (c : ¬ f_X0_isThere g t p0 = 0) : vp_in p0 8 := by
  unfold f_X0_isThere at c
  split at c
  · exact absurd rfl c
  · split at c
    · exact absurd rfl c
    · exact vin_ch (by assumption) (by assumption) (In_sz hI ht)

def f_X0_areTwo (g : Mem) (t : Nat) (p0 p1 : Int32) : Int32 := if (f_X0_isThere g t p0) = 0 then ((0 : Int32)) else (if (f_X0_isThere g t p1) = 0 then ((0 : Int32)) else (if p0 = p1 then ((0 : Int32)) else ((1 : Int32))))
theorem b01_X0_areTwo (g : Mem) (t : Nat) (p0 p1 : Int32) : f_X0_areTwo g t p0 p1 = 0 ∨ f_X0_areTwo g t p0 p1 = 1 := by
  unfold f_X0_areTwo
  repeat' split
  all_goals first | (with_reducible exact Or.inl rfl) | (with_reducible exact Or.inr rfl) | assumption | (with_reducible exact b01_X0_isThere _ _ _)
theorem yk_X0_areTwo : yokV yX0_areTwo RX0 cX0_areTwo 3 (some .boolean) 2 := ⟨w_285, w_283, w_284, w_2, by decide +kernel⟩
set_option maxHeartbeats 4000000 in
set_option maxRecDepth 100000 in
theorem c_X0_areTwo (l : Launch) (z : ZC) (g : Mem) (t : Nat) (ht : t < 3) (p0 p1 : Int32) : ctC l yX0_areTwo cX0_areTwo 3 (some .boolean) 1 21 z g [.ref (zad z (40 + t)), .int p0, .int p1] (qIC z (f_X0_areTwo g t p0 p1, g)) := by
  refine ct_of (own := RX0) (q := fun r => qIC z (r, g)) (res := f_X0_areTwo g t p0 p1) (lv := [(0, .ref (zad z (40 + t))), (1, .int p0), (2, .int p1)]) (enokC z) rfl (by decide) (Nat.le_of_ble_eq_true rfl) rfl (fun p e s m args below meth c C0 hrt hlk => ?_)
  unfold f_X0_areTwo
  refine j_aload_n C0 0 dX0_areTwo_0 rfl rfl ?_
  refine j_iload_n C0 1 dX0_areTwo_1 rfl rfl ?_
  refine j_callVi C0 (c_X0_isThere l z _ t ht _) yk_X0_isThere w_286 (fun H locs hP _ => recvW C0 hP _ (by have := ht; omega) (cel_fete ht) rfl) ⟨Nat.le_of_ble_eq_true rfl, Nat.le_of_ble_eq_true rfl⟩ rfl rfl (Nat.le_of_ble_eq_true rfl) dX0_areTwo_2 ?_
  refine j_if_eq C0 25 dX0_areTwo_5 (by decide) (fun c_5 => ?_) (fun c_5 => ?_)
  · refine j_iconst C0 (v := 0) dX0_areTwo_25 (by decide) ?_
    exact j_zretP C0 hrt hlk (Or.inl rfl) dX0_areTwo_26
  · refine j_aload_n C0 0 dX0_areTwo_8 rfl rfl ?_
    refine j_iload_n C0 2 dX0_areTwo_9 rfl rfl ?_
    refine j_callVi C0 (c_X0_isThere l z _ t ht _) yk_X0_isThere w_286 (fun H locs hP _ => recvW C0 hP _ (by have := ht; omega) (cel_fete ht) rfl) ⟨Nat.le_of_ble_eq_true rfl, Nat.le_of_ble_eq_true rfl⟩ rfl rfl (Nat.le_of_ble_eq_true rfl) dX0_areTwo_10 ?_
    refine j_if_eq C0 25 dX0_areTwo_13 (by decide) (fun c_13 => ?_) (fun c_13 => ?_)
    · refine j_iconst C0 (v := 0) dX0_areTwo_25 (by decide) ?_
      exact j_zretP C0 hrt hlk (Or.inl rfl) dX0_areTwo_26
    · refine j_iload_n C0 1 dX0_areTwo_16 rfl rfl ?_
      refine j_iload_n C0 2 dX0_areTwo_17 rfl rfl ?_
      refine j_icmp_eq C0 25 dX0_areTwo_18 (by decide) (fun c_18 => ?_) (fun c_18 => ?_)
      · refine j_iconst C0 (v := 0) dX0_areTwo_25 (by decide) ?_
        exact j_zretP C0 hrt hlk (Or.inl rfl) dX0_areTwo_26
      · refine j_iconst C0 (v := 1) dX0_areTwo_21 (by decide) ?_
        refine j_goto C0 26 dX0_areTwo_22 (by decide) ?_
        exact j_zretP C0 hrt hlk (Or.inr rfl) dX0_areTwo_26
theorem areTwo_in {g : Mem} (hI : In g) {t : Nat} (ht : t < 3) {p0 p1 : Int32} (c : ¬ f_X0_areTwo g t p0 p1 = 0) : vp_in p0 8 ∧ vp_in p1 8 := by
  unfold f_X0_areTwo at c
  split at c
  · exact absurd rfl c
  · split at c
    · exact absurd rfl c
    · exact ⟨isThere_in hI ht (by assumption), isThere_in hI ht (by assumption)⟩

def f_X0_canEat (g : Mem) (t : Nat) (p0 p1 : Int32) : Int32 := if (f_X0_areTwo g t p0 p1) = 0 then ((0 : Int32)) else (if (g (40 + t) 2) ≤ 0 then ((0 : Int32)) else (if (g (8 * t + ix p0) 4) ≤ 0 then ((0 : Int32)) else (if (f_X3_canLook g (8 * t + ix p1)) = 0 then ((0 : Int32)) else ((1 : Int32)))))
theorem b01_X0_canEat (g : Mem) (t : Nat) (p0 p1 : Int32) : f_X0_canEat g t p0 p1 = 0 ∨ f_X0_canEat g t p0 p1 = 1 := by
  unfold f_X0_canEat
  repeat' split
  all_goals first | (with_reducible exact Or.inl rfl) | (with_reducible exact Or.inr rfl) | assumption | (with_reducible exact b01_X0_areTwo _ _ _ _) | (with_reducible exact b01_X3_canLook _ _)
theorem yk_X0_canEat : yokV yX0_canEat RX0 cX0_canEat 3 (some .boolean) 2 := ⟨w_281, w_279, w_280, w_2, by decide +kernel⟩
set_option maxHeartbeats 4000000 in
set_option maxRecDepth 100000 in
theorem c_X0_canEat (l : Launch) (z : ZC) (g : Mem) (t : Nat) (ht : t < 3) (p0 p1 : Int32) (hI : In g) : ctC l yX0_canEat cX0_canEat 3 (some .boolean) 2 43 z g [.ref (zad z (40 + t)), .int p0, .int p1] (qIC z (f_X0_canEat g t p0 p1, g)) := by
  refine ct_of (own := RX0) (q := fun r => qIC z (r, g)) (res := f_X0_canEat g t p0 p1) (lv := [(0, .ref (zad z (40 + t))), (1, .int p0), (2, .int p1)]) (enokC z) rfl (by decide) (Nat.le_of_ble_eq_true rfl) rfl (fun p e s m args below meth c C0 hrt hlk => ?_)
  unfold f_X0_canEat
  refine j_aload_n C0 0 dX0_canEat_0 rfl rfl ?_
  refine j_iload_n C0 1 dX0_canEat_1 rfl rfl ?_
  refine j_iload_n C0 2 dX0_canEat_2 rfl rfl ?_
  refine j_callVi C0 (c_X0_areTwo l z _ t ht _ _) yk_X0_areTwo w_282 (fun H locs hP _ => recvW C0 hP _ (by have := ht; omega) (cel_fete ht) rfl) ⟨Nat.le_of_ble_eq_true rfl, Nat.le_of_ble_eq_true rfl⟩ rfl rfl (Nat.le_of_ble_eq_true rfl) dX0_canEat_3 ?_
  refine j_if_eq C0 44 dX0_canEat_6 (by decide) (fun c_6 => ?_) (fun c_6 => ?_)
  · refine j_iconst C0 (v := 0) dX0_canEat_44 (by decide) ?_
    exact j_zretP C0 hrt hlk (Or.inl rfl) dX0_canEat_45
  · have hv1 := (areTwo_in hI ht c_6).1
    have hv2 := (areTwo_in hI ht c_6).2
    refine j_aload_n C0 0 dX0_canEat_9 rfl rfl ?_
    refine g_Fete_slicesLeft C0 ht w_87 dX0_canEat_10 ?_
    refine j_if_le C0 44 dX0_canEat_13 (by decide) (fun c_13 => ?_) (fun c_13 => ?_)
    · refine j_iconst C0 (v := 0) dX0_canEat_44 (by decide) ?_
      exact j_zretP C0 hrt hlk (Or.inl rfl) dX0_canEat_45
    · refine j_aload_n C0 0 dX0_canEat_16 rfl rfl ?_
      refine g_Fete_people C0 ht w_81 dX0_canEat_17 ?_
      refine j_iload_n C0 1 dX0_canEat_20 rfl rfl ?_
      refine a_people C0 ht hv1 dX0_canEat_21 ?_
      refine g_Person_hunger C0 (vin_pk ht hv1) w_54 dX0_canEat_22 ?_
      refine j_if_le C0 44 dX0_canEat_25 (by decide) (fun c_25 => ?_) (fun c_25 => ?_)
      · refine j_iconst C0 (v := 0) dX0_canEat_44 (by decide) ?_
        exact j_zretP C0 hrt hlk (Or.inl rfl) dX0_canEat_45
      · refine j_aload_n C0 0 dX0_canEat_28 rfl rfl ?_
        refine g_Fete_people C0 ht w_81 dX0_canEat_29 ?_
        refine j_iload_n C0 2 dX0_canEat_32 rfl rfl ?_
        refine a_people C0 ht hv2 dX0_canEat_33 ?_
        refine j_callVi C0 (c_X3_canLook l z _ (8 * t + ix p1) (vin_pk ht hv2) hI) yk_X3_canLook w_290 (fun H locs hP _ => recvW C0 hP _ (Nat.lt_of_lt_of_le (vin_pk ht hv2) (by decide)) (cel_person (vin_pk ht hv2)) rfl) ⟨Nat.le_of_ble_eq_true rfl, Nat.le_of_ble_eq_true rfl⟩ rfl rfl (Nat.le_of_ble_eq_true rfl) dX0_canEat_34 ?_
        refine j_if_eq C0 44 dX0_canEat_37 (by decide) (fun c_37 => ?_) (fun c_37 => ?_)
        · refine j_iconst C0 (v := 0) dX0_canEat_44 (by decide) ?_
          exact j_zretP C0 hrt hlk (Or.inl rfl) dX0_canEat_45
        · refine j_iconst C0 (v := 1) dX0_canEat_40 (by decide) ?_
          refine j_goto C0 45 dX0_canEat_41 (by decide) ?_
          exact j_zretP C0 hrt hlk (Or.inr rfl) dX0_canEat_45
theorem canEat_in {g : Mem} (hI : In g) {t : Nat} (ht : t < 3) {p0 p1 : Int32} (c : ¬ f_X0_canEat g t p0 p1 = 0) : vp_in p0 8 ∧ vp_in p1 8 := by
  unfold f_X0_canEat at c
  split at c
  · exact absurd rfl c
  · exact areTwo_in hI ht (by assumption)

def f_X0_mayTurn (g : Mem) (t : Nat) (p0 p1 : Int32) : Int32 := if (f_X0_canEat g t p0 p1) = 0 then ((0 : Int32)) else (if (999 : Int32) ≤ (g (40 + t) 3) then ((0 : Int32)) else ((1 : Int32)))
theorem b01_X0_mayTurn (g : Mem) (t : Nat) (p0 p1 : Int32) : f_X0_mayTurn g t p0 p1 = 0 ∨ f_X0_mayTurn g t p0 p1 = 1 := by
  unfold f_X0_mayTurn
  repeat' split
  all_goals first | (with_reducible exact Or.inl rfl) | (with_reducible exact Or.inr rfl) | assumption | (with_reducible exact b01_X0_canEat _ _ _ _)
theorem yk_X0_mayTurn : yokV yX0_mayTurn RX0 cX0_mayTurn 3 (some .boolean) 2 := ⟨w_277, w_275, w_276, w_2, by decide +kernel⟩
set_option maxHeartbeats 4000000 in
set_option maxRecDepth 100000 in
theorem c_X0_mayTurn (l : Launch) (z : ZC) (g : Mem) (t : Nat) (ht : t < 3) (p0 p1 : Int32) (hI : In g) : ctC l yX0_mayTurn cX0_mayTurn 3 (some .boolean) 3 65 z g [.ref (zad z (40 + t)), .int p0, .int p1] (qIC z (f_X0_mayTurn g t p0 p1, g)) := by
  refine ct_of (own := RX0) (q := fun r => qIC z (r, g)) (res := f_X0_mayTurn g t p0 p1) (lv := [(0, .ref (zad z (40 + t))), (1, .int p0), (2, .int p1)]) (enokC z) rfl (by decide) (Nat.le_of_ble_eq_true rfl) rfl (fun p e s m args below meth c C0 hrt hlk => ?_)
  unfold f_X0_mayTurn
  refine j_aload_n C0 0 dX0_mayTurn_0 rfl rfl ?_
  refine j_iload_n C0 1 dX0_mayTurn_1 rfl rfl ?_
  refine j_iload_n C0 2 dX0_mayTurn_2 rfl rfl ?_
  refine j_callVi C0 (c_X0_canEat l z _ t ht _ _ hI) yk_X0_canEat w_278 (fun H locs hP _ => recvW C0 hP _ (by have := ht; omega) (cel_fete ht) rfl) ⟨Nat.le_of_ble_eq_true rfl, Nat.le_of_ble_eq_true rfl⟩ rfl rfl (Nat.le_of_ble_eq_true rfl) dX0_mayTurn_3 ?_
  refine j_if_eq C0 23 dX0_mayTurn_6 (by decide) (fun c_6 => ?_) (fun c_6 => ?_)
  · refine j_iconst C0 (v := 0) dX0_mayTurn_23 (by decide) ?_
    exact j_zretP C0 hrt hlk (Or.inl rfl) dX0_mayTurn_24
  · refine j_aload_n C0 0 dX0_mayTurn_9 rfl rfl ?_
    refine g_Fete_step C0 ht w_89 dX0_mayTurn_10 ?_
    refine j_sipush C0 (v := 999) dX0_mayTurn_13 (by decide) ?_
    refine j_icmp_ge C0 23 dX0_mayTurn_16 (by decide) (fun c_16 => ?_) (fun c_16 => ?_)
    · refine j_iconst C0 (v := 0) dX0_mayTurn_23 (by decide) ?_
      exact j_zretP C0 hrt hlk (Or.inl rfl) dX0_mayTurn_24
    · refine j_iconst C0 (v := 1) dX0_mayTurn_19 (by decide) ?_
      refine j_goto C0 24 dX0_mayTurn_20 (by decide) ?_
      exact j_zretP C0 hrt hlk (Or.inr rfl) dX0_mayTurn_24
theorem mayTurn_in {g : Mem} (hI : In g) {t : Nat} (ht : t < 3) {p0 p1 : Int32} (c : ¬ f_X0_mayTurn g t p0 p1 = 0) : vp_in p0 8 ∧ vp_in p1 8 := by
  unfold f_X0_mayTurn at c
  split at c
  · exact absurd rfl c
  · exact canEat_in hI ht (by assumption)

def f_X0_joyOfEating (g : Mem) (t : Nat) (p0 p1 : Int32) : Int32 := (if ((f_X3_stilledHunger g (8 * t + ix p0)) - ((kShy.getD (ix (g (8 * t + ix p0) 0)) 0) * (g (8 * t + ix p1) 7))) < (0 : Int32) then (0 : Int32) else ((f_X3_stilledHunger g (8 * t + ix p0)) - ((kShy.getD (ix (g (8 * t + ix p0) 0)) 0) * (g (8 * t + ix p1) 7))))
theorem yk_X0_joyOfEating : yokV yX0_joyOfEating RX0 cX0_joyOfEating 4 (some .int) 2 := ⟨w_307, w_305, w_306, w_2, by decide +kernel⟩
set_option maxHeartbeats 4000000 in
set_option maxRecDepth 100000 in
theorem c_X0_joyOfEating (l : Launch) (z : ZC) (g : Mem) (t : Nat) (ht : t < 3) (p0 p1 : Int32) (hv0 : vp_in p0 8) (hv1 : vp_in p1 8) (hI : In g) : ctC l yX0_joyOfEating cX0_joyOfEating 4 (some .int) 2 33 z g [.ref (zad z (40 + t)), .int p0, .int p1] (qIC z (f_X0_joyOfEating g t p0 p1, g)) := by
  refine ct_of (own := RX0) (q := fun r => qIC z (r, g)) (res := f_X0_joyOfEating g t p0 p1) (lv := [(0, .ref (zad z (40 + t))), (1, .int p0), (2, .int p1)]) (enokC z) rfl (by decide) (Nat.le_of_ble_eq_true rfl) rfl (fun p e s m args below meth c C0 hrt hlk => ?_)
  unfold f_X0_joyOfEating
  refine j_aload_n C0 0 dX0_joyOfEating_0 rfl rfl ?_
  refine g_Fete_people C0 ht w_81 dX0_joyOfEating_1 ?_
  refine j_iload_n C0 1 dX0_joyOfEating_4 rfl rfl ?_
  refine a_people C0 ht hv0 dX0_joyOfEating_5 ?_
  refine j_astore_n C0 (lv' := [(3, _), (0, _), (1, _), (2, _)]) dX0_joyOfEating_6 rfl (by decide) rfl ?_
  refine j_aload_n C0 0 dX0_joyOfEating_7 rfl rfl ?_
  refine j_callVi C0 (c_X3_stilledHunger l z _ (8 * t + ix p0) (vin_pk ht hv0)) yk_X3_stilledHunger w_308 (fun H locs hP _ => recvW C0 hP _ (Nat.lt_of_lt_of_le (vin_pk ht hv0) (by decide)) (cel_person (vin_pk ht hv0)) rfl) ⟨Nat.le_of_ble_eq_true rfl, Nat.le_of_ble_eq_true rfl⟩ rfl rfl (Nat.le_of_ble_eq_true rfl) dX0_joyOfEating_8 ?_
  refine j_aload_n C0 0 dX0_joyOfEating_11 rfl rfl ?_
  refine g_Person_kind C0 (vin_pk ht hv0) w_45 dX0_joyOfEating_12 ?_
  refine k_shyness C0 (In_pk hI (vin_pk ht hv0)) w_1166 dX0_joyOfEating_15 ?_
  refine j_aload_n C0 1 dX0_joyOfEating_18 rfl rfl ?_
  refine g_Fete_people C0 ht w_81 dX0_joyOfEating_19 ?_
  refine j_iload_n C0 3 dX0_joyOfEating_22 rfl rfl ?_
  refine a_people C0 ht hv1 dX0_joyOfEating_23 ?_
  refine g_Person_watched C0 (vin_pk ht hv1) w_63 dX0_joyOfEating_24 ?_
  refine j_imul C0 dX0_joyOfEating_27 ?_
  refine j_isub C0 dX0_joyOfEating_28 ?_
  refine j_iconst C0 (v := 0) dX0_joyOfEating_29 (by decide) ?_
  refine j_mmax C0 w_315 w_316 w_9 w_317 (Nat.le_of_ble_eq_true rfl) (Nat.le_of_ble_eq_true rfl) dX0_joyOfEating_30 ?_
  exact j_iretP C0 hrt hlk dX0_joyOfEating_33
def f_X0_joyOfLooking (g : Mem) (t : Nat) (p0 : Int32) : Int32 := (f_X3_stilledWish g (8 * t + ix p0))
theorem yk_X0_joyOfLooking : yokV yX0_joyOfLooking RX0 cX0_joyOfLooking 2 (some .int) 1 := ⟨w_321, w_319, w_320, w_2, by decide +kernel⟩
set_option maxHeartbeats 4000000 in
set_option maxRecDepth 100000 in
theorem c_X0_joyOfLooking (l : Launch) (z : ZC) (g : Mem) (t : Nat) (ht : t < 3) (p0 : Int32) (hv0 : vp_in p0 8) : ctC l yX0_joyOfLooking cX0_joyOfLooking 2 (some .int) 2 33 z g [.ref (zad z (40 + t)), .int p0] (qIC z (f_X0_joyOfLooking g t p0, g)) := by
  refine ct_of (own := RX0) (q := fun r => qIC z (r, g)) (res := f_X0_joyOfLooking g t p0) (lv := [(0, .ref (zad z (40 + t))), (1, .int p0)]) (enokC z) rfl (by decide) (Nat.le_of_ble_eq_true rfl) rfl (fun p e s m args below meth c C0 hrt hlk => ?_)
  unfold f_X0_joyOfLooking
  refine j_aload_n C0 0 dX0_joyOfLooking_0 rfl rfl ?_
  refine g_Fete_people C0 ht w_81 dX0_joyOfLooking_1 ?_
  refine j_iload_n C0 1 dX0_joyOfLooking_4 rfl rfl ?_
  refine a_people C0 ht hv0 dX0_joyOfLooking_5 ?_
  refine j_callVi C0 (c_X3_stilledWish l z _ (8 * t + ix p0) (vin_pk ht hv0)) yk_X3_stilledWish w_322 (fun H locs hP _ => recvW C0 hP _ (Nat.lt_of_lt_of_le (vin_pk ht hv0) (by decide)) (cel_person (vin_pk ht hv0)) rfl) ⟨Nat.le_of_ble_eq_true rfl, Nat.le_of_ble_eq_true rfl⟩ rfl rfl (Nat.le_of_ble_eq_true rfl) dX0_joyOfLooking_6 ?_
  exact j_iretP C0 hrt hlk dX0_joyOfLooking_9
def f_X0_joysOf (g : Mem) (t : Nat) (p0 p1 : Int32) : Int32 := ((f_X0_joyOfEating g t p0 p1) + (f_X0_joyOfLooking g t p1))
theorem yk_X0_joysOf : yokV yX0_joysOf RX0 cX0_joysOf 3 (some .int) 2 := ⟨w_303, w_301, w_302, w_2, by decide +kernel⟩
set_option maxHeartbeats 4000000 in
set_option maxRecDepth 100000 in
theorem c_X0_joysOf (l : Launch) (z : ZC) (g : Mem) (t : Nat) (ht : t < 3) (p0 p1 : Int32) (hv0 : vp_in p0 8) (hv1 : vp_in p1 8) (hI : In g) : ctC l yX0_joysOf cX0_joysOf 3 (some .int) 3 56 z g [.ref (zad z (40 + t)), .int p0, .int p1] (qIC z (f_X0_joysOf g t p0 p1, g)) := by
  refine ct_of (own := RX0) (q := fun r => qIC z (r, g)) (res := f_X0_joysOf g t p0 p1) (lv := [(0, .ref (zad z (40 + t))), (1, .int p0), (2, .int p1)]) (enokC z) rfl (by decide) (Nat.le_of_ble_eq_true rfl) rfl (fun p e s m args below meth c C0 hrt hlk => ?_)
  unfold f_X0_joysOf
  refine j_aload_n C0 0 dX0_joysOf_0 rfl rfl ?_
  refine j_iload_n C0 1 dX0_joysOf_1 rfl rfl ?_
  refine j_iload_n C0 2 dX0_joysOf_2 rfl rfl ?_
  refine j_callVi C0 (c_X0_joyOfEating l z _ t ht _ _ hv0 hv1 hI) yk_X0_joyOfEating w_304 (fun H locs hP _ => recvW C0 hP _ (by have := ht; omega) (cel_fete ht) rfl) ⟨Nat.le_of_ble_eq_true rfl, Nat.le_of_ble_eq_true rfl⟩ rfl rfl (Nat.le_of_ble_eq_true rfl) dX0_joysOf_3 ?_
  refine j_aload_n C0 0 dX0_joysOf_6 rfl rfl ?_
  refine j_iload_n C0 2 dX0_joysOf_7 rfl rfl ?_
  refine j_callVi C0 (c_X0_joyOfLooking l z _ t ht _ hv1) yk_X0_joyOfLooking w_318 (fun H locs hP _ => recvW C0 hP _ (by have := ht; omega) (cel_fete ht) rfl) ⟨Nat.le_of_ble_eq_true rfl, Nat.le_of_ble_eq_true rfl⟩ rfl rfl (Nat.le_of_ble_eq_true rfl) dX0_joysOf_8 ?_
  refine j_iadd C0 dX0_joysOf_11 ?_
  exact j_iretP C0 hrt hlk dX0_joysOf_12
