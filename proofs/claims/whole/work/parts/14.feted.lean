def f_X0_allHunger_4 (g : Mem) (t : Nat) : Nat → Int32 → Int32 → Int32
  | 0, _, _ => 0
  | n0 + 1, a1, a2 => if (g (40 + t) 1) ≤ a2 then (a1) else (f_X0_allHunger_4 g t n0 (a1 + (g (8 * t + ix a2) 4)) (a2 + (1 : Int32)))
def f_X0_allHunger (g : Mem) (t : Nat) : Int32 := f_X0_allHunger_4 g t 9 (0 : Int32) (0 : Int32)
theorem yk_X0_allHunger : yokV yX0_allHunger RX0 cX0_allHunger 3 (some .int) 0 := ⟨w_463, w_461, w_462, w_2, by decide +kernel⟩
set_option maxHeartbeats 4000000 in
set_option maxRecDepth 100000 in
theorem c_X0_allHunger (l : Launch) (z : ZC) (g : Mem) (t : Nat) (ht : t < 3) (hI : In g) : ctC l yX0_allHunger cX0_allHunger 3 (some .int) 0 0 z g [.ref (zad z (40 + t))] (qIC z (f_X0_allHunger g t, g)) := by
  refine ct_of (own := RX0) (q := fun r => qIC z (r, g)) (res := f_X0_allHunger g t) (lv := [(0, .ref (zad z (40 + t)))]) (enokC z) rfl (by decide) (Nat.le_of_ble_eq_true rfl) rfl (fun p e s m args below meth c C0 hrt hlk => ?_)
  unfold f_X0_allHunger
  refine j_iconst C0 (v := 0) dX0_allHunger_0 (by decide) ?_
  refine j_istore_n C0 (lv' := [(1, _), (0, _)]) dX0_allHunger_1 rfl (by decide) rfl ?_
  refine j_iconst C0 (v := 0) dX0_allHunger_2 (by decide) ?_
  refine j_istore_n C0 (lv' := [(2, _), (1, _), (0, _)]) dX0_allHunger_3 rfl (by decide) rfl ?_
  have L4 : ∀ (n0 : Nat) (a1 : Int32) (a2 : Int32), lc a2 (g (40 + t) 1) n0 → jj p l e { frames := 0, cells := 0, slots := 0, locals := 0 } s m args below meth c (zA z) (zD z) 52 (zad z) (celC z) 3 (fun r => MQ below (qIC z (r, g)) args s 0 0 (zA z)) (f_X0_allHunger_4 g t n0 a1 a2) g 4 [(0, .ref (zad z (40 + t))), (1, .int a1), (2, .int a2)] [] := by
    intro n0
    induction n0 with
    | zero => intro a1 a2 hL; exact absurd hL.2 (Nat.not_lt_zero _)
    | succ n0 ih0 =>
      intro a1 a2 hL
      rw [f_X0_allHunger_4]
      refine j_iload_n C0 2 dX0_allHunger_4 rfl rfl ?_
      refine j_aload_n C0 0 dX0_allHunger_5 rfl rfl ?_
      refine g_Fete_size C0 ht w_84 dX0_allHunger_6 ?_
      refine j_icmp_ge C0 30 dX0_allHunger_9 (by decide) (fun c_9 => ?_) (fun c_9 => ?_)
      · refine j_iload_n C0 1 dX0_allHunger_30 rfl rfl ?_
        exact j_iretP C0 hrt hlk dX0_allHunger_31
      · have hv_a2 : vp_in a2 8 := vin_lc hL c_9 (In_sz hI ht)
        refine j_iload_n C0 1 dX0_allHunger_12 rfl rfl ?_
        refine j_aload_n C0 0 dX0_allHunger_13 rfl rfl ?_
        refine g_Fete_people C0 ht w_81 dX0_allHunger_14 ?_
        refine j_iload_n C0 2 dX0_allHunger_17 rfl rfl ?_
        refine a_people C0 ht hv_a2 dX0_allHunger_18 ?_
        refine g_Person_hunger C0 (vin_pk ht hv_a2) w_54 dX0_allHunger_19 ?_
        refine j_iadd C0 dX0_allHunger_22 ?_
        refine j_istore_n C0 (lv' := [(1, _), (0, _), (2, _)]) dX0_allHunger_23 rfl (by decide) rfl ?_
        refine j_iinc C0 (lv' := [(2, _), (1, _), (0, _)]) (v := _ + (1)) 2 dX0_allHunger_24 rfl (by rfl) (by decide) rfl ?_
        refine j_goto C0 4 dX0_allHunger_27 (by decide) ?_
        exact j_sub [2, 1, 0] rfl (ih0 _ _ (lc_stepN hL c_9))
  exact j_sub [2, 1, 0] rfl (L4 9 _ _ (lc_0 (by have := (In_sz hI ht); omega) (by decide)))
def f_X0_allWish_4 (g : Mem) (t : Nat) : Nat → Int32 → Int32 → Int32
  | 0, _, _ => 0
  | n0 + 1, a1, a2 => if (g (40 + t) 1) ≤ a2 then (a1) else (f_X0_allWish_4 g t n0 (a1 + (g (8 * t + ix a2) 5)) (a2 + (1 : Int32)))
def f_X0_allWish (g : Mem) (t : Nat) : Int32 := f_X0_allWish_4 g t 9 (0 : Int32) (0 : Int32)
theorem yk_X0_allWish : yokV yX0_allWish RX0 cX0_allWish 3 (some .int) 0 := ⟨w_614, w_612, w_613, w_2, by decide +kernel⟩
set_option maxHeartbeats 4000000 in
set_option maxRecDepth 100000 in
theorem c_X0_allWish (l : Launch) (z : ZC) (g : Mem) (t : Nat) (ht : t < 3) (hI : In g) : ctC l yX0_allWish cX0_allWish 3 (some .int) 0 0 z g [.ref (zad z (40 + t))] (qIC z (f_X0_allWish g t, g)) := by
  refine ct_of (own := RX0) (q := fun r => qIC z (r, g)) (res := f_X0_allWish g t) (lv := [(0, .ref (zad z (40 + t)))]) (enokC z) rfl (by decide) (Nat.le_of_ble_eq_true rfl) rfl (fun p e s m args below meth c C0 hrt hlk => ?_)
  unfold f_X0_allWish
  refine j_iconst C0 (v := 0) dX0_allWish_0 (by decide) ?_
  refine j_istore_n C0 (lv' := [(1, _), (0, _)]) dX0_allWish_1 rfl (by decide) rfl ?_
  refine j_iconst C0 (v := 0) dX0_allWish_2 (by decide) ?_
  refine j_istore_n C0 (lv' := [(2, _), (1, _), (0, _)]) dX0_allWish_3 rfl (by decide) rfl ?_
  have L4 : ∀ (n0 : Nat) (a1 : Int32) (a2 : Int32), lc a2 (g (40 + t) 1) n0 → jj p l e { frames := 0, cells := 0, slots := 0, locals := 0 } s m args below meth c (zA z) (zD z) 52 (zad z) (celC z) 3 (fun r => MQ below (qIC z (r, g)) args s 0 0 (zA z)) (f_X0_allWish_4 g t n0 a1 a2) g 4 [(0, .ref (zad z (40 + t))), (1, .int a1), (2, .int a2)] [] := by
    intro n0
    induction n0 with
    | zero => intro a1 a2 hL; exact absurd hL.2 (Nat.not_lt_zero _)
    | succ n0 ih0 =>
      intro a1 a2 hL
      rw [f_X0_allWish_4]
      refine j_iload_n C0 2 dX0_allWish_4 rfl rfl ?_
      refine j_aload_n C0 0 dX0_allWish_5 rfl rfl ?_
      refine g_Fete_size C0 ht w_84 dX0_allWish_6 ?_
      refine j_icmp_ge C0 30 dX0_allWish_9 (by decide) (fun c_9 => ?_) (fun c_9 => ?_)
      · refine j_iload_n C0 1 dX0_allWish_30 rfl rfl ?_
        exact j_iretP C0 hrt hlk dX0_allWish_31
      · have hv_a2 : vp_in a2 8 := vin_lc hL c_9 (In_sz hI ht)
        refine j_iload_n C0 1 dX0_allWish_12 rfl rfl ?_
        refine j_aload_n C0 0 dX0_allWish_13 rfl rfl ?_
        refine g_Fete_people C0 ht w_81 dX0_allWish_14 ?_
        refine j_iload_n C0 2 dX0_allWish_17 rfl rfl ?_
        refine a_people C0 ht hv_a2 dX0_allWish_18 ?_
        refine g_Person_wish C0 (vin_pk ht hv_a2) w_57 dX0_allWish_19 ?_
        refine j_iadd C0 dX0_allWish_22 ?_
        refine j_istore_n C0 (lv' := [(1, _), (0, _), (2, _)]) dX0_allWish_23 rfl (by decide) rfl ?_
        refine j_iinc C0 (lv' := [(2, _), (1, _), (0, _)]) (v := _ + (1)) 2 dX0_allWish_24 rfl (by rfl) (by decide) rfl ?_
        refine j_goto C0 4 dX0_allWish_27 (by decide) ?_
        exact j_sub [2, 1, 0] rfl (ih0 _ _ (lc_stepN hL c_9))
  exact j_sub [2, 1, 0] rfl (L4 9 _ _ (lc_0 (by have := (In_sz hI ht); omega) (by decide)))
def f_X0_allEaten_4 (g : Mem) (t : Nat) : Nat → Int32 → Int32 → Int32
  | 0, _, _ => 0
  | n0 + 1, a1, a2 => if (g (40 + t) 1) ≤ a2 then (a1) else (f_X0_allEaten_4 g t n0 (a1 + (g (8 * t + ix a2) 6)) (a2 + (1 : Int32)))
def f_X0_allEaten (g : Mem) (t : Nat) : Int32 := f_X0_allEaten_4 g t 9 (0 : Int32) (0 : Int32)
theorem yk_X0_allEaten : yokV yX0_allEaten RX0 cX0_allEaten 3 (some .int) 0 := ⟨w_618, w_616, w_617, w_2, by decide +kernel⟩
set_option maxHeartbeats 4000000 in
set_option maxRecDepth 100000 in
theorem c_X0_allEaten (l : Launch) (z : ZC) (g : Mem) (t : Nat) (ht : t < 3) (hI : In g) : ctC l yX0_allEaten cX0_allEaten 3 (some .int) 0 0 z g [.ref (zad z (40 + t))] (qIC z (f_X0_allEaten g t, g)) := by
  refine ct_of (own := RX0) (q := fun r => qIC z (r, g)) (res := f_X0_allEaten g t) (lv := [(0, .ref (zad z (40 + t)))]) (enokC z) rfl (by decide) (Nat.le_of_ble_eq_true rfl) rfl (fun p e s m args below meth c C0 hrt hlk => ?_)
  unfold f_X0_allEaten
  refine j_iconst C0 (v := 0) dX0_allEaten_0 (by decide) ?_
  refine j_istore_n C0 (lv' := [(1, _), (0, _)]) dX0_allEaten_1 rfl (by decide) rfl ?_
  refine j_iconst C0 (v := 0) dX0_allEaten_2 (by decide) ?_
  refine j_istore_n C0 (lv' := [(2, _), (1, _), (0, _)]) dX0_allEaten_3 rfl (by decide) rfl ?_
  have L4 : ∀ (n0 : Nat) (a1 : Int32) (a2 : Int32), lc a2 (g (40 + t) 1) n0 → jj p l e { frames := 0, cells := 0, slots := 0, locals := 0 } s m args below meth c (zA z) (zD z) 52 (zad z) (celC z) 3 (fun r => MQ below (qIC z (r, g)) args s 0 0 (zA z)) (f_X0_allEaten_4 g t n0 a1 a2) g 4 [(0, .ref (zad z (40 + t))), (1, .int a1), (2, .int a2)] [] := by
    intro n0
    induction n0 with
    | zero => intro a1 a2 hL; exact absurd hL.2 (Nat.not_lt_zero _)
    | succ n0 ih0 =>
      intro a1 a2 hL
      rw [f_X0_allEaten_4]
      refine j_iload_n C0 2 dX0_allEaten_4 rfl rfl ?_
      refine j_aload_n C0 0 dX0_allEaten_5 rfl rfl ?_
      refine g_Fete_size C0 ht w_84 dX0_allEaten_6 ?_
      refine j_icmp_ge C0 30 dX0_allEaten_9 (by decide) (fun c_9 => ?_) (fun c_9 => ?_)
      · refine j_iload_n C0 1 dX0_allEaten_30 rfl rfl ?_
        exact j_iretP C0 hrt hlk dX0_allEaten_31
      · have hv_a2 : vp_in a2 8 := vin_lc hL c_9 (In_sz hI ht)
        refine j_iload_n C0 1 dX0_allEaten_12 rfl rfl ?_
        refine j_aload_n C0 0 dX0_allEaten_13 rfl rfl ?_
        refine g_Fete_people C0 ht w_81 dX0_allEaten_14 ?_
        refine j_iload_n C0 2 dX0_allEaten_17 rfl rfl ?_
        refine a_people C0 ht hv_a2 dX0_allEaten_18 ?_
        refine g_Person_eaten C0 (vin_pk ht hv_a2) w_60 dX0_allEaten_19 ?_
        refine j_iadd C0 dX0_allEaten_22 ?_
        refine j_istore_n C0 (lv' := [(1, _), (0, _), (2, _)]) dX0_allEaten_23 rfl (by decide) rfl ?_
        refine j_iinc C0 (lv' := [(2, _), (1, _), (0, _)]) (v := _ + (1)) 2 dX0_allEaten_24 rfl (by rfl) (by decide) rfl ?_
        refine j_goto C0 4 dX0_allEaten_27 (by decide) ?_
        exact j_sub [2, 1, 0] rfl (ih0 _ _ (lc_stepN hL c_9))
  exact j_sub [2, 1, 0] rfl (L4 9 _ _ (lc_0 (by have := (In_sz hI ht); omega) (by decide)))
def f_X0_whoHasHadNone_4 (g : Mem) (t : Nat) : Nat → Int32 → Int32 → Int32
  | 0, _, _ => 0
  | n0 + 1, a1, a2 => if (g (40 + t) 1) ≤ a2 then (a1) else (if (g (8 * t + ix a2) 6) = 0 then (f_X0_whoHasHadNone_4 g t n0 (a1 ||| ((1 : Int32) <<< (a2 &&& 31))) (a2 + (1 : Int32))) else (f_X0_whoHasHadNone_4 g t n0 a1 (a2 + (1 : Int32))))
def f_X0_whoHasHadNone (g : Mem) (t : Nat) : Int32 := f_X0_whoHasHadNone_4 g t 9 (0 : Int32) (0 : Int32)
theorem yk_X0_whoHasHadNone : yokV yX0_whoHasHadNone RX0 cX0_whoHasHadNone 3 (some .int) 0 := ⟨w_622, w_620, w_621, w_2, by decide +kernel⟩
set_option maxHeartbeats 4000000 in
set_option maxRecDepth 100000 in
theorem c_X0_whoHasHadNone (l : Launch) (z : ZC) (g : Mem) (t : Nat) (ht : t < 3) (hI : In g) : ctC l yX0_whoHasHadNone cX0_whoHasHadNone 3 (some .int) 0 0 z g [.ref (zad z (40 + t))] (qIC z (f_X0_whoHasHadNone g t, g)) := by
  refine ct_of (own := RX0) (q := fun r => qIC z (r, g)) (res := f_X0_whoHasHadNone g t) (lv := [(0, .ref (zad z (40 + t)))]) (enokC z) rfl (by decide) (Nat.le_of_ble_eq_true rfl) rfl (fun p e s m args below meth c C0 hrt hlk => ?_)
  unfold f_X0_whoHasHadNone
  refine j_iconst C0 (v := 0) dX0_whoHasHadNone_0 (by decide) ?_
  refine j_istore_n C0 (lv' := [(1, _), (0, _)]) dX0_whoHasHadNone_1 rfl (by decide) rfl ?_
  refine j_iconst C0 (v := 0) dX0_whoHasHadNone_2 (by decide) ?_
  refine j_istore_n C0 (lv' := [(2, _), (1, _), (0, _)]) dX0_whoHasHadNone_3 rfl (by decide) rfl ?_
  have L4 : ∀ (n0 : Nat) (a1 : Int32) (a2 : Int32), lc a2 (g (40 + t) 1) n0 → jj p l e { frames := 0, cells := 0, slots := 0, locals := 0 } s m args below meth c (zA z) (zD z) 52 (zad z) (celC z) 3 (fun r => MQ below (qIC z (r, g)) args s 0 0 (zA z)) (f_X0_whoHasHadNone_4 g t n0 a1 a2) g 4 [(0, .ref (zad z (40 + t))), (1, .int a1), (2, .int a2)] [] := by
    intro n0
    induction n0 with
    | zero => intro a1 a2 hL; exact absurd hL.2 (Nat.not_lt_zero _)
    | succ n0 ih0 =>
      intro a1 a2 hL
      rw [f_X0_whoHasHadNone_4]
      refine j_iload_n C0 2 dX0_whoHasHadNone_4 rfl rfl ?_
      refine j_aload_n C0 0 dX0_whoHasHadNone_5 rfl rfl ?_
      refine g_Fete_size C0 ht w_84 dX0_whoHasHadNone_6 ?_
      refine j_icmp_ge C0 36 dX0_whoHasHadNone_9 (by decide) (fun c_9 => ?_) (fun c_9 => ?_)
      · refine j_iload_n C0 1 dX0_whoHasHadNone_36 rfl rfl ?_
        exact j_iretP C0 hrt hlk dX0_whoHasHadNone_37
      · have hv_a2 : vp_in a2 8 := vin_lc hL c_9 (In_sz hI ht)
        refine j_aload_n C0 0 dX0_whoHasHadNone_12 rfl rfl ?_
        refine g_Fete_people C0 ht w_81 dX0_whoHasHadNone_13 ?_
        refine j_iload_n C0 2 dX0_whoHasHadNone_16 rfl rfl ?_
        refine a_people C0 ht hv_a2 dX0_whoHasHadNone_17 ?_
        refine g_Person_eaten C0 (vin_pk ht hv_a2) w_60 dX0_whoHasHadNone_18 ?_
        refine j_if_ne C0 30 dX0_whoHasHadNone_21 (by decide) (fun c_21 => ?_) (fun c_21 => ?_)
        · refine j_iload_n C0 1 dX0_whoHasHadNone_24 rfl rfl ?_
          refine j_iconst C0 (v := 1) dX0_whoHasHadNone_25 (by decide) ?_
          refine j_iload_n C0 2 dX0_whoHasHadNone_26 rfl rfl ?_
          refine j_ishl C0 dX0_whoHasHadNone_27 ?_
          refine j_ior C0 dX0_whoHasHadNone_28 ?_
          refine j_istore_n C0 (lv' := [(1, _), (0, _), (2, _)]) dX0_whoHasHadNone_29 rfl (by decide) rfl ?_
          refine j_iinc C0 (lv' := [(2, _), (1, _), (0, _)]) (v := _ + (1)) 2 dX0_whoHasHadNone_30 rfl (by rfl) (by decide) rfl ?_
          refine j_goto C0 4 dX0_whoHasHadNone_33 (by decide) ?_
          exact j_sub [2, 1, 0] rfl (ih0 _ _ (lc_stepN hL c_9))
        · refine j_iinc C0 (lv' := [(2, _), (0, _), (1, _)]) (v := _ + (1)) 2 dX0_whoHasHadNone_30 rfl (by rfl) (by decide) rfl ?_
          refine j_goto C0 4 dX0_whoHasHadNone_33 (by decide) ?_
          exact j_sub [1, 2, 0] rfl (ih0 _ _ (lc_stepN hL c_9))
  exact j_sub [2, 1, 0] rfl (L4 9 _ _ (lc_0 (by have := (In_sz hI ht); omega) (by decide)))
