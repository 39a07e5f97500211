def f_X6_who_28 (g : Mem) (p0 : Int32) (K0 : Int32 → Int32 → Int32) (a2 : Int32) (a3 : Int32) : Nat → Int32 → Int32 → Int32
  | 0, _, _ => 0
  | n1 + 1, b2, b4 => if (g 1 0) ≤ b4 then (K0 b2 (a3 + (1 : Int32))) else (if (f_X6_canEat g 1 a3 b4) = 0 then (f_X6_who_28 g p0 K0 a2 a3 n1 (b2 ||| (0 : Int32)) (b4 + (1 : Int32))) else (if p0 = 0 then (f_X6_who_28 g p0 K0 a2 a3 n1 (b2 ||| ((1 : Int32) <<< (a3 &&& 31))) (b4 + (1 : Int32))) else (f_X6_who_28 g p0 K0 a2 a3 n1 (b2 ||| ((1 : Int32) <<< (b4 &&& 31))) (b4 + (1 : Int32)))))
def f_X6_who_15 (g : Mem) (p0 : Int32) : Nat → Int32 → Int32 → Int32
  | 0, _, _ => 0
  | n0 + 1, a2, a3 => if (g 1 0) ≤ a3 then (a2) else (f_X6_who_28 g p0 (fun a2' a3' => f_X6_who_15 g p0 n0 a2' a3') a2 a3 10 a2 (0 : Int32))
def f_X6_who (g : Mem) (p0 : Int32) : Int32 := if (f_X6_isIn p0 (0 : Int32) (1 : Int32)) = 0 then ((-1 : Int32)) else (f_X6_who_15 g p0 10 (0 : Int32) (0 : Int32))
theorem yk_X6_who : yokV yX6_who RX6 cX6_who 5 (some .int) 1 := ⟨w_975, w_973, w_974, w_8, by decide +kernel⟩
set_option maxHeartbeats 4000000 in
set_option maxRecDepth 100000 in
theorem c_X6_who (l : Launch) (z : ZM) (g : Mem) (p0 : Int32) (hI : InM g) : ctM l yX6_who cX6_who 5 (some .int) 3 64 z g [.ref (yad z 0), .int p0] (qIM z (f_X6_who g p0, g)) := by
  refine ct_of (own := RX6) (q := fun r => qIM z (r, g)) (res := f_X6_who g p0) (lv := [(0, .ref (yad z 0)), (1, .int p0)]) enokM rfl (by decide) (Nat.le_of_ble_eq_true rfl) rfl (fun p e s m args below meth c C0 hrt hlk => ?_)
  unfold f_X6_who
  refine j_iload_n C0 1 dX6_who_0 rfl rfl ?_
  refine j_iconst C0 (v := 0) dX6_who_1 (by decide) ?_
  refine j_iconst C0 (v := 1) dX6_who_2 (by decide) ?_
  refine j_callSi C0 (c_X6_isIn l z _ _ _ _) yk_X6_isIn w_872 ⟨Nat.le_of_ble_eq_true rfl, Nat.le_of_ble_eq_true rfl⟩ rfl rfl (Nat.le_of_ble_eq_true rfl) dX6_who_3 ?_
  refine j_if_ne C0 11 dX6_who_6 (by decide) (fun c_6 => ?_) (fun c_6 => ?_)
  · refine j_iconst C0 (v := (-1)) dX6_who_9 (by decide) ?_
    exact j_iretP C0 hrt hlk dX6_who_10
  · refine j_iconst C0 (v := 0) dX6_who_11 (by decide) ?_
    refine j_istore_n C0 (lv' := [(2, _), (0, _), (1, _)]) dX6_who_12 rfl (by decide) rfl ?_
    refine j_iconst C0 (v := 0) dX6_who_13 (by decide) ?_
    refine j_istore_n C0 (lv' := [(3, _), (2, _), (0, _), (1, _)]) dX6_who_14 rfl (by decide) rfl ?_
    have L15 : ∀ (n0 : Nat) (a2 : Int32) (a3 : Int32), lc a3 (g 1 0) n0 → jj p l e { frames := 3, cells := 0, slots := 0, locals := 64 } s m args below meth c (yA z) (yD z) 14 (yad z) (celM z) 5 (fun r => MQ below (qIM z (r, g)) args s 0 0 (yA z)) (f_X6_who_15 g p0 n0 a2 a3) g 15 [(0, .ref (yad z 0)), (1, .int p0), (2, .int a2), (3, .int a3)] [] := by
      intro n0
      induction n0 with
      | zero => intro a2 a3 hL0; exact absurd hL0.2 (Nat.not_lt_zero _)
      | succ n0 ih0 =>
        intro a2 a3 hL0
        rw [f_X6_who_15]
        refine j_iload_n C0 3 dX6_who_15 rfl rfl ?_
        refine j_aload_n C0 0 dX6_who_16 rfl rfl ?_
        refine g_Model_s C0 w_800 dX6_who_17 ?_
        refine j_iconst C0 (v := 0) dX6_who_20 (by decide) ?_
        refine a_Ml C0 (by decide) ixl_0 vl57_0 dX6_who_21 ?_
        refine j_icmp_ge C0 83 dX6_who_22 (by decide) (fun c_22 => ?_) (fun c_22 => ?_)
        · refine j_iload_n C0 2 dX6_who_83 rfl rfl ?_
          exact j_iretP C0 hrt hlk dX6_who_84
        · have hv_a3 : vp_in a3 9 := vin_lc hL0 c_22 (InM_s9 hI)
          refine j_iconst C0 (v := 0) dX6_who_25 (by decide) ?_
          refine j_istore C0 (lv' := [(4, _), (0, _), (1, _), (2, _), (3, _)]) dX6_who_26 (by decide) rfl ?_
          have L28 : ∀ (n1 : Nat) (b2 : Int32) (b4 : Int32), lc b4 (g 1 0) n1 → jj p l e { frames := 3, cells := 0, slots := 0, locals := 64 } s m args below meth c (yA z) (yD z) 14 (yad z) (celM z) 5 (fun r => MQ below (qIM z (r, g)) args s 0 0 (yA z)) (f_X6_who_28 g p0 (fun a2' a3' => f_X6_who_15 g p0 n0 a2' a3') a2 a3 n1 b2 b4) g 28 [(0, .ref (yad z 0)), (1, .int p0), (2, .int b2), (3, .int a3), (4, .int b4)] [] := by
            intro n1
            induction n1 with
            | zero => intro b2 b4 hL1; exact absurd hL1.2 (Nat.not_lt_zero _)
            | succ n1 ih1 =>
              intro b2 b4 hL1
              rw [f_X6_who_28]
              refine j_iload C0 4 dX6_who_28 rfl ?_
              refine j_aload_n C0 0 dX6_who_30 rfl rfl ?_
              refine g_Model_s C0 w_800 dX6_who_31 ?_
              refine j_iconst C0 (v := 0) dX6_who_34 (by decide) ?_
              refine a_Ml C0 (by decide) ixl_0 vl57_0 dX6_who_35 ?_
              refine j_icmp_ge C0 77 dX6_who_36 (by decide) (fun c_36 => ?_) (fun c_36 => ?_)
              · refine j_iinc C0 (lv' := [(3, _), (0, _), (1, _), (2, _), (4, _)]) (v := _ + (1)) 3 dX6_who_77 rfl (by rfl) (by decide) rfl ?_
                refine j_goto C0 15 dX6_who_80 (by decide) ?_
                exact j_sub [1, 2, 3, 0] rfl (ih0 _ _ (lc_stepN hL0 c_22))
              · have hv_b4 : vp_in b4 9 := vin_lc hL1 c_36 (InM_s9 hI)
                refine j_iload_n C0 2 dX6_who_39 rfl rfl ?_
                refine j_aload_n C0 0 dX6_who_40 rfl rfl ?_
                refine g_Model_s C0 w_800 dX6_who_41 ?_
                refine j_iload_n C0 3 dX6_who_44 rfl rfl ?_
                refine j_iload C0 4 dX6_who_45 rfl ?_
                refine j_callSi C0 (c_X6_canEat l z _ 1 rw4_1 _ _ hv_a3 hv_b4) yk_X6_canEat w_904 ⟨Nat.le_of_ble_eq_true rfl, Nat.le_of_ble_eq_true rfl⟩ rfl rfl (Nat.le_of_ble_eq_true rfl) dX6_who_47 ?_
                refine j_if_eq C0 68 dX6_who_50 (by decide) (fun c_50 => ?_) (fun c_50 => ?_)
                · refine j_iconst C0 (v := 0) dX6_who_68 (by decide) ?_
                  refine j_ior C0 dX6_who_69 ?_
                  refine j_istore_n C0 (lv' := [(2, _), (0, _), (1, _), (3, _), (4, _)]) dX6_who_70 rfl (by decide) rfl ?_
                  refine j_iinc C0 (lv' := [(4, _), (2, _), (0, _), (1, _), (3, _)]) (v := _ + (1)) 4 dX6_who_71 rfl (by rfl) (by decide) rfl ?_
                  refine j_goto C0 28 dX6_who_74 (by decide) ?_
                  exact j_sub [2, 3, 1, 4, 0] rfl (ih1 _ _ (lc_stepN hL1 c_36))
                · refine j_iconst C0 (v := 1) dX6_who_53 (by decide) ?_
                  refine j_iload_n C0 1 dX6_who_54 rfl rfl ?_
                  refine j_if_ne C0 62 dX6_who_55 (by decide) (fun c_55 => ?_) (fun c_55 => ?_)
                  · refine j_iload_n C0 3 dX6_who_58 rfl rfl ?_
                    refine j_goto C0 64 dX6_who_59 (by decide) ?_
                    refine j_ishl C0 dX6_who_64 ?_
                    refine j_goto C0 69 dX6_who_65 (by decide) ?_
                    refine j_ior C0 dX6_who_69 ?_
                    refine j_istore_n C0 (lv' := [(2, _), (0, _), (1, _), (3, _), (4, _)]) dX6_who_70 rfl (by decide) rfl ?_
                    refine j_iinc C0 (lv' := [(4, _), (2, _), (0, _), (1, _), (3, _)]) (v := _ + (1)) 4 dX6_who_71 rfl (by rfl) (by decide) rfl ?_
                    refine j_goto C0 28 dX6_who_74 (by decide) ?_
                    exact j_sub [2, 3, 1, 4, 0] rfl (ih1 _ _ (lc_stepN hL1 c_36))
                  · refine j_iload C0 4 dX6_who_62 rfl ?_
                    refine j_ishl C0 dX6_who_64 ?_
                    refine j_goto C0 69 dX6_who_65 (by decide) ?_
                    refine j_ior C0 dX6_who_69 ?_
                    refine j_istore_n C0 (lv' := [(2, _), (0, _), (1, _), (3, _), (4, _)]) dX6_who_70 rfl (by decide) rfl ?_
                    refine j_iinc C0 (lv' := [(4, _), (2, _), (0, _), (1, _), (3, _)]) (v := _ + (1)) 4 dX6_who_71 rfl (by rfl) (by decide) rfl ?_
                    refine j_goto C0 28 dX6_who_74 (by decide) ?_
                    exact j_sub [2, 3, 1, 4, 0] rfl (ih1 _ _ (lc_stepN hL1 c_36))
          exact j_sub [1, 2, 3, 4, 0] rfl (L28 10 _ _ (lc_0 (by have := (InM_s9 hI); omega) (by decide)))
    exact j_sub [2, 3, 1, 0] rfl (L15 10 _ _ (lc_0 (by have := (InM_s9 hI); omega) (by decide)))
def f_X6_bestPair (g : Mem) (p0 : Int32) : Int32 := if (f_X6_isIn p0 (0 : Int32) (1 : Int32)) = 0 then ((-1 : Int32)) else (if (f_X6_bestIn g 1) < 0 then ((f_X6_bestIn g 1)) else (if p0 = 0 then ((f_X6_bestIn g 1)) else ((f_X6_bestJoys g 1))))
theorem yk_X6_bestPair : yokV yX6_bestPair RX6 cX6_bestPair 3 (some .int) 1 := ⟨w_979, w_977, w_978, w_8, by decide +kernel⟩
set_option maxHeartbeats 4000000 in
set_option maxRecDepth 100000 in
theorem c_X6_bestPair (l : Launch) (z : ZM) (g : Mem) (p0 : Int32) (hI : InM g) : ctM l yX6_bestPair cX6_bestPair 3 (some .int) 6 131 z g [.ref (yad z 0), .int p0] (qIM z (f_X6_bestPair g p0, g)) := by
  refine ct_of (own := RX6) (q := fun r => qIM z (r, g)) (res := f_X6_bestPair g p0) (lv := [(0, .ref (yad z 0)), (1, .int p0)]) enokM rfl (by decide) (Nat.le_of_ble_eq_true rfl) rfl (fun p e s m args below meth c C0 hrt hlk => ?_)
  unfold f_X6_bestPair
  refine j_iload_n C0 1 dX6_bestPair_0 rfl rfl ?_
  refine j_iconst C0 (v := 0) dX6_bestPair_1 (by decide) ?_
  refine j_iconst C0 (v := 1) dX6_bestPair_2 (by decide) ?_
  refine j_callSi C0 (c_X6_isIn l z _ _ _ _) yk_X6_isIn w_872 ⟨Nat.le_of_ble_eq_true rfl, Nat.le_of_ble_eq_true rfl⟩ rfl rfl (Nat.le_of_ble_eq_true rfl) dX6_bestPair_3 ?_
  refine j_if_ne C0 11 dX6_bestPair_6 (by decide) (fun c_6 => ?_) (fun c_6 => ?_)
  · refine j_iconst C0 (v := (-1)) dX6_bestPair_9 (by decide) ?_
    exact j_iretP C0 hrt hlk dX6_bestPair_10
  · refine j_aload_n C0 0 dX6_bestPair_11 rfl rfl ?_
    refine g_Model_s C0 w_800 dX6_bestPair_12 ?_
    refine j_callSi C0 (c_X6_bestIn l z _ 1 rw4_1  (InM_s9 hI)) yk_X6_bestIn w_980 ⟨Nat.le_of_ble_eq_true rfl, Nat.le_of_ble_eq_true rfl⟩ rfl rfl (Nat.le_of_ble_eq_true rfl) dX6_bestPair_15 ?_
    refine j_istore_n C0 (lv' := [(2, _), (0, _), (1, _)]) dX6_bestPair_18 rfl (by decide) rfl ?_
    refine j_iload_n C0 0 dX6_bestPair_19 rfl rfl ?_
    refine j_if_lt C0 27 dX6_bestPair_20 (by decide) (fun c_20 => ?_) (fun c_20 => ?_)
    · refine j_iload_n C0 0 dX6_bestPair_27 rfl rfl ?_
      refine j_goto C0 38 dX6_bestPair_28 (by decide) ?_
      exact j_iretP C0 hrt hlk dX6_bestPair_38
    · refine j_iload_n C0 2 dX6_bestPair_23 rfl rfl ?_
      refine j_if_ne C0 31 dX6_bestPair_24 (by decide) (fun c_24 => ?_) (fun c_24 => ?_)
      · refine j_iload_n C0 0 dX6_bestPair_27 rfl rfl ?_
        refine j_goto C0 38 dX6_bestPair_28 (by decide) ?_
        exact j_iretP C0 hrt hlk dX6_bestPair_38
      · refine j_aload_n C0 1 dX6_bestPair_31 rfl rfl ?_
        refine g_Model_s C0 w_800 dX6_bestPair_32 ?_
        refine j_callSi C0 (c_X6_bestJoys l z _ 1 rw4_1  (InM_s9 hI)) yk_X6_bestJoys w_983 ⟨Nat.le_of_ble_eq_true rfl, Nat.le_of_ble_eq_true rfl⟩ rfl rfl (Nat.le_of_ble_eq_true rfl) dX6_bestPair_35 ?_
        exact j_iretP C0 hrt hlk dX6_bestPair_38
def f_X6_bestLooker_15 (g : Mem) (p0 : Int32) : Nat → Int32 → Int32 → Int32
  | 0, _, _ => 0
  | n0 + 1, a2, a3 => if (g 1 0) ≤ a3 then (a2) else (if (f_X6_canEat g 1 p0 a3) = 0 then (f_X6_bestLooker_15 g p0 n0 a2 (a3 + (1 : Int32))) else (if a2 < 0 then (f_X6_bestLooker_15 g p0 n0 a3 (a3 + (1 : Int32))) else (if (f_X6_joysOf g 1 p0 a3) ≤ (f_X6_joysOf g 1 p0 a2) then (f_X6_bestLooker_15 g p0 n0 a2 (a3 + (1 : Int32))) else (f_X6_bestLooker_15 g p0 n0 a3 (a3 + (1 : Int32))))))
def f_X6_bestLooker (g : Mem) (p0 : Int32) : Int32 := if (f_X6_isPerson g p0) = 0 then ((-1 : Int32)) else (f_X6_bestLooker_15 g p0 10 (-4 : Int32) (0 : Int32))
theorem yk_X6_bestLooker : yokV yX6_bestLooker RX6 cX6_bestLooker 4 (some .int) 1 := ⟨w_989, w_987, w_988, w_8, by decide +kernel⟩
set_option maxHeartbeats 4000000 in
set_option maxRecDepth 100000 in
theorem c_X6_bestLooker (l : Launch) (z : ZM) (g : Mem) (p0 : Int32) (hI : InM g) : ctM l yX6_bestLooker cX6_bestLooker 4 (some .int) 4 86 z g [.ref (yad z 0), .int p0] (qIM z (f_X6_bestLooker g p0, g)) := by
  refine ct_of (own := RX6) (q := fun r => qIM z (r, g)) (res := f_X6_bestLooker g p0) (lv := [(0, .ref (yad z 0)), (1, .int p0)]) enokM rfl (by decide) (Nat.le_of_ble_eq_true rfl) rfl (fun p e s m args below meth c C0 hrt hlk => ?_)
  unfold f_X6_bestLooker
  refine j_aload_n C0 0 dX6_bestLooker_0 rfl rfl ?_
  refine j_iload_n C0 1 dX6_bestLooker_1 rfl rfl ?_
  refine j_callVi C0 (c_X6_isPerson l z _ _ hI) yk_X6_isPerson w_900 (fun H locs hP _ => recvW C0 hP 0 (by decide) celM_0 rfl) ⟨Nat.le_of_ble_eq_true rfl, Nat.le_of_ble_eq_true rfl⟩ rfl rfl (Nat.le_of_ble_eq_true rfl) dX6_bestLooker_2 ?_
  refine j_if_ne C0 10 dX6_bestLooker_5 (by decide) (fun c_5 => ?_) (fun c_5 => ?_)
  · refine j_iconst C0 (v := (-1)) dX6_bestLooker_8 (by decide) ?_
    exact j_iretP C0 hrt hlk dX6_bestLooker_9
  · have hvp0 := isPerson_in hI c_5
    refine j_bipush C0 (v := (-4)) dX6_bestLooker_10 (by decide) ?_
    refine j_istore_n C0 (lv' := [(2, _), (0, _), (1, _)]) dX6_bestLooker_12 rfl (by decide) rfl ?_
    refine j_iconst C0 (v := 0) dX6_bestLooker_13 (by decide) ?_
    refine j_istore_n C0 (lv' := [(3, _), (2, _), (0, _), (1, _)]) dX6_bestLooker_14 rfl (by decide) rfl ?_
    have L15 : ∀ (n0 : Nat) (a2 : Int32) (a3 : Int32), lc a3 (g 1 0) n0 → (a2 < 0 ∨ vp_in a2 9) → jj p l e { frames := 4, cells := 0, slots := 0, locals := 86 } s m args below meth c (yA z) (yD z) 14 (yad z) (celM z) 4 (fun r => MQ below (qIM z (r, g)) args s 0 0 (yA z)) (f_X6_bestLooker_15 g p0 n0 a2 a3) g 15 [(0, .ref (yad z 0)), (1, .int p0), (2, .int a2), (3, .int a3)] [] := by
      intro n0
      induction n0 with
      | zero => intro a2 a3 hL hb; exact absurd hL.2 (Nat.not_lt_zero _)
      | succ n0 ih0 =>
        intro a2 a3 hL hb
        rw [f_X6_bestLooker_15]
        refine j_iload_n C0 3 dX6_bestLooker_15 rfl rfl ?_
        refine j_aload_n C0 0 dX6_bestLooker_16 rfl rfl ?_
        refine g_Model_s C0 w_800 dX6_bestLooker_17 ?_
        refine j_iconst C0 (v := 0) dX6_bestLooker_20 (by decide) ?_
        refine a_Ml C0 (by decide) ixl_0 vl57_0 dX6_bestLooker_21 ?_
        refine j_icmp_ge C0 70 dX6_bestLooker_22 (by decide) (fun c_22 => ?_) (fun c_22 => ?_)
        · refine j_iload_n C0 2 dX6_bestLooker_70 rfl rfl ?_
          exact j_iretP C0 hrt hlk dX6_bestLooker_71
        · have hv_a3 : vp_in a3 9 := vin_lc hL c_22 (InM_s9 hI)
          refine j_aload_n C0 0 dX6_bestLooker_25 rfl rfl ?_
          refine g_Model_s C0 w_800 dX6_bestLooker_26 ?_
          refine j_iload_n C0 1 dX6_bestLooker_29 rfl rfl ?_
          refine j_iload_n C0 3 dX6_bestLooker_30 rfl rfl ?_
          refine j_callSi C0 (c_X6_canEat l z _ 1 rw4_1 _ _ hvp0 hv_a3) yk_X6_canEat w_904 ⟨Nat.le_of_ble_eq_true rfl, Nat.le_of_ble_eq_true rfl⟩ rfl rfl (Nat.le_of_ble_eq_true rfl) dX6_bestLooker_31 ?_
          refine j_if_eq C0 64 dX6_bestLooker_34 (by decide) (fun c_34 => ?_) (fun c_34 => ?_)
          · refine j_iinc C0 (lv' := [(3, _), (0, _), (1, _), (2, _)]) (v := _ + (1)) 3 dX6_bestLooker_64 rfl (by rfl) (by decide) rfl ?_
            refine j_goto C0 15 dX6_bestLooker_67 (by decide) ?_
            exact j_sub [1, 2, 3, 0] rfl (ih0 _ _ (lc_stepN hL c_22) (by first | exact hb | exact Or.inr hv_a3))
          · refine j_iload_n C0 2 dX6_bestLooker_37 rfl rfl ?_
            refine j_if_lt C0 62 dX6_bestLooker_38 (by decide) (fun c_38 => ?_) (fun c_38 => ?_)
            · refine j_iload_n C0 3 dX6_bestLooker_62 rfl rfl ?_
              refine j_istore_n C0 (lv' := [(2, _), (0, _), (1, _), (3, _)]) dX6_bestLooker_63 rfl (by decide) rfl ?_
              refine j_iinc C0 (lv' := [(3, _), (2, _), (0, _), (1, _)]) (v := _ + (1)) 3 dX6_bestLooker_64 rfl (by rfl) (by decide) rfl ?_
              refine j_goto C0 15 dX6_bestLooker_67 (by decide) ?_
              exact j_sub [2, 3, 1, 0] rfl (ih0 _ _ (lc_stepN hL c_22) (by first | exact hb | exact Or.inr hv_a3))
            · refine j_aload_n C0 0 dX6_bestLooker_41 rfl rfl ?_
              refine g_Model_s C0 w_800 dX6_bestLooker_42 ?_
              refine j_iload_n C0 1 dX6_bestLooker_45 rfl rfl ?_
              refine j_iload_n C0 3 dX6_bestLooker_46 rfl rfl ?_
              refine j_callSi C0 (c_X6_joysOf l z _ 1 rw4_1 _ _ hvp0 hv_a3) yk_X6_joysOf w_913 ⟨Nat.le_of_ble_eq_true rfl, Nat.le_of_ble_eq_true rfl⟩ rfl rfl (Nat.le_of_ble_eq_true rfl) dX6_bestLooker_47 ?_
              refine j_aload_n C0 0 dX6_bestLooker_50 rfl rfl ?_
              refine g_Model_s C0 w_800 dX6_bestLooker_51 ?_
              refine j_iload_n C0 1 dX6_bestLooker_54 rfl rfl ?_
              refine j_iload_n C0 2 dX6_bestLooker_55 rfl rfl ?_
              refine j_callSi C0 (c_X6_joysOf l z _ 1 rw4_1 _ _ hvp0 (hb.resolve_left c_38)) yk_X6_joysOf w_913 ⟨Nat.le_of_ble_eq_true rfl, Nat.le_of_ble_eq_true rfl⟩ rfl rfl (Nat.le_of_ble_eq_true rfl) dX6_bestLooker_56 ?_
              refine j_icmp_le C0 64 dX6_bestLooker_59 (by decide) (fun c_59 => ?_) (fun c_59 => ?_)
              · refine j_iinc C0 (lv' := [(3, _), (0, _), (1, _), (2, _)]) (v := _ + (1)) 3 dX6_bestLooker_64 rfl (by rfl) (by decide) rfl ?_
                refine j_goto C0 15 dX6_bestLooker_67 (by decide) ?_
                exact j_sub [1, 2, 3, 0] rfl (ih0 _ _ (lc_stepN hL c_22) (by first | exact hb | exact Or.inr hv_a3))
              · refine j_iload_n C0 3 dX6_bestLooker_62 rfl rfl ?_
                refine j_istore_n C0 (lv' := [(2, _), (0, _), (1, _), (3, _)]) dX6_bestLooker_63 rfl (by decide) rfl ?_
                refine j_iinc C0 (lv' := [(3, _), (2, _), (0, _), (1, _)]) (v := _ + (1)) 3 dX6_bestLooker_64 rfl (by rfl) (by decide) rfl ?_
                refine j_goto C0 15 dX6_bestLooker_67 (by decide) ?_
                exact j_sub [2, 3, 1, 0] rfl (ih0 _ _ (lc_stepN hL c_22) (by first | exact hb | exact Or.inr hv_a3))
    exact j_sub [2, 3, 1, 0] rfl (L15 10 _ _ (lc_0 (by have := (InM_s9 hI); omega) (by decide)) (Or.inl (by decide)))
def f_X6_joyless_16 (g : Mem)  (K0 : Int32 → Int32 → Int32) (a1 : Int32) (a2 : Int32) : Nat → Int32 → Int32 → Int32
  | 0, _, _ => 0
  | n1 + 1, b1, b3 => if (g 1 0) ≤ b3 then (K0 b1 (a2 + (1 : Int32))) else (if (f_X6_canEat g 1 a2 b3) = 0 then (f_X6_joyless_16 g K0 a1 a2 n1 (b1 + (0 : Int32)) (b3 + (1 : Int32))) else (if (f_X6_joysOf g 1 a2 b3) = 0 then (f_X6_joyless_16 g K0 a1 a2 n1 (b1 + (1 : Int32)) (b3 + (1 : Int32))) else (f_X6_joyless_16 g K0 a1 a2 n1 (b1 + (0 : Int32)) (b3 + (1 : Int32)))))
def f_X6_joyless_4 (g : Mem)  : Nat → Int32 → Int32 → Int32
  | 0, _, _ => 0
  | n0 + 1, a1, a2 => if (g 1 0) ≤ a2 then (a1) else (f_X6_joyless_16 g (fun a1' a2' => f_X6_joyless_4 g n0 a1' a2') a1 a2 10 a1 (0 : Int32))
def f_X6_joyless (g : Mem)  : Int32 := f_X6_joyless_4 g 10 (0 : Int32) (0 : Int32)
theorem yk_X6_joyless : yokV yX6_joyless RX6 cX6_joyless 4 (some .int) 0 := ⟨w_1087, w_1085, w_1086, w_8, by decide +kernel⟩
set_option maxHeartbeats 4000000 in
set_option maxRecDepth 100000 in
theorem c_X6_joyless (l : Launch) (z : ZM) (g : Mem) (hI : InM g) : ctM l yX6_joyless cX6_joyless 4 (some .int) 4 86 z g [.ref (yad z 0)] (qIM z (f_X6_joyless g, g)) := by
  refine ct_of (own := RX6) (q := fun r => qIM z (r, g)) (res := f_X6_joyless g) (lv := [(0, .ref (yad z 0))]) enokM rfl (by decide) (Nat.le_of_ble_eq_true rfl) rfl (fun p e s m args below meth c C0 hrt hlk => ?_)
  unfold f_X6_joyless
  refine j_iconst C0 (v := 0) dX6_joyless_0 (by decide) ?_
  refine j_istore_n C0 (lv' := [(1, _), (0, _)]) dX6_joyless_1 rfl (by decide) rfl ?_
  refine j_iconst C0 (v := 0) dX6_joyless_2 (by decide) ?_
  refine j_istore_n C0 (lv' := [(2, _), (1, _), (0, _)]) dX6_joyless_3 rfl (by decide) rfl ?_
  have L4 : ∀ (n0 : Nat) (a1 : Int32) (a2 : Int32), lc a2 (g 1 0) n0 → jj p l e { frames := 4, cells := 0, slots := 0, locals := 86 } s m args below meth c (yA z) (yD z) 14 (yad z) (celM z) 4 (fun r => MQ below (qIM z (r, g)) args s 0 0 (yA z)) (f_X6_joyless_4 g n0 a1 a2) g 4 [(0, .ref (yad z 0)), (1, .int a1), (2, .int a2)] [] := by
    intro n0
    induction n0 with
    | zero => intro a1 a2 hL0; exact absurd hL0.2 (Nat.not_lt_zero _)
    | succ n0 ih0 =>
      intro a1 a2 hL0
      rw [f_X6_joyless_4]
      refine j_iload_n C0 2 dX6_joyless_4 rfl rfl ?_
      refine j_aload_n C0 0 dX6_joyless_5 rfl rfl ?_
      refine g_Model_s C0 w_800 dX6_joyless_6 ?_
      refine j_iconst C0 (v := 0) dX6_joyless_9 (by decide) ?_
      refine a_Ml C0 (by decide) ixl_0 vl57_0 dX6_joyless_10 ?_
      refine j_icmp_ge C0 70 dX6_joyless_11 (by decide) (fun c_11 => ?_) (fun c_11 => ?_)
      · refine j_iload_n C0 1 dX6_joyless_70 rfl rfl ?_
        exact j_iretP C0 hrt hlk dX6_joyless_71
      · have hv_a2 : vp_in a2 9 := vin_lc hL0 c_11 (InM_s9 hI)
        refine j_iconst C0 (v := 0) dX6_joyless_14 (by decide) ?_
        refine j_istore_n C0 (lv' := [(3, _), (0, _), (1, _), (2, _)]) dX6_joyless_15 rfl (by decide) rfl ?_
        have L16 : ∀ (n1 : Nat) (b1 : Int32) (b3 : Int32), lc b3 (g 1 0) n1 → jj p l e { frames := 4, cells := 0, slots := 0, locals := 86 } s m args below meth c (yA z) (yD z) 14 (yad z) (celM z) 4 (fun r => MQ below (qIM z (r, g)) args s 0 0 (yA z)) (f_X6_joyless_16 g (fun a1' a2' => f_X6_joyless_4 g n0 a1' a2') a1 a2 n1 b1 b3) g 16 [(0, .ref (yad z 0)), (1, .int b1), (2, .int a2), (3, .int b3)] [] := by
          intro n1
          induction n1 with
          | zero => intro b1 b3 hL1; exact absurd hL1.2 (Nat.not_lt_zero _)
          | succ n1 ih1 =>
            intro b1 b3 hL1
            rw [f_X6_joyless_16]
            refine j_iload_n C0 3 dX6_joyless_16 rfl rfl ?_
            refine j_aload_n C0 0 dX6_joyless_17 rfl rfl ?_
            refine g_Model_s C0 w_800 dX6_joyless_18 ?_
            refine j_iconst C0 (v := 0) dX6_joyless_21 (by decide) ?_
            refine a_Ml C0 (by decide) ixl_0 vl57_0 dX6_joyless_22 ?_
            refine j_icmp_ge C0 64 dX6_joyless_23 (by decide) (fun c_23 => ?_) (fun c_23 => ?_)
            · refine j_iinc C0 (lv' := [(2, _), (0, _), (1, _), (3, _)]) (v := _ + (1)) 2 dX6_joyless_64 rfl (by rfl) (by decide) rfl ?_
              refine j_goto C0 4 dX6_joyless_67 (by decide) ?_
              exact j_sub [1, 2, 0] rfl (ih0 _ _ (lc_stepN hL0 c_11))
            · have hv_b3 : vp_in b3 9 := vin_lc hL1 c_23 (InM_s9 hI)
              refine j_iload_n C0 1 dX6_joyless_26 rfl rfl ?_
              refine j_aload_n C0 0 dX6_joyless_27 rfl rfl ?_
              refine g_Model_s C0 w_800 dX6_joyless_28 ?_
              refine j_iload_n C0 2 dX6_joyless_31 rfl rfl ?_
              refine j_iload_n C0 3 dX6_joyless_32 rfl rfl ?_
              refine j_callSi C0 (c_X6_canEat l z _ 1 rw4_1 _ _ hv_a2 hv_b3) yk_X6_canEat w_904 ⟨Nat.le_of_ble_eq_true rfl, Nat.le_of_ble_eq_true rfl⟩ rfl rfl (Nat.le_of_ble_eq_true rfl) dX6_joyless_33 ?_
              refine j_if_eq C0 55 dX6_joyless_36 (by decide) (fun c_36 => ?_) (fun c_36 => ?_)
              · refine j_iconst C0 (v := 0) dX6_joyless_55 (by decide) ?_
                refine j_iadd C0 dX6_joyless_56 ?_
                refine j_istore_n C0 (lv' := [(1, _), (0, _), (2, _), (3, _)]) dX6_joyless_57 rfl (by decide) rfl ?_
                refine j_iinc C0 (lv' := [(3, _), (1, _), (0, _), (2, _)]) (v := _ + (1)) 3 dX6_joyless_58 rfl (by rfl) (by decide) rfl ?_
                refine j_goto C0 16 dX6_joyless_61 (by decide) ?_
                exact j_sub [2, 1, 3, 0] rfl (ih1 _ _ (lc_stepN hL1 c_23))
              · refine j_aload_n C0 0 dX6_joyless_39 rfl rfl ?_
                refine g_Model_s C0 w_800 dX6_joyless_40 ?_
                refine j_iload_n C0 2 dX6_joyless_43 rfl rfl ?_
                refine j_iload_n C0 3 dX6_joyless_44 rfl rfl ?_
                refine j_callSi C0 (c_X6_joysOf l z _ 1 rw4_1 _ _ hv_a2 hv_b3) yk_X6_joysOf w_913 ⟨Nat.le_of_ble_eq_true rfl, Nat.le_of_ble_eq_true rfl⟩ rfl rfl (Nat.le_of_ble_eq_true rfl) dX6_joyless_45 ?_
                refine j_if_ne C0 55 dX6_joyless_48 (by decide) (fun c_48 => ?_) (fun c_48 => ?_)
                · refine j_iconst C0 (v := 1) dX6_joyless_51 (by decide) ?_
                  refine j_goto C0 56 dX6_joyless_52 (by decide) ?_
                  refine j_iadd C0 dX6_joyless_56 ?_
                  refine j_istore_n C0 (lv' := [(1, _), (0, _), (2, _), (3, _)]) dX6_joyless_57 rfl (by decide) rfl ?_
                  refine j_iinc C0 (lv' := [(3, _), (1, _), (0, _), (2, _)]) (v := _ + (1)) 3 dX6_joyless_58 rfl (by rfl) (by decide) rfl ?_
                  refine j_goto C0 16 dX6_joyless_61 (by decide) ?_
                  exact j_sub [2, 1, 3, 0] rfl (ih1 _ _ (lc_stepN hL1 c_23))
                · refine j_iconst C0 (v := 0) dX6_joyless_55 (by decide) ?_
                  refine j_iadd C0 dX6_joyless_56 ?_
                  refine j_istore_n C0 (lv' := [(1, _), (0, _), (2, _), (3, _)]) dX6_joyless_57 rfl (by decide) rfl ?_
                  refine j_iinc C0 (lv' := [(3, _), (1, _), (0, _), (2, _)]) (v := _ + (1)) 3 dX6_joyless_58 rfl (by rfl) (by decide) rfl ?_
                  refine j_goto C0 16 dX6_joyless_61 (by decide) ?_
                  exact j_sub [2, 1, 3, 0] rfl (ih1 _ _ (lc_stepN hL1 c_23))
        exact j_sub [1, 2, 3, 0] rfl (L16 10 _ _ (lc_0 (by have := (InM_s9 hI); omega) (by decide)))
  exact j_sub [2, 1, 0] rfl (L4 10 _ _ (lc_0 (by have := (InM_s9 hI); omega) (by decide)))
def f_X6_stuck_4 (g : Mem)  : Nat → Int32 → Int32 → Int32
  | 0, _, _ => 0
  | n0 + 1, a1, a2 => if (g 1 0) ≤ a2 then (if (g 1 1) ≤ 0 then ((0 : Int32)) else (if a1 ≤ 0 then ((0 : Int32)) else (if 0 ≤ (f_X6_bestIn g 1) then ((0 : Int32)) else ((1 : Int32))))) else (f_X6_stuck_4 g n0 (a1 + (g 1 (ix (f_X6_of a2 (2 : Int32))))) (a2 + (1 : Int32)))
def f_X6_stuck (g : Mem)  : Int32 := f_X6_stuck_4 g 10 (0 : Int32) (0 : Int32)
theorem yk_X6_stuck : yokV yX6_stuck RX6 cX6_stuck 3 (some .int) 0 := ⟨w_1013, w_1011, w_1012, w_8, by decide +kernel⟩
set_option maxHeartbeats 4000000 in
set_option maxRecDepth 100000 in
theorem c_X6_stuck (l : Launch) (z : ZM) (g : Mem) (hI : InM g) : ctM l yX6_stuck cX6_stuck 3 (some .int) 5 110 z g [.ref (yad z 0)] (qIM z (f_X6_stuck g, g)) := by
  refine ct_of (own := RX6) (q := fun r => qIM z (r, g)) (res := f_X6_stuck g) (lv := [(0, .ref (yad z 0))]) enokM rfl (by decide) (Nat.le_of_ble_eq_true rfl) rfl (fun p e s m args below meth c C0 hrt hlk => ?_)
  unfold f_X6_stuck
  refine j_iconst C0 (v := 0) dX6_stuck_0 (by decide) ?_
  refine j_istore_n C0 (lv' := [(1, _), (0, _)]) dX6_stuck_1 rfl (by decide) rfl ?_
  refine j_iconst C0 (v := 0) dX6_stuck_2 (by decide) ?_
  refine j_istore_n C0 (lv' := [(2, _), (1, _), (0, _)]) dX6_stuck_3 rfl (by decide) rfl ?_
  have L4 : ∀ (n0 : Nat) (a1 : Int32) (a2 : Int32), lc a2 (g 1 0) n0 → jj p l e { frames := 5, cells := 0, slots := 0, locals := 110 } s m args below meth c (yA z) (yD z) 14 (yad z) (celM z) 3 (fun r => MQ below (qIM z (r, g)) args s 0 0 (yA z)) (f_X6_stuck_4 g n0 a1 a2) g 4 [(0, .ref (yad z 0)), (1, .int a1), (2, .int a2)] [] := by
    intro n0
    induction n0 with
    | zero => intro a1 a2 hL; exact absurd hL.2 (Nat.not_lt_zero _)
    | succ n0 ih0 =>
      intro a1 a2 hL
      rw [f_X6_stuck_4]
      refine j_iload_n C0 2 dX6_stuck_4 rfl rfl ?_
      refine j_aload_n C0 0 dX6_stuck_5 rfl rfl ?_
      refine g_Model_s C0 w_800 dX6_stuck_6 ?_
      refine j_iconst C0 (v := 0) dX6_stuck_9 (by decide) ?_
      refine a_Ml C0 (by decide) ixl_0 vl57_0 dX6_stuck_10 ?_
      refine j_icmp_ge C0 33 dX6_stuck_11 (by decide) (fun c_11 => ?_) (fun c_11 => ?_)
      · refine j_aload_n C0 0 dX6_stuck_33 rfl rfl ?_
        refine g_Model_s C0 w_800 dX6_stuck_34 ?_
        refine j_iconst C0 (v := 1) dX6_stuck_37 (by decide) ?_
        refine a_Ml C0 (by decide) ixl_1 vl57_1 dX6_stuck_38 ?_
        refine j_if_le C0 60 dX6_stuck_39 (by decide) (fun c_39 => ?_) (fun c_39 => ?_)
        · refine j_iconst C0 (v := 0) dX6_stuck_60 (by decide) ?_
          exact j_iretP C0 hrt hlk dX6_stuck_61
        · refine j_iload_n C0 1 dX6_stuck_42 rfl rfl ?_
          refine j_if_le C0 60 dX6_stuck_43 (by decide) (fun c_43 => ?_) (fun c_43 => ?_)
          · refine j_iconst C0 (v := 0) dX6_stuck_60 (by decide) ?_
            exact j_iretP C0 hrt hlk dX6_stuck_61
          · refine j_aload_n C0 0 dX6_stuck_46 rfl rfl ?_
            refine g_Model_s C0 w_800 dX6_stuck_47 ?_
            refine j_callSi C0 (c_X6_bestIn l z _ 1 rw4_1  (InM_s9 hI)) yk_X6_bestIn w_980 ⟨Nat.le_of_ble_eq_true rfl, Nat.le_of_ble_eq_true rfl⟩ rfl rfl (Nat.le_of_ble_eq_true rfl) dX6_stuck_50 ?_
            refine j_if_ge C0 60 dX6_stuck_53 (by decide) (fun c_53 => ?_) (fun c_53 => ?_)
            · refine j_iconst C0 (v := 0) dX6_stuck_60 (by decide) ?_
              exact j_iretP C0 hrt hlk dX6_stuck_61
            · refine j_iconst C0 (v := 1) dX6_stuck_56 (by decide) ?_
              refine j_goto C0 61 dX6_stuck_57 (by decide) ?_
              exact j_iretP C0 hrt hlk dX6_stuck_61
      · have hv_a2 : vp_in a2 9 := vin_lc hL c_11 (InM_s9 hI)
        refine j_iload_n C0 1 dX6_stuck_14 rfl rfl ?_
        refine j_aload_n C0 0 dX6_stuck_15 rfl rfl ?_
        refine g_Model_s C0 w_800 dX6_stuck_16 ?_
        refine j_iload_n C0 2 dX6_stuck_19 rfl rfl ?_
        refine j_iconst C0 (v := 2) dX6_stuck_20 (by decide) ?_
        refine j_callSi C0 (c_X6_of l z _ _ _) yk_X6_of w_897 ⟨Nat.le_of_ble_eq_true rfl, Nat.le_of_ble_eq_true rfl⟩ rfl rfl (Nat.le_of_ble_eq_true rfl) dX6_stuck_21 ?_
        refine a_M C0 (by decide) (of_in2 hv_a2) dX6_stuck_24 ?_
        refine j_iadd C0 dX6_stuck_25 ?_
        refine j_istore_n C0 (lv' := [(1, _), (0, _), (2, _)]) dX6_stuck_26 rfl (by decide) rfl ?_
        refine j_iinc C0 (lv' := [(2, _), (1, _), (0, _)]) (v := _ + (1)) 2 dX6_stuck_27 rfl (by rfl) (by decide) rfl ?_
        refine j_goto C0 4 dX6_stuck_30 (by decide) ?_
        exact j_sub [2, 1, 0] rfl (ih0 _ _ (lc_stepN hL c_11))
  exact j_sub [2, 1, 0] rfl (L4 10 _ _ (lc_0 (by have := (InM_s9 hI); omega) (by decide)))
def f_X6_feeds (g : Mem) (p0 : Int32) : Int32 := if (f_X6_isPerson g p0) = 0 then ((-1 : Int32)) else (((((g 1 (ix (f_X6_of p0 (2 : Int32)))) + (f_X6_bite (g 1 (ix (f_X6_of p0 (0 : Int32)))) (g 1 (ix (f_X6_of p0 (1 : Int32)))))) - (1 : Int32)) / (f_X6_bite (g 1 (ix (f_X6_of p0 (0 : Int32)))) (g 1 (ix (f_X6_of p0 (1 : Int32)))))))
theorem yk_X6_feeds : yokV yX6_feeds RX6 cX6_feeds 3 (some .int) 1 := ⟨w_1021, w_1019, w_1020, w_8, by decide +kernel⟩
set_option maxHeartbeats 4000000 in
set_option maxRecDepth 100000 in
theorem c_X6_feeds (l : Launch) (z : ZM) (g : Mem) (p0 : Int32) (hI : InM g) (hbite : ∀ p : Int32, vp_in p 9 → ¬ f_X6_bite (g 1 (ix (f_X6_of p 0))) (g 1 (ix (f_X6_of p 1))) = 0) : ctM l yX6_feeds cX6_feeds 3 (some .int) 2 43 z g [.ref (yad z 0), .int p0] (qIM z (f_X6_feeds g p0, g)) := by
  refine ct_of (own := RX6) (q := fun r => qIM z (r, g)) (res := f_X6_feeds g p0) (lv := [(0, .ref (yad z 0)), (1, .int p0)]) enokM rfl (by decide) (Nat.le_of_ble_eq_true rfl) rfl (fun p e s m args below meth c C0 hrt hlk => ?_)
  unfold f_X6_feeds
  refine j_aload_n C0 0 dX6_feeds_0 rfl rfl ?_
  refine j_iload_n C0 1 dX6_feeds_1 rfl rfl ?_
  refine j_callVi C0 (c_X6_isPerson l z _ _ hI) yk_X6_isPerson w_900 (fun H locs hP _ => recvW C0 hP 0 (by decide) celM_0 rfl) ⟨Nat.le_of_ble_eq_true rfl, Nat.le_of_ble_eq_true rfl⟩ rfl rfl (Nat.le_of_ble_eq_true rfl) dX6_feeds_2 ?_
  refine j_if_ne C0 10 dX6_feeds_5 (by decide) (fun c_5 => ?_) (fun c_5 => ?_)
  · refine j_iconst C0 (v := (-1)) dX6_feeds_8 (by decide) ?_
    exact j_iretP C0 hrt hlk dX6_feeds_9
  · have hvp0 := isPerson_in hI c_5
    refine j_aload_n C0 0 dX6_feeds_10 rfl rfl ?_
    refine g_Model_s C0 w_800 dX6_feeds_11 ?_
    refine j_iload_n C0 1 dX6_feeds_14 rfl rfl ?_
    refine j_iconst C0 (v := 0) dX6_feeds_15 (by decide) ?_
    refine j_callSi C0 (c_X6_of l z _ _ _) yk_X6_of w_897 ⟨Nat.le_of_ble_eq_true rfl, Nat.le_of_ble_eq_true rfl⟩ rfl rfl (Nat.le_of_ble_eq_true rfl) dX6_feeds_16 ?_
    refine a_M C0 (by decide) (of_in0 hvp0) dX6_feeds_19 ?_
    refine j_aload_n C0 0 dX6_feeds_20 rfl rfl ?_
    refine g_Model_s C0 w_800 dX6_feeds_21 ?_
    refine j_iload_n C0 1 dX6_feeds_24 rfl rfl ?_
    refine j_iconst C0 (v := 1) dX6_feeds_25 (by decide) ?_
    refine j_callSi C0 (c_X6_of l z _ _ _) yk_X6_of w_897 ⟨Nat.le_of_ble_eq_true rfl, Nat.le_of_ble_eq_true rfl⟩ rfl rfl (Nat.le_of_ble_eq_true rfl) dX6_feeds_26 ?_
    refine a_M C0 (by decide) (of_in1 hvp0) dX6_feeds_29 ?_
    refine j_callSi C0 (c_X6_bite l z _ _ _) yk_X6_bite w_922 ⟨Nat.le_of_ble_eq_true rfl, Nat.le_of_ble_eq_true rfl⟩ rfl rfl (Nat.le_of_ble_eq_true rfl) dX6_feeds_30 ?_
    refine j_istore_n C0 (lv' := [(2, _), (0, _), (1, _)]) dX6_feeds_33 rfl (by decide) rfl ?_
    refine j_aload_n C0 1 dX6_feeds_34 rfl rfl ?_
    refine g_Model_s C0 w_800 dX6_feeds_35 ?_
    refine j_iload_n C0 2 dX6_feeds_38 rfl rfl ?_
    refine j_iconst C0 (v := 2) dX6_feeds_39 (by decide) ?_
    refine j_callSi C0 (c_X6_of l z _ _ _) yk_X6_of w_897 ⟨Nat.le_of_ble_eq_true rfl, Nat.le_of_ble_eq_true rfl⟩ rfl rfl (Nat.le_of_ble_eq_true rfl) dX6_feeds_40 ?_
    refine a_M C0 (by decide) (of_in2 hvp0) dX6_feeds_43 ?_
    refine j_iload_n C0 0 dX6_feeds_44 rfl rfl ?_
    refine j_iadd C0 dX6_feeds_45 ?_
    refine j_iconst C0 (v := 1) dX6_feeds_46 (by decide) ?_
    refine j_isub C0 dX6_feeds_47 ?_
    refine j_iload_n C0 0 dX6_feeds_48 rfl rfl ?_
    refine j_idiv C0 dX6_feeds_49 (hbite p0 hvp0) ?_
    exact j_iretP C0 hrt hlk dX6_feeds_50
def f_X6_buyers_4 (g : Mem) (p0 : Int32) : Nat → Int32 → Int32 → Int32
  | 0, _, _ => 0
  | n0 + 1, a2, a3 => if (g 1 0) ≤ a3 then (a2) else (if (g 1 (ix (f_X6_of a3 (2 : Int32)))) ≤ 0 then (f_X6_buyers_4 g p0 n0 (a2 + (0 : Int32)) (a3 + (1 : Int32))) else (if (f_X6_bites g 1 a3) < p0 then (f_X6_buyers_4 g p0 n0 (a2 + (0 : Int32)) (a3 + (1 : Int32))) else (f_X6_buyers_4 g p0 n0 (a2 + (1 : Int32)) (a3 + (1 : Int32)))))
def f_X6_buyers (g : Mem) (p0 : Int32) : Int32 := f_X6_buyers_4 g p0 10 (0 : Int32) (0 : Int32)
theorem yk_X6_buyers : yokV yX6_buyers RX6 cX6_buyers 4 (some .int) 1 := ⟨w_1029, w_1028, wp_35, w_8, by decide +kernel⟩
set_option maxHeartbeats 4000000 in
set_option maxRecDepth 100000 in
theorem c_X6_buyers (l : Launch) (z : ZM) (g : Mem) (p0 : Int32) (hI : InM g) : ctM l yX6_buyers cX6_buyers 4 (some .int) 2 42 z g [.ref (yad z 0), .int p0] (qIM z (f_X6_buyers g p0, g)) := by
  refine ct_of (own := RX6) (q := fun r => qIM z (r, g)) (res := f_X6_buyers g p0) (lv := [(0, .ref (yad z 0)), (1, .int p0)]) enokM rfl (by decide) (Nat.le_of_ble_eq_true rfl) rfl (fun p e s m args below meth c C0 hrt hlk => ?_)
  unfold f_X6_buyers
  refine j_iconst C0 (v := 0) dX6_buyers_0 (by decide) ?_
  refine j_istore_n C0 (lv' := [(2, _), (0, _), (1, _)]) dX6_buyers_1 rfl (by decide) rfl ?_
  refine j_iconst C0 (v := 0) dX6_buyers_2 (by decide) ?_
  refine j_istore_n C0 (lv' := [(3, _), (2, _), (0, _), (1, _)]) dX6_buyers_3 rfl (by decide) rfl ?_
  have L4 : ∀ (n0 : Nat) (a2 : Int32) (a3 : Int32), lc a3 (g 1 0) n0 → jj p l e { frames := 2, cells := 0, slots := 0, locals := 42 } s m args below meth c (yA z) (yD z) 14 (yad z) (celM z) 4 (fun r => MQ below (qIM z (r, g)) args s 0 0 (yA z)) (f_X6_buyers_4 g p0 n0 a2 a3) g 4 [(0, .ref (yad z 0)), (1, .int p0), (2, .int a2), (3, .int a3)] [] := by
    intro n0
    induction n0 with
    | zero => intro a2 a3 hL; exact absurd hL.2 (Nat.not_lt_zero _)
    | succ n0 ih0 =>
      intro a2 a3 hL
      rw [f_X6_buyers_4]
      refine j_iload_n C0 3 dX6_buyers_4 rfl rfl ?_
      refine j_aload_n C0 0 dX6_buyers_5 rfl rfl ?_
      refine g_Model_s C0 w_800 dX6_buyers_6 ?_
      refine j_iconst C0 (v := 0) dX6_buyers_9 (by decide) ?_
      refine a_Ml C0 (by decide) ixl_0 vl57_0 dX6_buyers_10 ?_
      refine j_icmp_ge C0 53 dX6_buyers_11 (by decide) (fun c_11 => ?_) (fun c_11 => ?_)
      · refine j_iload_n C0 2 dX6_buyers_53 rfl rfl ?_
        exact j_iretP C0 hrt hlk dX6_buyers_54
      · have hv_a3 : vp_in a3 9 := vin_lc hL c_11 (InM_s9 hI)
        refine j_iload_n C0 2 dX6_buyers_14 rfl rfl ?_
        refine j_aload_n C0 0 dX6_buyers_15 rfl rfl ?_
        refine g_Model_s C0 w_800 dX6_buyers_16 ?_
        refine j_iload_n C0 3 dX6_buyers_19 rfl rfl ?_
        refine j_iconst C0 (v := 2) dX6_buyers_20 (by decide) ?_
        refine j_callSi C0 (c_X6_of l z _ _ _) yk_X6_of w_897 ⟨Nat.le_of_ble_eq_true rfl, Nat.le_of_ble_eq_true rfl⟩ rfl rfl (Nat.le_of_ble_eq_true rfl) dX6_buyers_21 ?_
        refine a_M C0 (by decide) (of_in2 hv_a3) dX6_buyers_24 ?_
        refine j_if_le C0 44 dX6_buyers_25 (by decide) (fun c_25 => ?_) (fun c_25 => ?_)
        · refine j_iconst C0 (v := 0) dX6_buyers_44 (by decide) ?_
          refine j_iadd C0 dX6_buyers_45 ?_
          refine j_istore_n C0 (lv' := [(2, _), (0, _), (1, _), (3, _)]) dX6_buyers_46 rfl (by decide) rfl ?_
          refine j_iinc C0 (lv' := [(3, _), (2, _), (0, _), (1, _)]) (v := _ + (1)) 3 dX6_buyers_47 rfl (by rfl) (by decide) rfl ?_
          refine j_goto C0 4 dX6_buyers_50 (by decide) ?_
          exact j_sub [2, 3, 1, 0] rfl (ih0 _ _ (lc_stepN hL c_11))
        · refine j_aload_n C0 0 dX6_buyers_28 rfl rfl ?_
          refine g_Model_s C0 w_800 dX6_buyers_29 ?_
          refine j_iload_n C0 3 dX6_buyers_32 rfl rfl ?_
          refine j_callSi C0 (c_X6_bites l z _ 1 rw4_1 _ hv_a3) yk_X6_bites w_919 ⟨Nat.le_of_ble_eq_true rfl, Nat.le_of_ble_eq_true rfl⟩ rfl rfl (Nat.le_of_ble_eq_true rfl) dX6_buyers_33 ?_
          refine j_iload_n C0 1 dX6_buyers_36 rfl rfl ?_
          refine j_icmp_lt C0 44 dX6_buyers_37 (by decide) (fun c_37 => ?_) (fun c_37 => ?_)
          · refine j_iconst C0 (v := 0) dX6_buyers_44 (by decide) ?_
            refine j_iadd C0 dX6_buyers_45 ?_
            refine j_istore_n C0 (lv' := [(2, _), (0, _), (1, _), (3, _)]) dX6_buyers_46 rfl (by decide) rfl ?_
            refine j_iinc C0 (lv' := [(3, _), (2, _), (0, _), (1, _)]) (v := _ + (1)) 3 dX6_buyers_47 rfl (by rfl) (by decide) rfl ?_
            refine j_goto C0 4 dX6_buyers_50 (by decide) ?_
            exact j_sub [2, 3, 1, 0] rfl (ih0 _ _ (lc_stepN hL c_11))
          · refine j_iconst C0 (v := 1) dX6_buyers_40 (by decide) ?_
            refine j_goto C0 45 dX6_buyers_41 (by decide) ?_
            refine j_iadd C0 dX6_buyers_45 ?_
            refine j_istore_n C0 (lv' := [(2, _), (0, _), (1, _), (3, _)]) dX6_buyers_46 rfl (by decide) rfl ?_
            refine j_iinc C0 (lv' := [(3, _), (2, _), (0, _), (1, _)]) (v := _ + (1)) 3 dX6_buyers_47 rfl (by rfl) (by decide) rfl ?_
            refine j_goto C0 4 dX6_buyers_50 (by decide) ?_
            exact j_sub [2, 3, 1, 0] rfl (ih0 _ _ (lc_stepN hL c_11))
  exact j_sub [2, 3, 1, 0] rfl (L4 10 _ _ (lc_0 (by have := (InM_s9 hI); omega) (by decide)))
def f_X6_sellers_4 (g : Mem) (p0 : Int32) : Nat → Int32 → Int32 → Int32
  | 0, _, _ => 0
  | n0 + 1, a2, a3 => if (g 1 0) ≤ a3 then (a2) else (if (f_X6_canLook g 1 a3) = 0 then (f_X6_sellers_4 g p0 n0 (a2 + (0 : Int32)) (a3 + (1 : Int32))) else (if p0 ≤ (f_X6_gazes g 1 a3) then (f_X6_sellers_4 g p0 n0 (a2 + (0 : Int32)) (a3 + (1 : Int32))) else (f_X6_sellers_4 g p0 n0 (a2 + (1 : Int32)) (a3 + (1 : Int32)))))
def f_X6_sellers (g : Mem) (p0 : Int32) : Int32 := f_X6_sellers_4 g p0 10 (0 : Int32) (0 : Int32)
theorem yk_X6_sellers : yokV yX6_sellers RX6 cX6_sellers 4 (some .int) 1 := ⟨w_1033, w_1032, wp_36, w_8, by decide +kernel⟩
set_option maxHeartbeats 4000000 in
set_option maxRecDepth 100000 in
theorem c_X6_sellers (l : Launch) (z : ZM) (g : Mem) (p0 : Int32) (hI : InM g) : ctM l yX6_sellers cX6_sellers 4 (some .int) 2 42 z g [.ref (yad z 0), .int p0] (qIM z (f_X6_sellers g p0, g)) := by
  refine ct_of (own := RX6) (q := fun r => qIM z (r, g)) (res := f_X6_sellers g p0) (lv := [(0, .ref (yad z 0)), (1, .int p0)]) enokM rfl (by decide) (Nat.le_of_ble_eq_true rfl) rfl (fun p e s m args below meth c C0 hrt hlk => ?_)
  unfold f_X6_sellers
  refine j_iconst C0 (v := 0) dX6_sellers_0 (by decide) ?_
  refine j_istore_n C0 (lv' := [(2, _), (0, _), (1, _)]) dX6_sellers_1 rfl (by decide) rfl ?_
  refine j_iconst C0 (v := 0) dX6_sellers_2 (by decide) ?_
  refine j_istore_n C0 (lv' := [(3, _), (2, _), (0, _), (1, _)]) dX6_sellers_3 rfl (by decide) rfl ?_
  have L4 : ∀ (n0 : Nat) (a2 : Int32) (a3 : Int32), lc a3 (g 1 0) n0 → jj p l e { frames := 2, cells := 0, slots := 0, locals := 42 } s m args below meth c (yA z) (yD z) 14 (yad z) (celM z) 4 (fun r => MQ below (qIM z (r, g)) args s 0 0 (yA z)) (f_X6_sellers_4 g p0 n0 a2 a3) g 4 [(0, .ref (yad z 0)), (1, .int p0), (2, .int a2), (3, .int a3)] [] := by
    intro n0
    induction n0 with
    | zero => intro a2 a3 hL; exact absurd hL.2 (Nat.not_lt_zero _)
    | succ n0 ih0 =>
      intro a2 a3 hL
      rw [f_X6_sellers_4]
      refine j_iload_n C0 3 dX6_sellers_4 rfl rfl ?_
      refine j_aload_n C0 0 dX6_sellers_5 rfl rfl ?_
      refine g_Model_s C0 w_800 dX6_sellers_6 ?_
      refine j_iconst C0 (v := 0) dX6_sellers_9 (by decide) ?_
      refine a_Ml C0 (by decide) ixl_0 vl57_0 dX6_sellers_10 ?_
      refine j_icmp_ge C0 51 dX6_sellers_11 (by decide) (fun c_11 => ?_) (fun c_11 => ?_)
      · refine j_iload_n C0 2 dX6_sellers_51 rfl rfl ?_
        exact j_iretP C0 hrt hlk dX6_sellers_52
      · have hv_a3 : vp_in a3 9 := vin_lc hL c_11 (InM_s9 hI)
        refine j_iload_n C0 2 dX6_sellers_14 rfl rfl ?_
        refine j_aload_n C0 0 dX6_sellers_15 rfl rfl ?_
        refine g_Model_s C0 w_800 dX6_sellers_16 ?_
        refine j_iload_n C0 3 dX6_sellers_19 rfl rfl ?_
        refine j_callSi C0 (c_X6_canLook l z _ 1 rw4_1 _ hv_a3) yk_X6_canLook w_907 ⟨Nat.le_of_ble_eq_true rfl, Nat.le_of_ble_eq_true rfl⟩ rfl rfl (Nat.le_of_ble_eq_true rfl) dX6_sellers_20 ?_
        refine j_if_eq C0 42 dX6_sellers_23 (by decide) (fun c_23 => ?_) (fun c_23 => ?_)
        · refine j_iconst C0 (v := 0) dX6_sellers_42 (by decide) ?_
          refine j_iadd C0 dX6_sellers_43 ?_
          refine j_istore_n C0 (lv' := [(2, _), (0, _), (1, _), (3, _)]) dX6_sellers_44 rfl (by decide) rfl ?_
          refine j_iinc C0 (lv' := [(3, _), (2, _), (0, _), (1, _)]) (v := _ + (1)) 3 dX6_sellers_45 rfl (by rfl) (by decide) rfl ?_
          refine j_goto C0 4 dX6_sellers_48 (by decide) ?_
          exact j_sub [2, 3, 1, 0] rfl (ih0 _ _ (lc_stepN hL c_11))
        · refine j_aload_n C0 0 dX6_sellers_26 rfl rfl ?_
          refine g_Model_s C0 w_800 dX6_sellers_27 ?_
          refine j_iload_n C0 3 dX6_sellers_30 rfl rfl ?_
          refine j_callSi C0 (c_X6_gazes l z _ 1 rw4_1 _ hv_a3) yk_X6_gazes w_934 ⟨Nat.le_of_ble_eq_true rfl, Nat.le_of_ble_eq_true rfl⟩ rfl rfl (Nat.le_of_ble_eq_true rfl) dX6_sellers_31 ?_
          refine j_iload_n C0 1 dX6_sellers_34 rfl rfl ?_
          refine j_icmp_ge C0 42 dX6_sellers_35 (by decide) (fun c_35 => ?_) (fun c_35 => ?_)
          · refine j_iconst C0 (v := 0) dX6_sellers_42 (by decide) ?_
            refine j_iadd C0 dX6_sellers_43 ?_
            refine j_istore_n C0 (lv' := [(2, _), (0, _), (1, _), (3, _)]) dX6_sellers_44 rfl (by decide) rfl ?_
            refine j_iinc C0 (lv' := [(3, _), (2, _), (0, _), (1, _)]) (v := _ + (1)) 3 dX6_sellers_45 rfl (by rfl) (by decide) rfl ?_
            refine j_goto C0 4 dX6_sellers_48 (by decide) ?_
            exact j_sub [2, 3, 1, 0] rfl (ih0 _ _ (lc_stepN hL c_11))
          · refine j_iconst C0 (v := 1) dX6_sellers_38 (by decide) ?_
            refine j_goto C0 43 dX6_sellers_39 (by decide) ?_
            refine j_iadd C0 dX6_sellers_43 ?_
            refine j_istore_n C0 (lv' := [(2, _), (0, _), (1, _), (3, _)]) dX6_sellers_44 rfl (by decide) rfl ?_
            refine j_iinc C0 (lv' := [(3, _), (2, _), (0, _), (1, _)]) (v := _ + (1)) 3 dX6_sellers_45 rfl (by rfl) (by decide) rfl ?_
            refine j_goto C0 4 dX6_sellers_48 (by decide) ?_
            exact j_sub [2, 3, 1, 0] rfl (ih0 _ _ (lc_stepN hL c_11))
  exact j_sub [2, 3, 1, 0] rfl (L4 10 _ _ (lc_0 (by have := (InM_s9 hI); omega) (by decide)))
def f_X6_prices (g : Mem) (p0 p1 : Int32) : Int32 := if (f_X6_isIn p0 (0 : Int32) (31 : Int32)) = 0 then ((-1 : Int32)) else (if (f_X6_isIn p1 (0 : Int32) (1 : Int32)) = 0 then ((-1 : Int32)) else (if p1 = 0 then ((f_X6_buyers g p0)) else ((f_X6_sellers g p0))))
theorem yk_X6_prices : yokV yX6_prices RX6 cX6_prices 3 (some .int) 2 := ⟨w_1025, w_1023, w_1024, w_8, by decide +kernel⟩
set_option maxHeartbeats 4000000 in
set_option maxRecDepth 100000 in
theorem c_X6_prices (l : Launch) (z : ZM) (g : Mem) (p0 p1 : Int32) (hI : InM g) : ctM l yX6_prices cX6_prices 3 (some .int) 3 65 z g [.ref (yad z 0), .int p0, .int p1] (qIM z (f_X6_prices g p0 p1, g)) := by
  refine ct_of (own := RX6) (q := fun r => qIM z (r, g)) (res := f_X6_prices g p0 p1) (lv := [(0, .ref (yad z 0)), (1, .int p0), (2, .int p1)]) enokM rfl (by decide) (Nat.le_of_ble_eq_true rfl) rfl (fun p e s m args below meth c C0 hrt hlk => ?_)
  unfold f_X6_prices
  refine j_iload_n C0 1 dX6_prices_0 rfl rfl ?_
  refine j_iconst C0 (v := 0) dX6_prices_1 (by decide) ?_
  refine j_bipush C0 (v := 31) dX6_prices_2 (by decide) ?_
  refine j_callSi C0 (c_X6_isIn l z _ _ _ _) yk_X6_isIn w_872 ⟨Nat.le_of_ble_eq_true rfl, Nat.le_of_ble_eq_true rfl⟩ rfl rfl (Nat.le_of_ble_eq_true rfl) dX6_prices_4 ?_
  refine j_if_eq C0 19 dX6_prices_7 (by decide) (fun c_7 => ?_) (fun c_7 => ?_)
  · refine j_iconst C0 (v := (-1)) dX6_prices_19 (by decide) ?_
    exact j_iretP C0 hrt hlk dX6_prices_20
  · refine j_iload_n C0 2 dX6_prices_10 rfl rfl ?_
    refine j_iconst C0 (v := 0) dX6_prices_11 (by decide) ?_
    refine j_iconst C0 (v := 1) dX6_prices_12 (by decide) ?_
    refine j_callSi C0 (c_X6_isIn l z _ _ _ _) yk_X6_isIn w_872 ⟨Nat.le_of_ble_eq_true rfl, Nat.le_of_ble_eq_true rfl⟩ rfl rfl (Nat.le_of_ble_eq_true rfl) dX6_prices_13 ?_
    refine j_if_ne C0 21 dX6_prices_16 (by decide) (fun c_16 => ?_) (fun c_16 => ?_)
    · refine j_iconst C0 (v := (-1)) dX6_prices_19 (by decide) ?_
      exact j_iretP C0 hrt hlk dX6_prices_20
    · refine j_iload_n C0 2 dX6_prices_21 rfl rfl ?_
      refine j_if_ne C0 33 dX6_prices_22 (by decide) (fun c_22 => ?_) (fun c_22 => ?_)
      · refine j_aload_n C0 0 dX6_prices_25 rfl rfl ?_
        refine j_iload_n C0 1 dX6_prices_26 rfl rfl ?_
        refine j_callVi C0 (c_X6_buyers l z _ _ hI) yk_X6_buyers w_1026 (fun H locs hP _ => recvW C0 hP 0 (by decide) celM_0 rfl) ⟨Nat.le_of_ble_eq_true rfl, Nat.le_of_ble_eq_true rfl⟩ rfl rfl (Nat.le_of_ble_eq_true rfl) dX6_prices_27 ?_
        refine j_goto C0 38 dX6_prices_30 (by decide) ?_
        exact j_iretP C0 hrt hlk dX6_prices_38
      · refine j_aload_n C0 0 dX6_prices_33 rfl rfl ?_
        refine j_iload_n C0 1 dX6_prices_34 rfl rfl ?_
        refine j_callVi C0 (c_X6_sellers l z _ _ hI) yk_X6_sellers w_1030 (fun H locs hP _ => recvW C0 hP 0 (by decide) celM_0 rfl) ⟨Nat.le_of_ble_eq_true rfl, Nat.le_of_ble_eq_true rfl⟩ rfl rfl (Nat.le_of_ble_eq_true rfl) dX6_prices_35 ?_
        exact j_iretP C0 hrt hlk dX6_prices_38
def f_X6_clears_14 (g : Mem) (p0 : Int32) : Nat → Int32 → Int32
  | 0, _ => 0
  | n0 + 1, a2 => if (31 : Int32) < a2 then ((-4 : Int32)) else (if (g 1 1) < (f_X6_buyers g a2) then (f_X6_clears_14 g p0 n0 (a2 + (1 : Int32))) else (if (f_X6_sellers g p0) < (f_X6_buyers g a2) then (f_X6_clears_14 g p0 n0 (a2 + (1 : Int32))) else (a2)))
def f_X6_clears (g : Mem) (p0 : Int32) : Int32 := if (f_X6_isIn p0 (0 : Int32) (31 : Int32)) = 0 then ((-1 : Int32)) else (f_X6_clears_14 g p0 33 (0 : Int32))
theorem yk_X6_clears : yokV yX6_clears RX6 cX6_clears 3 (some .int) 1 := ⟨w_1037, w_1035, w_1036, w_8, by decide +kernel⟩
set_option maxHeartbeats 4000000 in
set_option maxRecDepth 100000 in
theorem c_X6_clears (l : Launch) (z : ZM) (g : Mem) (p0 : Int32) (hI : InM g) : ctM l yX6_clears cX6_clears 3 (some .int) 3 65 z g [.ref (yad z 0), .int p0] (qIM z (f_X6_clears g p0, g)) := by
  refine ct_of (own := RX6) (q := fun r => qIM z (r, g)) (res := f_X6_clears g p0) (lv := [(0, .ref (yad z 0)), (1, .int p0)]) enokM rfl (by decide) (Nat.le_of_ble_eq_true rfl) rfl (fun p e s m args below meth c C0 hrt hlk => ?_)
  unfold f_X6_clears
  refine j_iload_n C0 1 dX6_clears_0 rfl rfl ?_
  refine j_iconst C0 (v := 0) dX6_clears_1 (by decide) ?_
  refine j_bipush C0 (v := 31) dX6_clears_2 (by decide) ?_
  refine j_callSi C0 (c_X6_isIn l z _ _ _ _) yk_X6_isIn w_872 ⟨Nat.le_of_ble_eq_true rfl, Nat.le_of_ble_eq_true rfl⟩ rfl rfl (Nat.le_of_ble_eq_true rfl) dX6_clears_4 ?_
  refine j_if_ne C0 12 dX6_clears_7 (by decide) (fun c_7 => ?_) (fun c_7 => ?_)
  · refine j_iconst C0 (v := (-1)) dX6_clears_10 (by decide) ?_
    exact j_iretP C0 hrt hlk dX6_clears_11
  · refine j_iconst C0 (v := 0) dX6_clears_12 (by decide) ?_
    refine j_istore_n C0 (lv' := [(2, _), (0, _), (1, _)]) dX6_clears_13 rfl (by decide) rfl ?_
    have L14 : ∀ (n0 : Nat) (a2 : Int32), lcE a2 31 n0 → jj p l e { frames := 3, cells := 0, slots := 0, locals := 65 } s m args below meth c (yA z) (yD z) 14 (yad z) (celM z) 3 (fun r => MQ below (qIM z (r, g)) args s 0 0 (yA z)) (f_X6_clears_14 g p0 n0 a2) g 14 [(0, .ref (yad z 0)), (1, .int p0), (2, .int a2)] [] := by
      intro n0
      induction n0 with
      | zero => intro a2 hL; exact absurd hL.2 (Nat.not_lt_zero _)
      | succ n0 ih0 =>
        intro a2 hL
        rw [f_X6_clears_14]
        refine j_iload_n C0 2 dX6_clears_14 rfl rfl ?_
        refine j_bipush C0 (v := 31) dX6_clears_15 (by decide) ?_
        refine j_icmp_gt C0 55 dX6_clears_17 (by decide) (fun c_17 => ?_) (fun c_17 => ?_)
        · refine j_bipush C0 (v := (-4)) dX6_clears_55 (by decide) ?_
          exact j_iretP C0 hrt hlk dX6_clears_57
        · refine j_aload_n C0 0 dX6_clears_20 rfl rfl ?_
          refine j_iload_n C0 2 dX6_clears_21 rfl rfl ?_
          refine j_callVi C0 (c_X6_buyers l z _ _ hI) yk_X6_buyers w_1026 (fun H locs hP _ => recvW C0 hP 0 (by decide) celM_0 rfl) ⟨Nat.le_of_ble_eq_true rfl, Nat.le_of_ble_eq_true rfl⟩ rfl rfl (Nat.le_of_ble_eq_true rfl) dX6_clears_22 ?_
          refine j_aload_n C0 0 dX6_clears_25 rfl rfl ?_
          refine g_Model_s C0 w_800 dX6_clears_26 ?_
          refine j_iconst C0 (v := 1) dX6_clears_29 (by decide) ?_
          refine a_Ml C0 (by decide) ixl_1 vl57_1 dX6_clears_30 ?_
          refine j_icmp_gt C0 49 dX6_clears_31 (by decide) (fun c_31 => ?_) (fun c_31 => ?_)
          · refine j_iinc C0 (lv' := [(2, _), (0, _), (1, _)]) (v := _ + (1)) 2 dX6_clears_49 rfl (by rfl) (by decide) rfl ?_
            refine j_goto C0 14 dX6_clears_52 (by decide) ?_
            exact j_sub [1, 2, 0] rfl (ih0 _ (lcE_step hL c_17 (by decide)))
          · refine j_aload_n C0 0 dX6_clears_34 rfl rfl ?_
            refine j_iload_n C0 2 dX6_clears_35 rfl rfl ?_
            refine j_callVi C0 (c_X6_buyers l z _ _ hI) yk_X6_buyers w_1026 (fun H locs hP _ => recvW C0 hP 0 (by decide) celM_0 rfl) ⟨Nat.le_of_ble_eq_true rfl, Nat.le_of_ble_eq_true rfl⟩ rfl rfl (Nat.le_of_ble_eq_true rfl) dX6_clears_36 ?_
            refine j_aload_n C0 0 dX6_clears_39 rfl rfl ?_
            refine j_iload_n C0 1 dX6_clears_40 rfl rfl ?_
            refine j_callVi C0 (c_X6_sellers l z _ _ hI) yk_X6_sellers w_1030 (fun H locs hP _ => recvW C0 hP 0 (by decide) celM_0 rfl) ⟨Nat.le_of_ble_eq_true rfl, Nat.le_of_ble_eq_true rfl⟩ rfl rfl (Nat.le_of_ble_eq_true rfl) dX6_clears_41 ?_
            refine j_icmp_gt C0 49 dX6_clears_44 (by decide) (fun c_44 => ?_) (fun c_44 => ?_)
            · refine j_iinc C0 (lv' := [(2, _), (0, _), (1, _)]) (v := _ + (1)) 2 dX6_clears_49 rfl (by rfl) (by decide) rfl ?_
              refine j_goto C0 14 dX6_clears_52 (by decide) ?_
              exact j_sub [1, 2, 0] rfl (ih0 _ (lcE_step hL c_17 (by decide)))
            · refine j_iload_n C0 2 dX6_clears_47 rfl rfl ?_
              exact j_iretP C0 hrt hlk dX6_clears_48
    exact j_sub [1, 2, 0] rfl (L14 33 _ (lcE_from (by decide) (by decide) (by decide)))
def f_X6_lastOnes (g : Mem) (p0 p1 p2 : Int32) : Int32 := if (f_X6_isIn p0 (0 : Int32) (99 : Int32)) = 0 then ((-1 : Int32)) else (if (f_X6_isIn p1 (1 : Int32) (9 : Int32)) = 0 then ((-1 : Int32)) else (if (f_X6_isIn p2 (0 : Int32) (1 : Int32)) = 0 then ((-1 : Int32)) else (if p2 = (1 : Int32) then ((p0 - p0 / (p1 + (1 : Int32)) * (p1 + (1 : Int32)))) else (if (p0 - p0 / (p1 + (1 : Int32)) * (p1 + (1 : Int32))) ≤ 0 then ((0 : Int32)) else ((1 : Int32))))))
theorem yk_X6_lastOnes : yokV yX6_lastOnes RX6 cX6_lastOnes 5 (some .int) 3 := ⟨w_1056, w_1054, w_1055, w_8, by decide +kernel⟩
set_option maxHeartbeats 4000000 in
set_option maxRecDepth 100000 in
theorem c_X6_lastOnes (l : Launch) (z : ZM) (g : Mem) (p0 p1 p2 : Int32) (hI : InM g) : ctM l yX6_lastOnes cX6_lastOnes 5 (some .int) 1 22 z g [.ref (yad z 0), .int p0, .int p1, .int p2] (qIM z (f_X6_lastOnes g p0 p1 p2, g)) := by
  refine ct_of (own := RX6) (q := fun r => qIM z (r, g)) (res := f_X6_lastOnes g p0 p1 p2) (lv := [(0, .ref (yad z 0)), (1, .int p0), (2, .int p1), (3, .int p2)]) enokM rfl (by decide) (Nat.le_of_ble_eq_true rfl) rfl (fun p e s m args below meth c C0 hrt hlk => ?_)
  unfold f_X6_lastOnes
  refine j_iload_n C0 1 dX6_lastOnes_0 rfl rfl ?_
  refine j_iconst C0 (v := 0) dX6_lastOnes_1 (by decide) ?_
  refine j_bipush C0 (v := 99) dX6_lastOnes_2 (by decide) ?_
  refine j_callSi C0 (c_X6_isIn l z _ _ _ _) yk_X6_isIn w_872 ⟨Nat.le_of_ble_eq_true rfl, Nat.le_of_ble_eq_true rfl⟩ rfl rfl (Nat.le_of_ble_eq_true rfl) dX6_lastOnes_4 ?_
  refine j_if_eq C0 29 dX6_lastOnes_7 (by decide) (fun c_7 => ?_) (fun c_7 => ?_)
  · refine j_iconst C0 (v := (-1)) dX6_lastOnes_29 (by decide) ?_
    exact j_iretP C0 hrt hlk dX6_lastOnes_30
  · refine j_iload_n C0 2 dX6_lastOnes_10 rfl rfl ?_
    refine j_iconst C0 (v := 1) dX6_lastOnes_11 (by decide) ?_
    refine j_bipush C0 (v := 9) dX6_lastOnes_12 (by decide) ?_
    refine j_callSi C0 (c_X6_isIn l z _ _ _ _) yk_X6_isIn w_872 ⟨Nat.le_of_ble_eq_true rfl, Nat.le_of_ble_eq_true rfl⟩ rfl rfl (Nat.le_of_ble_eq_true rfl) dX6_lastOnes_14 ?_
    refine j_if_eq C0 29 dX6_lastOnes_17 (by decide) (fun c_17 => ?_) (fun c_17 => ?_)
    · refine j_iconst C0 (v := (-1)) dX6_lastOnes_29 (by decide) ?_
      exact j_iretP C0 hrt hlk dX6_lastOnes_30
    · refine j_iload_n C0 3 dX6_lastOnes_20 rfl rfl ?_
      refine j_iconst C0 (v := 0) dX6_lastOnes_21 (by decide) ?_
      refine j_iconst C0 (v := 1) dX6_lastOnes_22 (by decide) ?_
      refine j_callSi C0 (c_X6_isIn l z _ _ _ _) yk_X6_isIn w_872 ⟨Nat.le_of_ble_eq_true rfl, Nat.le_of_ble_eq_true rfl⟩ rfl rfl (Nat.le_of_ble_eq_true rfl) dX6_lastOnes_23 ?_
      refine j_if_ne C0 31 dX6_lastOnes_26 (by decide) (fun c_26 => ?_) (fun c_26 => ?_)
      · refine j_iconst C0 (v := (-1)) dX6_lastOnes_29 (by decide) ?_
        exact j_iretP C0 hrt hlk dX6_lastOnes_30
      · refine j_iload_n C0 1 dX6_lastOnes_31 rfl rfl ?_
        refine j_iload_n C0 2 dX6_lastOnes_32 rfl rfl ?_
        refine j_iconst C0 (v := 1) dX6_lastOnes_33 (by decide) ?_
        refine j_iadd C0 dX6_lastOnes_34 ?_
        refine j_irem C0 dX6_lastOnes_35 (k1_neM c_17) ?_
        refine j_istore C0 (lv' := [(4, _), (0, _), (1, _), (2, _), (3, _)]) dX6_lastOnes_36 (by decide) rfl ?_
        refine j_iload_n C0 4 dX6_lastOnes_38 rfl rfl ?_
        refine j_iconst C0 (v := 1) dX6_lastOnes_39 (by decide) ?_
        refine j_icmp_ne C0 48 dX6_lastOnes_40 (by decide) (fun c_40 => ?_) (fun c_40 => ?_)
        · refine j_iload C0 0 dX6_lastOnes_43 rfl ?_
          refine j_goto C0 58 dX6_lastOnes_45 (by decide) ?_
          exact j_iretP C0 hrt hlk dX6_lastOnes_58
        · refine j_iload C0 0 dX6_lastOnes_48 rfl ?_
          refine j_if_le C0 57 dX6_lastOnes_50 (by decide) (fun c_50 => ?_) (fun c_50 => ?_)
          · refine j_iconst C0 (v := 0) dX6_lastOnes_57 (by decide) ?_
            exact j_iretP C0 hrt hlk dX6_lastOnes_58
          · refine j_iconst C0 (v := 1) dX6_lastOnes_53 (by decide) ?_
            refine j_goto C0 58 dX6_lastOnes_54 (by decide) ?_
            exact j_iretP C0 hrt hlk dX6_lastOnes_58
def f_X6_hungerAll_4 (g : Mem)  : Nat → Int32 → Int32 → Int32
  | 0, _, _ => 0
  | n0 + 1, a1, a2 => if (g 1 0) ≤ a2 then (a1) else (f_X6_hungerAll_4 g n0 (a1 + (g 1 (ix (f_X6_of a2 (2 : Int32))))) (a2 + (1 : Int32)))
def f_X6_hungerAll (g : Mem)  : Int32 := f_X6_hungerAll_4 g 10 (0 : Int32) (0 : Int32)
theorem yk_X6_hungerAll : yokV yX6_hungerAll RX6 cX6_hungerAll 3 (some .int) 0 := ⟨w_1068, w_1067, wp_39, w_8, by decide +kernel⟩
set_option maxHeartbeats 4000000 in
set_option maxRecDepth 100000 in
theorem c_X6_hungerAll (l : Launch) (z : ZM) (g : Mem) (hI : InM g) : ctM l yX6_hungerAll cX6_hungerAll 3 (some .int) 1 21 z g [.ref (yad z 0)] (qIM z (f_X6_hungerAll g, g)) := by
  refine ct_of (own := RX6) (q := fun r => qIM z (r, g)) (res := f_X6_hungerAll g) (lv := [(0, .ref (yad z 0))]) enokM rfl (by decide) (Nat.le_of_ble_eq_true rfl) rfl (fun p e s m args below meth c C0 hrt hlk => ?_)
  unfold f_X6_hungerAll
  refine j_iconst C0 (v := 0) dX6_hungerAll_0 (by decide) ?_
  refine j_istore_n C0 (lv' := [(1, _), (0, _)]) dX6_hungerAll_1 rfl (by decide) rfl ?_
  refine j_iconst C0 (v := 0) dX6_hungerAll_2 (by decide) ?_
  refine j_istore_n C0 (lv' := [(2, _), (1, _), (0, _)]) dX6_hungerAll_3 rfl (by decide) rfl ?_
  have L4 : ∀ (n0 : Nat) (a1 : Int32) (a2 : Int32), lc a2 (g 1 0) n0 → jj p l e { frames := 1, cells := 0, slots := 0, locals := 21 } s m args below meth c (yA z) (yD z) 14 (yad z) (celM z) 3 (fun r => MQ below (qIM z (r, g)) args s 0 0 (yA z)) (f_X6_hungerAll_4 g n0 a1 a2) g 4 [(0, .ref (yad z 0)), (1, .int a1), (2, .int a2)] [] := by
    intro n0
    induction n0 with
    | zero => intro a1 a2 hL; exact absurd hL.2 (Nat.not_lt_zero _)
    | succ n0 ih0 =>
      intro a1 a2 hL
      rw [f_X6_hungerAll_4]
      refine j_iload_n C0 2 dX6_hungerAll_4 rfl rfl ?_
      refine j_aload_n C0 0 dX6_hungerAll_5 rfl rfl ?_
      refine g_Model_s C0 w_800 dX6_hungerAll_6 ?_
      refine j_iconst C0 (v := 0) dX6_hungerAll_9 (by decide) ?_
      refine a_Ml C0 (by decide) ixl_0 vl57_0 dX6_hungerAll_10 ?_
      refine j_icmp_ge C0 33 dX6_hungerAll_11 (by decide) (fun c_11 => ?_) (fun c_11 => ?_)
      · refine j_iload_n C0 1 dX6_hungerAll_33 rfl rfl ?_
        exact j_iretP C0 hrt hlk dX6_hungerAll_34
      · have hv_a2 : vp_in a2 9 := vin_lc hL c_11 (InM_s9 hI)
        refine j_iload_n C0 1 dX6_hungerAll_14 rfl rfl ?_
        refine j_aload_n C0 0 dX6_hungerAll_15 rfl rfl ?_
        refine g_Model_s C0 w_800 dX6_hungerAll_16 ?_
        refine j_iload_n C0 2 dX6_hungerAll_19 rfl rfl ?_
        refine j_iconst C0 (v := 2) dX6_hungerAll_20 (by decide) ?_
        refine j_callSi C0 (c_X6_of l z _ _ _) yk_X6_of w_897 ⟨Nat.le_of_ble_eq_true rfl, Nat.le_of_ble_eq_true rfl⟩ rfl rfl (Nat.le_of_ble_eq_true rfl) dX6_hungerAll_21 ?_
        refine a_M C0 (by decide) (of_in2 hv_a2) dX6_hungerAll_24 ?_
        refine j_iadd C0 dX6_hungerAll_25 ?_
        refine j_istore_n C0 (lv' := [(1, _), (0, _), (2, _)]) dX6_hungerAll_26 rfl (by decide) rfl ?_
        refine j_iinc C0 (lv' := [(2, _), (1, _), (0, _)]) (v := _ + (1)) 2 dX6_hungerAll_27 rfl (by rfl) (by decide) rfl ?_
        refine j_goto C0 4 dX6_hungerAll_30 (by decide) ?_
        exact j_sub [2, 1, 0] rfl (ih0 _ _ (lc_stepN hL c_11))
  exact j_sub [2, 1, 0] rfl (L4 10 _ _ (lc_0 (by have := (InM_s9 hI); omega) (by decide)))
def f_X6_partOfSlices (g : Mem) (p0 : Int32) : Int32 := if (f_X6_hungerAll g) = 0 then ((0 : Int32)) else ((((g 1 1) * (g 1 (ix (f_X6_of p0 (2 : Int32))))) / (f_X6_hungerAll g)))
theorem yk_X6_partOfSlices : yokV yX6_partOfSlices RX6 cX6_partOfSlices 2 (some .int) 1 := ⟨w_1064, w_1063, wp_38, w_8, by decide +kernel⟩
set_option maxHeartbeats 4000000 in
set_option maxRecDepth 100000 in
theorem c_X6_partOfSlices (l : Launch) (z : ZM) (g : Mem) (p0 : Int32) (hv0 : vp_in p0 9) (hI : InM g) : ctM l yX6_partOfSlices cX6_partOfSlices 2 (some .int) 2 43 z g [.ref (yad z 0), .int p0] (qIM z (f_X6_partOfSlices g p0, g)) := by
  refine ct_of (own := RX6) (q := fun r => qIM z (r, g)) (res := f_X6_partOfSlices g p0) (lv := [(0, .ref (yad z 0)), (1, .int p0)]) enokM rfl (by decide) (Nat.le_of_ble_eq_true rfl) rfl (fun p e s m args below meth c C0 hrt hlk => ?_)
  unfold f_X6_partOfSlices
  refine j_aload_n C0 0 dX6_partOfSlices_0 rfl rfl ?_
  refine j_callVi C0 (c_X6_hungerAll l z _ hI) yk_X6_hungerAll w_1065 (fun H locs hP _ => recvW C0 hP 0 (by decide) celM_0 rfl) ⟨Nat.le_of_ble_eq_true rfl, Nat.le_of_ble_eq_true rfl⟩ rfl rfl (Nat.le_of_ble_eq_true rfl) dX6_partOfSlices_1 ?_
  refine j_if_ne C0 11 dX6_partOfSlices_4 (by decide) (fun c_4 => ?_) (fun c_4 => ?_)
  · refine j_iconst C0 (v := 0) dX6_partOfSlices_7 (by decide) ?_
    refine j_goto C0 33 dX6_partOfSlices_8 (by decide) ?_
    exact j_iretP C0 hrt hlk dX6_partOfSlices_33
  · refine j_aload_n C0 0 dX6_partOfSlices_11 rfl rfl ?_
    refine g_Model_s C0 w_800 dX6_partOfSlices_12 ?_
    refine j_iconst C0 (v := 1) dX6_partOfSlices_15 (by decide) ?_
    refine a_Ml C0 (by decide) ixl_1 vl57_1 dX6_partOfSlices_16 ?_
    refine j_aload_n C0 0 dX6_partOfSlices_17 rfl rfl ?_
    refine g_Model_s C0 w_800 dX6_partOfSlices_18 ?_
    refine j_iload_n C0 1 dX6_partOfSlices_21 rfl rfl ?_
    refine j_iconst C0 (v := 2) dX6_partOfSlices_22 (by decide) ?_
    refine j_callSi C0 (c_X6_of l z _ _ _) yk_X6_of w_897 ⟨Nat.le_of_ble_eq_true rfl, Nat.le_of_ble_eq_true rfl⟩ rfl rfl (Nat.le_of_ble_eq_true rfl) dX6_partOfSlices_23 ?_
    refine a_M C0 (by decide) (of_in2 hv0) dX6_partOfSlices_26 ?_
    refine j_imul C0 dX6_partOfSlices_27 ?_
    refine j_aload_n C0 0 dX6_partOfSlices_28 rfl rfl ?_
    refine j_callVi C0 (c_X6_hungerAll l z _ hI) yk_X6_hungerAll w_1065 (fun H locs hP _ => recvW C0 hP 0 (by decide) celM_0 rfl) ⟨Nat.le_of_ble_eq_true rfl, Nat.le_of_ble_eq_true rfl⟩ rfl rfl (Nat.le_of_ble_eq_true rfl) dX6_partOfSlices_29 ?_
    refine j_idiv C0 dX6_partOfSlices_32 c_4 ?_
    exact j_iretP C0 hrt hlk dX6_partOfSlices_33
def f_X6_shares_34 (g : Mem) (p0 : Int32) : Nat → Int32 → Int32 → Int32
  | 0, _, _ => 0
  | n0 + 1, a2, a3 => if (g 1 0) ≤ a3 then (a2) else (f_X6_shares_34 g p0 n0 (a2 - (f_X6_partOfSlices g a3)) (a3 + (1 : Int32)))
def f_X6_shares (g : Mem) (p0 : Int32) : Int32 := if p0 = (-1 : Int32) then (if p0 < 0 then (f_X6_shares_34 g p0 10 (g 1 1) (0 : Int32)) else ((f_X6_partOfSlices g p0))) else (if (f_X6_isPerson g p0) = 0 then ((-1 : Int32)) else (if p0 < 0 then (f_X6_shares_34 g p0 10 (g 1 1) (0 : Int32)) else ((f_X6_partOfSlices g p0))))
theorem yk_X6_shares : yokV yX6_shares RX6 cX6_shares 4 (some .int) 1 := ⟨w_1060, w_1058, w_1059, w_8, by decide +kernel⟩
set_option maxHeartbeats 4000000 in
set_option maxRecDepth 100000 in
theorem c_X6_shares (l : Launch) (z : ZM) (g : Mem) (p0 : Int32) (hI : InM g) : ctM l yX6_shares cX6_shares 4 (some .int) 3 64 z g [.ref (yad z 0), .int p0] (qIM z (f_X6_shares g p0, g)) := by
  refine ct_of (own := RX6) (q := fun r => qIM z (r, g)) (res := f_X6_shares g p0) (lv := [(0, .ref (yad z 0)), (1, .int p0)]) enokM rfl (by decide) (Nat.le_of_ble_eq_true rfl) rfl (fun p e s m args below meth c C0 hrt hlk => ?_)
  unfold f_X6_shares
  refine j_iload_n C0 1 dX6_shares_0 rfl rfl ?_
  refine j_iconst C0 (v := (-1)) dX6_shares_1 (by decide) ?_
  refine j_icmp_eq C0 15 dX6_shares_2 (by decide) (fun c_2 => ?_) (fun c_2 => ?_)
  · refine j_iload_n C0 1 dX6_shares_15 rfl rfl ?_
    refine j_if_lt C0 25 dX6_shares_16 (by decide) (fun c_16 => ?_) (fun c_16 => ?_)
    · refine j_aload_n C0 0 dX6_shares_25 rfl rfl ?_
      refine g_Model_s C0 w_800 dX6_shares_26 ?_
      refine j_iconst C0 (v := 1) dX6_shares_29 (by decide) ?_
      refine a_Ml C0 (by decide) ixl_1 vl57_1 dX6_shares_30 ?_
      refine j_istore_n C0 (lv' := [(2, _), (0, _), (1, _)]) dX6_shares_31 rfl (by decide) rfl ?_
      refine j_iconst C0 (v := 0) dX6_shares_32 (by decide) ?_
      refine j_istore_n C0 (lv' := [(3, _), (2, _), (0, _), (1, _)]) dX6_shares_33 rfl (by decide) rfl ?_
      have L34 : ∀ (n0 : Nat) (a2 : Int32) (a3 : Int32), lc a3 (g 1 0) n0 → jj p l e { frames := 3, cells := 0, slots := 0, locals := 64 } s m args below meth c (yA z) (yD z) 14 (yad z) (celM z) 4 (fun r => MQ below (qIM z (r, g)) args s 0 0 (yA z)) (f_X6_shares_34 g p0 n0 a2 a3) g 34 [(0, .ref (yad z 0)), (1, .int p0), (2, .int a2), (3, .int a3)] [] := by
        intro n0
        induction n0 with
        | zero => intro a2 a3 hL; exact absurd hL.2 (Nat.not_lt_zero _)
        | succ n0 ih0 =>
          intro a2 a3 hL
          rw [f_X6_shares_34]
          refine j_iload_n C0 3 dX6_shares_34 rfl rfl ?_
          refine j_aload_n C0 0 dX6_shares_35 rfl rfl ?_
          refine g_Model_s C0 w_800 dX6_shares_36 ?_
          refine j_iconst C0 (v := 0) dX6_shares_39 (by decide) ?_
          refine a_Ml C0 (by decide) ixl_0 vl57_0 dX6_shares_40 ?_
          refine j_icmp_ge C0 58 dX6_shares_41 (by decide) (fun c_41 => ?_) (fun c_41 => ?_)
          · refine j_iload_n C0 2 dX6_shares_58 rfl rfl ?_
            exact j_iretP C0 hrt hlk dX6_shares_59
          · have hv_a3 : vp_in a3 9 := vin_lc hL c_41 (InM_s9 hI)
            refine j_iload_n C0 2 dX6_shares_44 rfl rfl ?_
            refine j_aload_n C0 0 dX6_shares_45 rfl rfl ?_
            refine j_iload_n C0 3 dX6_shares_46 rfl rfl ?_
            refine j_callVi C0 (c_X6_partOfSlices l z _ _ hv_a3 hI) yk_X6_partOfSlices w_1061 (fun H locs hP _ => recvW C0 hP 0 (by decide) celM_0 rfl) ⟨Nat.le_of_ble_eq_true rfl, Nat.le_of_ble_eq_true rfl⟩ rfl rfl (Nat.le_of_ble_eq_true rfl) dX6_shares_47 ?_
            refine j_isub C0 dX6_shares_50 ?_
            refine j_istore_n C0 (lv' := [(2, _), (0, _), (1, _), (3, _)]) dX6_shares_51 rfl (by decide) rfl ?_
            refine j_iinc C0 (lv' := [(3, _), (2, _), (0, _), (1, _)]) (v := _ + (1)) 3 dX6_shares_52 rfl (by rfl) (by decide) rfl ?_
            refine j_goto C0 34 dX6_shares_55 (by decide) ?_
            exact j_sub [2, 3, 1, 0] rfl (ih0 _ _ (lc_stepN hL c_41))
      exact j_sub [2, 3, 1, 0] rfl (L34 10 _ _ (lc_0 (by have := (InM_s9 hI); omega) (by decide)))
    · have hvp0 : vp_in p0 9 := by first | exact isPerson_in hI c_10 | exact absurd (show p0 < 0 by rw [c_2]; decide) c_16
      refine j_aload_n C0 0 dX6_shares_19 rfl rfl ?_
      refine j_iload_n C0 1 dX6_shares_20 rfl rfl ?_
      refine j_callVi C0 (c_X6_partOfSlices l z _ _ hvp0 hI) yk_X6_partOfSlices w_1061 (fun H locs hP _ => recvW C0 hP 0 (by decide) celM_0 rfl) ⟨Nat.le_of_ble_eq_true rfl, Nat.le_of_ble_eq_true rfl⟩ rfl rfl (Nat.le_of_ble_eq_true rfl) dX6_shares_21 ?_
      exact j_iretP C0 hrt hlk dX6_shares_24
  · refine j_aload_n C0 0 dX6_shares_5 rfl rfl ?_
    refine j_iload_n C0 1 dX6_shares_6 rfl rfl ?_
    refine j_callVi C0 (c_X6_isPerson l z _ _ hI) yk_X6_isPerson w_900 (fun H locs hP _ => recvW C0 hP 0 (by decide) celM_0 rfl) ⟨Nat.le_of_ble_eq_true rfl, Nat.le_of_ble_eq_true rfl⟩ rfl rfl (Nat.le_of_ble_eq_true rfl) dX6_shares_7 ?_
    refine j_if_ne C0 15 dX6_shares_10 (by decide) (fun c_10 => ?_) (fun c_10 => ?_)
    · refine j_iconst C0 (v := (-1)) dX6_shares_13 (by decide) ?_
      exact j_iretP C0 hrt hlk dX6_shares_14
    · refine j_iload_n C0 1 dX6_shares_15 rfl rfl ?_
      refine j_if_lt C0 25 dX6_shares_16 (by decide) (fun c_16 => ?_) (fun c_16 => ?_)
      · refine j_aload_n C0 0 dX6_shares_25 rfl rfl ?_
        refine g_Model_s C0 w_800 dX6_shares_26 ?_
        refine j_iconst C0 (v := 1) dX6_shares_29 (by decide) ?_
        refine a_Ml C0 (by decide) ixl_1 vl57_1 dX6_shares_30 ?_
        refine j_istore_n C0 (lv' := [(2, _), (0, _), (1, _)]) dX6_shares_31 rfl (by decide) rfl ?_
        refine j_iconst C0 (v := 0) dX6_shares_32 (by decide) ?_
        refine j_istore_n C0 (lv' := [(3, _), (2, _), (0, _), (1, _)]) dX6_shares_33 rfl (by decide) rfl ?_
        have L34 : ∀ (n0 : Nat) (a2 : Int32) (a3 : Int32), lc a3 (g 1 0) n0 → jj p l e { frames := 3, cells := 0, slots := 0, locals := 64 } s m args below meth c (yA z) (yD z) 14 (yad z) (celM z) 4 (fun r => MQ below (qIM z (r, g)) args s 0 0 (yA z)) (f_X6_shares_34 g p0 n0 a2 a3) g 34 [(0, .ref (yad z 0)), (1, .int p0), (2, .int a2), (3, .int a3)] [] := by
          intro n0
          induction n0 with
          | zero => intro a2 a3 hL; exact absurd hL.2 (Nat.not_lt_zero _)
          | succ n0 ih0 =>
            intro a2 a3 hL
            rw [f_X6_shares_34]
            refine j_iload_n C0 3 dX6_shares_34 rfl rfl ?_
            refine j_aload_n C0 0 dX6_shares_35 rfl rfl ?_
            refine g_Model_s C0 w_800 dX6_shares_36 ?_
            refine j_iconst C0 (v := 0) dX6_shares_39 (by decide) ?_
            refine a_Ml C0 (by decide) ixl_0 vl57_0 dX6_shares_40 ?_
            refine j_icmp_ge C0 58 dX6_shares_41 (by decide) (fun c_41 => ?_) (fun c_41 => ?_)
            · refine j_iload_n C0 2 dX6_shares_58 rfl rfl ?_
              exact j_iretP C0 hrt hlk dX6_shares_59
            · have hv_a3 : vp_in a3 9 := vin_lc hL c_41 (InM_s9 hI)
              refine j_iload_n C0 2 dX6_shares_44 rfl rfl ?_
              refine j_aload_n C0 0 dX6_shares_45 rfl rfl ?_
              refine j_iload_n C0 3 dX6_shares_46 rfl rfl ?_
              refine j_callVi C0 (c_X6_partOfSlices l z _ _ hv_a3 hI) yk_X6_partOfSlices w_1061 (fun H locs hP _ => recvW C0 hP 0 (by decide) celM_0 rfl) ⟨Nat.le_of_ble_eq_true rfl, Nat.le_of_ble_eq_true rfl⟩ rfl rfl (Nat.le_of_ble_eq_true rfl) dX6_shares_47 ?_
              refine j_isub C0 dX6_shares_50 ?_
              refine j_istore_n C0 (lv' := [(2, _), (0, _), (1, _), (3, _)]) dX6_shares_51 rfl (by decide) rfl ?_
              refine j_iinc C0 (lv' := [(3, _), (2, _), (0, _), (1, _)]) (v := _ + (1)) 3 dX6_shares_52 rfl (by rfl) (by decide) rfl ?_
              refine j_goto C0 34 dX6_shares_55 (by decide) ?_
              exact j_sub [2, 3, 1, 0] rfl (ih0 _ _ (lc_stepN hL c_41))
        exact j_sub [2, 3, 1, 0] rfl (L34 10 _ _ (lc_0 (by have := (InM_s9 hI); omega) (by decide)))
      · have hvp0 : vp_in p0 9 := by first | exact isPerson_in hI c_10 | exact absurd (show p0 < 0 by rw [c_2]; decide) c_16
        refine j_aload_n C0 0 dX6_shares_19 rfl rfl ?_
        refine j_iload_n C0 1 dX6_shares_20 rfl rfl ?_
        refine j_callVi C0 (c_X6_partOfSlices l z _ _ hvp0 hI) yk_X6_partOfSlices w_1061 (fun H locs hP _ => recvW C0 hP 0 (by decide) celM_0 rfl) ⟨Nat.le_of_ble_eq_true rfl, Nat.le_of_ble_eq_true rfl⟩ rfl rfl (Nat.le_of_ble_eq_true rfl) dX6_shares_21 ?_
        exact j_iretP C0 hrt hlk dX6_shares_24
def f_X6_seen_69 (g : Mem) (p0 : Int32) : Nat → Int32 → Int32 → Int32
  | 0, _, _ => 0
  | n0s + 1, b2, b3 => if (g 1 0) ≤ b3 then (b2) else (if ((p0 >>> (b3 &&& 31)) &&& (1 : Int32)) = (1 : Int32) then (if (g 1 1) = 0 then (f_X6_seen_69 g p0 n0s (0 : Int32) (b3 + (1 : Int32))) else (if (g 1 (ix (f_X6_of b3 (2 : Int32)))) = 0 then (f_X6_seen_69 g p0 n0s (0 : Int32) (b3 + (1 : Int32))) else (f_X6_seen_69 g p0 n0s b2 (b3 + (1 : Int32))))) else (f_X6_seen_69 g p0 n0s b2 (b3 + (1 : Int32))))
def f_X6_seen_24 (g : Mem) (p0 : Int32) : Nat → Int32 → Int32 → Int32
  | 0, _, _ => 0
  | n0 + 1, a2, a3 => if (g 1 0) ≤ a3 then (f_X6_seen_69 g p0 10 a2 (0 : Int32)) else (if ((p0 >>> (a3 &&& 31)) &&& (1 : Int32)) = 0 then (if (f_X6_canLook g 1 a3) = 0 then (f_X6_seen_24 g p0 n0 (a2 + (0 : Int32)) (a3 + (1 : Int32))) else (f_X6_seen_24 g p0 n0 (a2 + (1 : Int32)) (a3 + (1 : Int32)))) else (f_X6_seen_24 g p0 n0 (a2 + (0 : Int32)) (a3 + (1 : Int32))))
def f_X6_seen (g : Mem) (p0 : Int32) : Int32 := if (f_X6_isIn p0 (0 : Int32) (((1 : Int32) <<< ((g 1 0) &&& 31)) - (1 : Int32))) = 0 then ((-1 : Int32)) else (f_X6_seen_24 g p0 10 (0 : Int32) (0 : Int32))
theorem yk_X6_seen : yokV yX6_seen RX6 cX6_seen 4 (some .int) 1 := ⟨w_1091, w_1089, w_1090, w_8, by decide +kernel⟩
set_option maxHeartbeats 4000000 in
set_option maxRecDepth 100000 in
theorem c_X6_seen (l : Launch) (z : ZM) (g : Mem) (p0 : Int32) (hI : InM g) : ctM l yX6_seen cX6_seen 4 (some .int) 2 42 z g [.ref (yad z 0), .int p0] (qIM z (f_X6_seen g p0, g)) := by
  refine ct_of (own := RX6) (q := fun r => qIM z (r, g)) (res := f_X6_seen g p0) (lv := [(0, .ref (yad z 0)), (1, .int p0)]) enokM rfl (by decide) (Nat.le_of_ble_eq_true rfl) rfl (fun p e s m args below meth c C0 hrt hlk => ?_)
  unfold f_X6_seen
  refine j_iload_n C0 1 dX6_seen_0 rfl rfl ?_
  refine j_iconst C0 (v := 0) dX6_seen_1 (by decide) ?_
  refine j_iconst C0 (v := 1) dX6_seen_2 (by decide) ?_
  refine j_aload_n C0 0 dX6_seen_3 rfl rfl ?_
  refine g_Model_s C0 w_800 dX6_seen_4 ?_
  refine j_iconst C0 (v := 0) dX6_seen_7 (by decide) ?_
  refine a_Ml C0 (by decide) ixl_0 vl57_0 dX6_seen_8 ?_
  refine j_ishl C0 dX6_seen_9 ?_
  refine j_iconst C0 (v := 1) dX6_seen_10 (by decide) ?_
  refine j_isub C0 dX6_seen_11 ?_
  refine j_callSi C0 (c_X6_isIn l z _ _ _ _) yk_X6_isIn w_872 ⟨Nat.le_of_ble_eq_true rfl, Nat.le_of_ble_eq_true rfl⟩ rfl rfl (Nat.le_of_ble_eq_true rfl) dX6_seen_12 ?_
  refine j_if_ne C0 20 dX6_seen_15 (by decide) (fun c_15 => ?_) (fun c_15 => ?_)
  · refine j_iconst C0 (v := (-1)) dX6_seen_18 (by decide) ?_
    exact j_iretP C0 hrt hlk dX6_seen_19
  · refine j_iconst C0 (v := 0) dX6_seen_20 (by decide) ?_
    refine j_istore_n C0 (lv' := [(2, _), (0, _), (1, _)]) dX6_seen_21 rfl (by decide) rfl ?_
    refine j_iconst C0 (v := 0) dX6_seen_22 (by decide) ?_
    refine j_istore_n C0 (lv' := [(3, _), (2, _), (0, _), (1, _)]) dX6_seen_23 rfl (by decide) rfl ?_
    have L24 : ∀ (n0 : Nat) (a2 : Int32) (a3 : Int32), lc a3 (g 1 0) n0 → jj p l e { frames := 2, cells := 0, slots := 0, locals := 42 } s m args below meth c (yA z) (yD z) 14 (yad z) (celM z) 4 (fun r => MQ below (qIM z (r, g)) args s 0 0 (yA z)) (f_X6_seen_24 g p0 n0 a2 a3) g 24 [(0, .ref (yad z 0)), (1, .int p0), (2, .int a2), (3, .int a3)] [] := by
      intro n0
      induction n0 with
      | zero => intro a2 a3 hL0; exact absurd hL0.2 (Nat.not_lt_zero _)
      | succ n0 ih0 =>
        intro a2 a3 hL0
        rw [f_X6_seen_24]
        refine j_iload_n C0 3 dX6_seen_24 rfl rfl ?_
        refine j_aload_n C0 0 dX6_seen_25 rfl rfl ?_
        refine g_Model_s C0 w_800 dX6_seen_26 ?_
        refine j_iconst C0 (v := 0) dX6_seen_29 (by decide) ?_
        refine a_Ml C0 (by decide) ixl_0 vl57_0 dX6_seen_30 ?_
        refine j_icmp_ge C0 67 dX6_seen_31 (by decide) (fun c_31 => ?_) (fun c_31 => ?_)
        · refine j_iconst C0 (v := 0) dX6_seen_67 (by decide) ?_
          refine j_istore_n C0 (lv' := [(3, _), (0, _), (1, _), (2, _)]) dX6_seen_68 rfl (by decide) rfl ?_
          have L69 : ∀ (n0s : Nat) (b2 : Int32) (b3 : Int32), lc b3 (g 1 0) n0s → jj p l e { frames := 2, cells := 0, slots := 0, locals := 42 } s m args below meth c (yA z) (yD z) 14 (yad z) (celM z) 4 (fun r => MQ below (qIM z (r, g)) args s 0 0 (yA z)) (f_X6_seen_69 g p0 n0s b2 b3) g 69 [(0, .ref (yad z 0)), (1, .int p0), (2, .int b2), (3, .int b3)] [] := by
            intro n0s
            induction n0s with
            | zero => intro b2 b3 hL1; exact absurd hL1.2 (Nat.not_lt_zero _)
            | succ n0s ih0s =>
              intro b2 b3 hL1
              rw [f_X6_seen_69]
              refine j_iload_n C0 3 dX6_seen_69 rfl rfl ?_
              refine j_aload_n C0 0 dX6_seen_70 rfl rfl ?_
              refine g_Model_s C0 w_800 dX6_seen_71 ?_
              refine j_iconst C0 (v := 0) dX6_seen_74 (by decide) ?_
              refine a_Ml C0 (by decide) ixl_0 vl57_0 dX6_seen_75 ?_
              refine j_icmp_ge C0 118 dX6_seen_76 (by decide) (fun c_76 => ?_) (fun c_76 => ?_)
              · refine j_iload_n C0 2 dX6_seen_118 rfl rfl ?_
                exact j_iretP C0 hrt hlk dX6_seen_119
              · have hv_b3 : vp_in b3 9 := vin_lc hL1 c_76 (InM_s9 hI)
                refine j_iload_n C0 1 dX6_seen_79 rfl rfl ?_
                refine j_iload_n C0 3 dX6_seen_80 rfl rfl ?_
                refine j_ishr C0 dX6_seen_81 ?_
                refine j_iconst C0 (v := 1) dX6_seen_82 (by decide) ?_
                refine j_iand C0 dX6_seen_83 ?_
                refine j_iconst C0 (v := 1) dX6_seen_84 (by decide) ?_
                refine j_icmp_ne C0 112 dX6_seen_85 (by decide) (fun c_85 => ?_) (fun c_85 => ?_)
                · refine j_aload_n C0 0 dX6_seen_88 rfl rfl ?_
                  refine g_Model_s C0 w_800 dX6_seen_89 ?_
                  refine j_iconst C0 (v := 1) dX6_seen_92 (by decide) ?_
                  refine a_Ml C0 (by decide) ixl_1 vl57_1 dX6_seen_93 ?_
                  refine j_if_eq C0 110 dX6_seen_94 (by decide) (fun c_94 => ?_) (fun c_94 => ?_)
                  · refine j_iconst C0 (v := 0) dX6_seen_110 (by decide) ?_
                    refine j_istore_n C0 (lv' := [(2, _), (0, _), (1, _), (3, _)]) dX6_seen_111 rfl (by decide) rfl ?_
                    refine j_iinc C0 (lv' := [(3, _), (2, _), (0, _), (1, _)]) (v := _ + (1)) 3 dX6_seen_112 rfl (by rfl) (by decide) rfl ?_
                    refine j_goto C0 69 dX6_seen_115 (by decide) ?_
                    exact j_sub [2, 3, 1, 0] rfl (ih0s _ _ (lc_stepN hL1 c_76))
                  · refine j_aload_n C0 0 dX6_seen_97 rfl rfl ?_
                    refine g_Model_s C0 w_800 dX6_seen_98 ?_
                    refine j_iload_n C0 3 dX6_seen_101 rfl rfl ?_
                    refine j_iconst C0 (v := 2) dX6_seen_102 (by decide) ?_
                    refine j_callSi C0 (c_X6_of l z _ _ _) yk_X6_of w_897 ⟨Nat.le_of_ble_eq_true rfl, Nat.le_of_ble_eq_true rfl⟩ rfl rfl (Nat.le_of_ble_eq_true rfl) dX6_seen_103 ?_
                    refine a_M C0 (by decide) (of_in2 hv_b3) dX6_seen_106 ?_
                    refine j_if_ne C0 112 dX6_seen_107 (by decide) (fun c_107 => ?_) (fun c_107 => ?_)
                    · refine j_iconst C0 (v := 0) dX6_seen_110 (by decide) ?_
                      refine j_istore_n C0 (lv' := [(2, _), (0, _), (1, _), (3, _)]) dX6_seen_111 rfl (by decide) rfl ?_
                      refine j_iinc C0 (lv' := [(3, _), (2, _), (0, _), (1, _)]) (v := _ + (1)) 3 dX6_seen_112 rfl (by rfl) (by decide) rfl ?_
                      refine j_goto C0 69 dX6_seen_115 (by decide) ?_
                      exact j_sub [2, 3, 1, 0] rfl (ih0s _ _ (lc_stepN hL1 c_76))
                    · refine j_iinc C0 (lv' := [(3, _), (0, _), (1, _), (2, _)]) (v := _ + (1)) 3 dX6_seen_112 rfl (by rfl) (by decide) rfl ?_
                      refine j_goto C0 69 dX6_seen_115 (by decide) ?_
                      exact j_sub [1, 2, 3, 0] rfl (ih0s _ _ (lc_stepN hL1 c_76))
                · refine j_iinc C0 (lv' := [(3, _), (0, _), (1, _), (2, _)]) (v := _ + (1)) 3 dX6_seen_112 rfl (by rfl) (by decide) rfl ?_
                  refine j_goto C0 69 dX6_seen_115 (by decide) ?_
                  exact j_sub [1, 2, 3, 0] rfl (ih0s _ _ (lc_stepN hL1 c_76))
          exact j_sub [1, 2, 3, 0] rfl (L69 10 _ _ (lc_0 (by have := (InM_s9 hI); omega) (by decide)))
        · have hv_a3 : vp_in a3 9 := vin_lc hL0 c_31 (InM_s9 hI)
          refine j_iload_n C0 2 dX6_seen_34 rfl rfl ?_
          refine j_iload_n C0 1 dX6_seen_35 rfl rfl ?_
          refine j_iload_n C0 3 dX6_seen_36 rfl rfl ?_
          refine j_ishr C0 dX6_seen_37 ?_
          refine j_iconst C0 (v := 1) dX6_seen_38 (by decide) ?_
          refine j_iand C0 dX6_seen_39 ?_
          refine j_if_ne C0 58 dX6_seen_40 (by decide) (fun c_40 => ?_) (fun c_40 => ?_)
          · refine j_aload_n C0 0 dX6_seen_43 rfl rfl ?_
            refine g_Model_s C0 w_800 dX6_seen_44 ?_
            refine j_iload_n C0 3 dX6_seen_47 rfl rfl ?_
            refine j_callSi C0 (c_X6_canLook l z _ 1 rw4_1 _ hv_a3) yk_X6_canLook w_907 ⟨Nat.le_of_ble_eq_true rfl, Nat.le_of_ble_eq_true rfl⟩ rfl rfl (Nat.le_of_ble_eq_true rfl) dX6_seen_48 ?_
            refine j_if_eq C0 58 dX6_seen_51 (by decide) (fun c_51 => ?_) (fun c_51 => ?_)
            · refine j_iconst C0 (v := 0) dX6_seen_58 (by decide) ?_
              refine j_iadd C0 dX6_seen_59 ?_
              refine j_istore_n C0 (lv' := [(2, _), (0, _), (1, _), (3, _)]) dX6_seen_60 rfl (by decide) rfl ?_
              refine j_iinc C0 (lv' := [(3, _), (2, _), (0, _), (1, _)]) (v := _ + (1)) 3 dX6_seen_61 rfl (by rfl) (by decide) rfl ?_
              refine j_goto C0 24 dX6_seen_64 (by decide) ?_
              exact j_sub [2, 3, 1, 0] rfl (ih0 _ _ (lc_stepN hL0 c_31))
            · refine j_iconst C0 (v := 1) dX6_seen_54 (by decide) ?_
              refine j_goto C0 59 dX6_seen_55 (by decide) ?_
              refine j_iadd C0 dX6_seen_59 ?_
              refine j_istore_n C0 (lv' := [(2, _), (0, _), (1, _), (3, _)]) dX6_seen_60 rfl (by decide) rfl ?_
              refine j_iinc C0 (lv' := [(3, _), (2, _), (0, _), (1, _)]) (v := _ + (1)) 3 dX6_seen_61 rfl (by rfl) (by decide) rfl ?_
              refine j_goto C0 24 dX6_seen_64 (by decide) ?_
              exact j_sub [2, 3, 1, 0] rfl (ih0 _ _ (lc_stepN hL0 c_31))
          · refine j_iconst C0 (v := 0) dX6_seen_58 (by decide) ?_
            refine j_iadd C0 dX6_seen_59 ?_
            refine j_istore_n C0 (lv' := [(2, _), (0, _), (1, _), (3, _)]) dX6_seen_60 rfl (by decide) rfl ?_
            refine j_iinc C0 (lv' := [(3, _), (2, _), (0, _), (1, _)]) (v := _ + (1)) 3 dX6_seen_61 rfl (by rfl) (by decide) rfl ?_
            refine j_goto C0 24 dX6_seen_64 (by decide) ?_
            exact j_sub [2, 3, 1, 0] rfl (ih0 _ _ (lc_stepN hL0 c_31))
    exact j_sub [2, 3, 1, 0] rfl (L24 10 _ _ (lc_0 (by have := (InM_s9 hI); omega) (by decide)))
def f_X6_atAll_25 (g : Mem) (p0 : Int32) : Nat → Int32 → Int32 → Int32 → Int32 → Int32 → Int32
  | 0, _, _, _, _, _ => 0
  | n0 + 1, a2, a3, a4, a5, a6 => if (g 1 0) ≤ a6 then (if p0 = (1 : Int32) then (a2) else (if a5 ≤ 0 then (if a4 ≤ 0 then ((f_X6_least (g 1 1) (0 : Int32))) else ((f_X6_least (g 1 1) (a3 - (1 : Int32))))) else ((f_X6_least (g 1 1) a3)))) else (if (g 1 (ix (f_X6_of a6 (2 : Int32)))) ≤ 0 then (if (f_X6_canLook g 1 a6) = 0 then (f_X6_atAll_25 g p0 n0 a2 (a3 + (0 : Int32)) a4 a5 (a6 + (1 : Int32))) else (if a2 < 0 then (f_X6_atAll_25 g p0 n0 a6 (a3 + (0 : Int32)) (a4 + (0 : Int32)) (a5 + (1 : Int32)) (a6 + (1 : Int32))) else (if (g 1 (ix (f_X6_of a2 (2 : Int32)))) ≤ (g 1 (ix (f_X6_of a6 (2 : Int32)))) then (f_X6_atAll_25 g p0 n0 a2 (a3 + (0 : Int32)) (a4 + (0 : Int32)) (a5 + (1 : Int32)) (a6 + (1 : Int32))) else (f_X6_atAll_25 g p0 n0 a6 (a3 + (0 : Int32)) (a4 + (0 : Int32)) (a5 + (1 : Int32)) (a6 + (1 : Int32)))))) else (if (g 1 (ix (f_X6_of a6 (4 : Int32)))) = 0 then (if (f_X6_canLook g 1 a6) = 0 then (f_X6_atAll_25 g p0 n0 a2 (a3 + (1 : Int32)) a4 a5 (a6 + (1 : Int32))) else (if a2 < 0 then (f_X6_atAll_25 g p0 n0 a6 (a3 + (1 : Int32)) (a4 + (1 : Int32)) (a5 + (0 : Int32)) (a6 + (1 : Int32))) else (if (g 1 (ix (f_X6_of a2 (2 : Int32)))) ≤ (g 1 (ix (f_X6_of a6 (2 : Int32)))) then (f_X6_atAll_25 g p0 n0 a2 (a3 + (1 : Int32)) (a4 + (1 : Int32)) (a5 + (0 : Int32)) (a6 + (1 : Int32))) else (f_X6_atAll_25 g p0 n0 a6 (a3 + (1 : Int32)) (a4 + (1 : Int32)) (a5 + (0 : Int32)) (a6 + (1 : Int32)))))) else (if (f_X6_canLook g 1 a6) = 0 then (f_X6_atAll_25 g p0 n0 a2 (a3 + (0 : Int32)) a4 a5 (a6 + (1 : Int32))) else (if a2 < 0 then (f_X6_atAll_25 g p0 n0 a6 (a3 + (0 : Int32)) (a4 + (0 : Int32)) (a5 + (1 : Int32)) (a6 + (1 : Int32))) else (if (g 1 (ix (f_X6_of a2 (2 : Int32)))) ≤ (g 1 (ix (f_X6_of a6 (2 : Int32)))) then (f_X6_atAll_25 g p0 n0 a2 (a3 + (0 : Int32)) (a4 + (0 : Int32)) (a5 + (1 : Int32)) (a6 + (1 : Int32))) else (f_X6_atAll_25 g p0 n0 a6 (a3 + (0 : Int32)) (a4 + (0 : Int32)) (a5 + (1 : Int32)) (a6 + (1 : Int32))))))))
def f_X6_atAll (g : Mem) (p0 : Int32) : Int32 := if (f_X6_isIn p0 (0 : Int32) (1 : Int32)) = 0 then ((-1 : Int32)) else (f_X6_atAll_25 g p0 10 (-4 : Int32) (0 : Int32) (0 : Int32) (0 : Int32) (0 : Int32))
theorem yk_X6_atAll : yokV yX6_atAll RX6 cX6_atAll 8 (some .int) 1 := ⟨w_1009, w_1007, w_1008, w_8, by decide +kernel⟩
set_option maxHeartbeats 4000000 in
set_option maxRecDepth 100000 in
theorem c_X6_atAll (l : Launch) (z : ZM) (g : Mem) (p0 : Int32) (hI : InM g) : ctM l yX6_atAll cX6_atAll 8 (some .int) 2 42 z g [.ref (yad z 0), .int p0] (qIM z (f_X6_atAll g p0, g)) := by
  refine ct_of (own := RX6) (q := fun r => qIM z (r, g)) (res := f_X6_atAll g p0) (lv := [(0, .ref (yad z 0)), (1, .int p0)]) enokM rfl (by decide) (Nat.le_of_ble_eq_true rfl) rfl (fun p e s m args below meth c C0 hrt hlk => ?_)
  unfold f_X6_atAll
  refine j_iload_n C0 1 dX6_atAll_0 rfl rfl ?_
  refine j_iconst C0 (v := 0) dX6_atAll_1 (by decide) ?_
  refine j_iconst C0 (v := 1) dX6_atAll_2 (by decide) ?_
  refine j_callSi C0 (c_X6_isIn l z _ _ _ _) yk_X6_isIn w_872 ⟨Nat.le_of_ble_eq_true rfl, Nat.le_of_ble_eq_true rfl⟩ rfl rfl (Nat.le_of_ble_eq_true rfl) dX6_atAll_3 ?_
  refine j_if_ne C0 11 dX6_atAll_6 (by decide) (fun c_6 => ?_) (fun c_6 => ?_)
  · refine j_iconst C0 (v := (-1)) dX6_atAll_9 (by decide) ?_
    exact j_iretP C0 hrt hlk dX6_atAll_10
  · refine j_bipush C0 (v := (-4)) dX6_atAll_11 (by decide) ?_
    refine j_istore_n C0 (lv' := [(2, _), (0, _), (1, _)]) dX6_atAll_13 rfl (by decide) rfl ?_
    refine j_iconst C0 (v := 0) dX6_atAll_14 (by decide) ?_
    refine j_istore_n C0 (lv' := [(3, _), (2, _), (0, _), (1, _)]) dX6_atAll_15 rfl (by decide) rfl ?_
    refine j_iconst C0 (v := 0) dX6_atAll_16 (by decide) ?_
    refine j_istore C0 (lv' := [(4, _), (3, _), (2, _), (0, _), (1, _)]) dX6_atAll_17 (by decide) rfl ?_
    refine j_iconst C0 (v := 0) dX6_atAll_19 (by decide) ?_
    refine j_istore C0 (lv' := [(5, _), (4, _), (3, _), (2, _), (0, _), (1, _)]) dX6_atAll_20 (by decide) rfl ?_
    refine j_iconst C0 (v := 0) dX6_atAll_22 (by decide) ?_
    refine j_istore C0 (lv' := [(6, _), (5, _), (4, _), (3, _), (2, _), (0, _), (1, _)]) dX6_atAll_23 (by decide) rfl ?_
    have L25 : ∀ (n0 : Nat) (a2 : Int32) (a3 : Int32) (a4 : Int32) (a5 : Int32) (a6 : Int32), lc a6 (g 1 0) n0 → (a2 < 0 ∨ vp_in a2 9) → jj p l e { frames := 2, cells := 0, slots := 0, locals := 42 } s m args below meth c (yA z) (yD z) 14 (yad z) (celM z) 8 (fun r => MQ below (qIM z (r, g)) args s 0 0 (yA z)) (f_X6_atAll_25 g p0 n0 a2 a3 a4 a5 a6) g 25 [(0, .ref (yad z 0)), (1, .int p0), (2, .int a2), (3, .int a3), (4, .int a4), (5, .int a5), (6, .int a6)] [] := by
      intro n0
      induction n0 with
      | zero => intro a2 a3 a4 a5 a6 hL hb; exact absurd hL.2 (Nat.not_lt_zero _)
      | succ n0 ih0 =>
        intro a2 a3 a4 a5 a6 hL hb
        rw [f_X6_atAll_25]
        refine j_iload C0 6 dX6_atAll_25 rfl ?_
        refine j_aload_n C0 0 dX6_atAll_27 rfl rfl ?_
        refine g_Model_s C0 w_800 dX6_atAll_28 ?_
        refine j_iconst C0 (v := 0) dX6_atAll_31 (by decide) ?_
        refine a_Ml C0 (by decide) ixl_0 vl57_0 dX6_atAll_32 ?_
        refine j_icmp_ge C0 166 dX6_atAll_33 (by decide) (fun c_33 => ?_) (fun c_33 => ?_)
        · refine j_iload_n C0 1 dX6_atAll_166 rfl rfl ?_
          refine j_iconst C0 (v := 1) dX6_atAll_167 (by decide) ?_
          refine j_icmp_ne C0 173 dX6_atAll_168 (by decide) (fun c_168 => ?_) (fun c_168 => ?_)
          · refine j_iload_n C0 2 dX6_atAll_171 rfl rfl ?_
            exact j_iretP C0 hrt hlk dX6_atAll_172
          · refine j_aload_n C0 0 dX6_atAll_173 rfl rfl ?_
            refine g_Model_s C0 w_800 dX6_atAll_174 ?_
            refine j_iconst C0 (v := 1) dX6_atAll_177 (by decide) ?_
            refine a_Ml C0 (by decide) ixl_1 vl57_1 dX6_atAll_178 ?_
            refine j_iload C0 5 dX6_atAll_179 rfl ?_
            refine j_if_le C0 188 dX6_atAll_181 (by decide) (fun c_181 => ?_) (fun c_181 => ?_)
            · refine j_iload C0 4 dX6_atAll_188 rfl ?_
              refine j_if_le C0 199 dX6_atAll_190 (by decide) (fun c_190 => ?_) (fun c_190 => ?_)
              · refine j_iconst C0 (v := 0) dX6_atAll_199 (by decide) ?_
                refine j_callSi C0 (c_X6_least l z _ _ _) yk_X6_least w_925 ⟨Nat.le_of_ble_eq_true rfl, Nat.le_of_ble_eq_true rfl⟩ rfl rfl (Nat.le_of_ble_eq_true rfl) dX6_atAll_200 ?_
                exact j_iretP C0 hrt hlk dX6_atAll_203
              · refine j_iload_n C0 3 dX6_atAll_193 rfl rfl ?_
                refine j_iconst C0 (v := 1) dX6_atAll_194 (by decide) ?_
                refine j_isub C0 dX6_atAll_195 ?_
                refine j_goto C0 200 dX6_atAll_196 (by decide) ?_
                refine j_callSi C0 (c_X6_least l z _ _ _) yk_X6_least w_925 ⟨Nat.le_of_ble_eq_true rfl, Nat.le_of_ble_eq_true rfl⟩ rfl rfl (Nat.le_of_ble_eq_true rfl) dX6_atAll_200 ?_
                exact j_iretP C0 hrt hlk dX6_atAll_203
            · refine j_iload_n C0 3 dX6_atAll_184 rfl rfl ?_
              refine j_goto C0 200 dX6_atAll_185 (by decide) ?_
              refine j_callSi C0 (c_X6_least l z _ _ _) yk_X6_least w_925 ⟨Nat.le_of_ble_eq_true rfl, Nat.le_of_ble_eq_true rfl⟩ rfl rfl (Nat.le_of_ble_eq_true rfl) dX6_atAll_200 ?_
              exact j_iretP C0 hrt hlk dX6_atAll_203
        · have hv_a6 : vp_in a6 9 := vin_lc hL c_33 (InM_s9 hI)
          refine j_aload_n C0 0 dX6_atAll_36 rfl rfl ?_
          refine g_Model_s C0 w_800 dX6_atAll_37 ?_
          refine j_iload C0 6 dX6_atAll_40 rfl ?_
          refine j_iconst C0 (v := 2) dX6_atAll_42 (by decide) ?_
          refine j_callSi C0 (c_X6_of l z _ _ _) yk_X6_of w_897 ⟨Nat.le_of_ble_eq_true rfl, Nat.le_of_ble_eq_true rfl⟩ rfl rfl (Nat.le_of_ble_eq_true rfl) dX6_atAll_43 ?_
          refine a_M C0 (by decide) (of_in2 hv_a6) dX6_atAll_46 ?_
          refine j_if_le C0 68 dX6_atAll_47 (by decide) (fun c_47 => ?_) (fun c_47 => ?_)
          · refine j_iconst C0 (v := 0) dX6_atAll_68 (by decide) ?_
            refine j_istore C0 (lv' := [(7, _), (0, _), (1, _), (2, _), (3, _), (4, _), (5, _), (6, _)]) dX6_atAll_69 (by decide) rfl ?_
            refine j_iload_n C0 4 dX6_atAll_71 rfl rfl ?_
            refine j_iload C0 0 dX6_atAll_72 rfl ?_
            refine j_if_eqT C0 81 dX6_atAll_74 (by decide) (by decide) ?_
            refine j_iconst C0 (v := 0) dX6_atAll_81 (by decide) ?_
            refine j_iadd C0 dX6_atAll_82 ?_
            refine j_istore_n C0 (lv' := [(3, _), (7, _), (0, _), (1, _), (2, _), (4, _), (5, _), (6, _)]) dX6_atAll_83 rfl (by decide) rfl ?_
            refine j_aload_n C0 2 dX6_atAll_84 rfl rfl ?_
            refine g_Model_s C0 w_800 dX6_atAll_85 ?_
            refine j_iload C0 7 dX6_atAll_88 rfl ?_
            refine j_callSi C0 (c_X6_canLook l z _ 1 rw4_1 _ hv_a6) yk_X6_canLook w_907 ⟨Nat.le_of_ble_eq_true rfl, Nat.le_of_ble_eq_true rfl⟩ rfl rfl (Nat.le_of_ble_eq_true rfl) dX6_atAll_90 ?_
            refine j_if_ne C0 99 dX6_atAll_93 (by decide) (fun c_93 => ?_) (fun c_93 => ?_)
            · refine j_goto C0 160 dX6_atAll_96 (by decide) ?_
              refine j_iinc C0 (lv' := [(6, _), (3, _), (7, _), (0, _), (1, _), (2, _), (4, _), (5, _)]) (v := _ + (1)) 7 dX6_atAll_160 rfl (by rfl) (by decide) rfl ?_
              refine j_goto C0 25 dX6_atAll_163 (by decide) ?_
              exact j_sub [3, 4, 5, 1, 6, 7, 0] rfl (ih0 _ _ _ _ _ (lc_stepN hL c_33) (by first | exact hb | exact Or.inr hv_a6))
            · refine j_iload C0 5 dX6_atAll_99 rfl ?_
              refine j_iload C0 1 dX6_atAll_101 rfl ?_
              refine j_if_eqT C0 110 dX6_atAll_103 (by decide) (by decide) ?_
              refine j_iconst C0 (v := 0) dX6_atAll_110 (by decide) ?_
              refine j_iadd C0 dX6_atAll_111 ?_
              refine j_istore C0 (lv' := [(4, _), (3, _), (7, _), (0, _), (1, _), (2, _), (5, _), (6, _)]) dX6_atAll_112 (by decide) rfl ?_
              refine j_iload C0 6 dX6_atAll_114 rfl ?_
              refine j_iload C0 2 dX6_atAll_116 rfl ?_
              refine j_if_eqT C0 125 dX6_atAll_118 (by decide) (by decide) ?_
              refine j_iconst C0 (v := 1) dX6_atAll_125 (by decide) ?_
              refine j_iadd C0 dX6_atAll_126 ?_
              refine j_istore C0 (lv' := [(5, _), (4, _), (3, _), (7, _), (0, _), (1, _), (2, _), (6, _)]) dX6_atAll_127 (by decide) rfl ?_
              refine j_iload_n C0 6 dX6_atAll_129 rfl rfl ?_
              refine j_if_lt C0 157 dX6_atAll_130 (by decide) (fun c_130 => ?_) (fun c_130 => ?_)
              · refine j_iload C0 7 dX6_atAll_157 rfl ?_
                refine j_istore_n C0 (lv' := [(2, _), (5, _), (4, _), (3, _), (7, _), (0, _), (1, _), (6, _)]) dX6_atAll_159 rfl (by decide) rfl ?_
                refine j_iinc C0 (lv' := [(6, _), (2, _), (5, _), (4, _), (3, _), (7, _), (0, _), (1, _)]) (v := _ + (1)) 7 dX6_atAll_160 rfl (by rfl) (by decide) rfl ?_
                refine j_goto C0 25 dX6_atAll_163 (by decide) ?_
                exact j_sub [6, 7, 1, 4, 3, 2, 0] rfl (ih0 _ _ _ _ _ (lc_stepN hL c_33) (by first | exact hb | exact Or.inr hv_a6))
              · refine j_aload_n C0 4 dX6_atAll_133 rfl rfl ?_
                refine g_Model_s C0 w_800 dX6_atAll_134 ?_
                refine j_iload C0 7 dX6_atAll_137 rfl ?_
                refine j_iconst C0 (v := 2) dX6_atAll_139 (by decide) ?_
                refine j_callSi C0 (c_X6_of l z _ _ _) yk_X6_of w_897 ⟨Nat.le_of_ble_eq_true rfl, Nat.le_of_ble_eq_true rfl⟩ rfl rfl (Nat.le_of_ble_eq_true rfl) dX6_atAll_140 ?_
                refine a_M C0 (by decide) (of_in2 hv_a6) dX6_atAll_143 ?_
                refine j_aload_n C0 4 dX6_atAll_144 rfl rfl ?_
                refine g_Model_s C0 w_800 dX6_atAll_145 ?_
                refine j_iload_n C0 6 dX6_atAll_148 rfl rfl ?_
                refine j_iconst C0 (v := 2) dX6_atAll_149 (by decide) ?_
                refine j_callSi C0 (c_X6_of l z _ _ _) yk_X6_of w_897 ⟨Nat.le_of_ble_eq_true rfl, Nat.le_of_ble_eq_true rfl⟩ rfl rfl (Nat.le_of_ble_eq_true rfl) dX6_atAll_150 ?_
                refine a_M C0 (by decide) (of_in2 (hb.resolve_left c_130)) dX6_atAll_153 ?_
                refine j_icmp_ge C0 160 dX6_atAll_154 (by decide) (fun c_154 => ?_) (fun c_154 => ?_)
                · refine j_iinc C0 (lv' := [(6, _), (5, _), (4, _), (3, _), (7, _), (0, _), (1, _), (2, _)]) (v := _ + (1)) 7 dX6_atAll_160 rfl (by rfl) (by decide) rfl ?_
                  refine j_goto C0 25 dX6_atAll_163 (by decide) ?_
                  exact j_sub [5, 6, 7, 3, 2, 1, 0] rfl (ih0 _ _ _ _ _ (lc_stepN hL c_33) (by first | exact hb | exact Or.inr hv_a6))
                · refine j_iload C0 7 dX6_atAll_157 rfl ?_
                  refine j_istore_n C0 (lv' := [(2, _), (5, _), (4, _), (3, _), (7, _), (0, _), (1, _), (6, _)]) dX6_atAll_159 rfl (by decide) rfl ?_
                  refine j_iinc C0 (lv' := [(6, _), (2, _), (5, _), (4, _), (3, _), (7, _), (0, _), (1, _)]) (v := _ + (1)) 7 dX6_atAll_160 rfl (by rfl) (by decide) rfl ?_
                  refine j_goto C0 25 dX6_atAll_163 (by decide) ?_
                  exact j_sub [6, 7, 1, 4, 3, 2, 0] rfl (ih0 _ _ _ _ _ (lc_stepN hL c_33) (by first | exact hb | exact Or.inr hv_a6))
          · refine j_aload_n C0 0 dX6_atAll_50 rfl rfl ?_
            refine g_Model_s C0 w_800 dX6_atAll_51 ?_
            refine j_iload C0 6 dX6_atAll_54 rfl ?_
            refine j_iconst C0 (v := 4) dX6_atAll_56 (by decide) ?_
            refine j_callSi C0 (c_X6_of l z _ _ _) yk_X6_of w_897 ⟨Nat.le_of_ble_eq_true rfl, Nat.le_of_ble_eq_true rfl⟩ rfl rfl (Nat.le_of_ble_eq_true rfl) dX6_atAll_57 ?_
            refine a_M C0 (by decide) (of_in4 hv_a6) dX6_atAll_60 ?_
            refine j_if_ne C0 68 dX6_atAll_61 (by decide) (fun c_61 => ?_) (fun c_61 => ?_)
            · refine j_iconst C0 (v := 1) dX6_atAll_64 (by decide) ?_
              refine j_goto C0 69 dX6_atAll_65 (by decide) ?_
              refine j_istore C0 (lv' := [(7, _), (0, _), (1, _), (2, _), (3, _), (4, _), (5, _), (6, _)]) dX6_atAll_69 (by decide) rfl ?_
              refine j_iload_n C0 4 dX6_atAll_71 rfl rfl ?_
              refine j_iload C0 0 dX6_atAll_72 rfl ?_
              refine j_if_eqF C0 81 dX6_atAll_74 (by decide) (by decide) ?_
              refine j_iconst C0 (v := 1) dX6_atAll_77 (by decide) ?_
              refine j_goto C0 82 dX6_atAll_78 (by decide) ?_
              refine j_iadd C0 dX6_atAll_82 ?_
              refine j_istore_n C0 (lv' := [(3, _), (7, _), (0, _), (1, _), (2, _), (4, _), (5, _), (6, _)]) dX6_atAll_83 rfl (by decide) rfl ?_
              refine j_aload_n C0 2 dX6_atAll_84 rfl rfl ?_
              refine g_Model_s C0 w_800 dX6_atAll_85 ?_
              refine j_iload C0 7 dX6_atAll_88 rfl ?_
              refine j_callSi C0 (c_X6_canLook l z _ 1 rw4_1 _ hv_a6) yk_X6_canLook w_907 ⟨Nat.le_of_ble_eq_true rfl, Nat.le_of_ble_eq_true rfl⟩ rfl rfl (Nat.le_of_ble_eq_true rfl) dX6_atAll_90 ?_
              refine j_if_ne C0 99 dX6_atAll_93 (by decide) (fun c_93 => ?_) (fun c_93 => ?_)
              · refine j_goto C0 160 dX6_atAll_96 (by decide) ?_
                refine j_iinc C0 (lv' := [(6, _), (3, _), (7, _), (0, _), (1, _), (2, _), (4, _), (5, _)]) (v := _ + (1)) 7 dX6_atAll_160 rfl (by rfl) (by decide) rfl ?_
                refine j_goto C0 25 dX6_atAll_163 (by decide) ?_
                exact j_sub [3, 4, 5, 1, 6, 7, 0] rfl (ih0 _ _ _ _ _ (lc_stepN hL c_33) (by first | exact hb | exact Or.inr hv_a6))
              · refine j_iload C0 5 dX6_atAll_99 rfl ?_
                refine j_iload C0 1 dX6_atAll_101 rfl ?_
                refine j_if_eqF C0 110 dX6_atAll_103 (by decide) (by decide) ?_
                refine j_iconst C0 (v := 1) dX6_atAll_106 (by decide) ?_
                refine j_goto C0 111 dX6_atAll_107 (by decide) ?_
                refine j_iadd C0 dX6_atAll_111 ?_
                refine j_istore C0 (lv' := [(4, _), (3, _), (7, _), (0, _), (1, _), (2, _), (5, _), (6, _)]) dX6_atAll_112 (by decide) rfl ?_
                refine j_iload C0 6 dX6_atAll_114 rfl ?_
                refine j_iload C0 2 dX6_atAll_116 rfl ?_
                refine j_if_eqF C0 125 dX6_atAll_118 (by decide) (by decide) ?_
                refine j_iconst C0 (v := 0) dX6_atAll_121 (by decide) ?_
                refine j_goto C0 126 dX6_atAll_122 (by decide) ?_
                refine j_iadd C0 dX6_atAll_126 ?_
                refine j_istore C0 (lv' := [(5, _), (4, _), (3, _), (7, _), (0, _), (1, _), (2, _), (6, _)]) dX6_atAll_127 (by decide) rfl ?_
                refine j_iload_n C0 6 dX6_atAll_129 rfl rfl ?_
                refine j_if_lt C0 157 dX6_atAll_130 (by decide) (fun c_130 => ?_) (fun c_130 => ?_)
                · refine j_iload C0 7 dX6_atAll_157 rfl ?_
                  refine j_istore_n C0 (lv' := [(2, _), (5, _), (4, _), (3, _), (7, _), (0, _), (1, _), (6, _)]) dX6_atAll_159 rfl (by decide) rfl ?_
                  refine j_iinc C0 (lv' := [(6, _), (2, _), (5, _), (4, _), (3, _), (7, _), (0, _), (1, _)]) (v := _ + (1)) 7 dX6_atAll_160 rfl (by rfl) (by decide) rfl ?_
                  refine j_goto C0 25 dX6_atAll_163 (by decide) ?_
                  exact j_sub [6, 7, 1, 4, 3, 2, 0] rfl (ih0 _ _ _ _ _ (lc_stepN hL c_33) (by first | exact hb | exact Or.inr hv_a6))
                · refine j_aload_n C0 4 dX6_atAll_133 rfl rfl ?_
                  refine g_Model_s C0 w_800 dX6_atAll_134 ?_
                  refine j_iload C0 7 dX6_atAll_137 rfl ?_
                  refine j_iconst C0 (v := 2) dX6_atAll_139 (by decide) ?_
                  refine j_callSi C0 (c_X6_of l z _ _ _) yk_X6_of w_897 ⟨Nat.le_of_ble_eq_true rfl, Nat.le_of_ble_eq_true rfl⟩ rfl rfl (Nat.le_of_ble_eq_true rfl) dX6_atAll_140 ?_
                  refine a_M C0 (by decide) (of_in2 hv_a6) dX6_atAll_143 ?_
                  refine j_aload_n C0 4 dX6_atAll_144 rfl rfl ?_
                  refine g_Model_s C0 w_800 dX6_atAll_145 ?_
                  refine j_iload_n C0 6 dX6_atAll_148 rfl rfl ?_
                  refine j_iconst C0 (v := 2) dX6_atAll_149 (by decide) ?_
                  refine j_callSi C0 (c_X6_of l z _ _ _) yk_X6_of w_897 ⟨Nat.le_of_ble_eq_true rfl, Nat.le_of_ble_eq_true rfl⟩ rfl rfl (Nat.le_of_ble_eq_true rfl) dX6_atAll_150 ?_
                  refine a_M C0 (by decide) (of_in2 (hb.resolve_left c_130)) dX6_atAll_153 ?_
                  refine j_icmp_ge C0 160 dX6_atAll_154 (by decide) (fun c_154 => ?_) (fun c_154 => ?_)
                  · refine j_iinc C0 (lv' := [(6, _), (5, _), (4, _), (3, _), (7, _), (0, _), (1, _), (2, _)]) (v := _ + (1)) 7 dX6_atAll_160 rfl (by rfl) (by decide) rfl ?_
                    refine j_goto C0 25 dX6_atAll_163 (by decide) ?_
                    exact j_sub [5, 6, 7, 3, 2, 1, 0] rfl (ih0 _ _ _ _ _ (lc_stepN hL c_33) (by first | exact hb | exact Or.inr hv_a6))
                  · refine j_iload C0 7 dX6_atAll_157 rfl ?_
                    refine j_istore_n C0 (lv' := [(2, _), (5, _), (4, _), (3, _), (7, _), (0, _), (1, _), (6, _)]) dX6_atAll_159 rfl (by decide) rfl ?_
                    refine j_iinc C0 (lv' := [(6, _), (2, _), (5, _), (4, _), (3, _), (7, _), (0, _), (1, _)]) (v := _ + (1)) 7 dX6_atAll_160 rfl (by rfl) (by decide) rfl ?_
                    refine j_goto C0 25 dX6_atAll_163 (by decide) ?_
                    exact j_sub [6, 7, 1, 4, 3, 2, 0] rfl (ih0 _ _ _ _ _ (lc_stepN hL c_33) (by first | exact hb | exact Or.inr hv_a6))
            · refine j_iconst C0 (v := 0) dX6_atAll_68 (by decide) ?_
              refine j_istore C0 (lv' := [(7, _), (0, _), (1, _), (2, _), (3, _), (4, _), (5, _), (6, _)]) dX6_atAll_69 (by decide) rfl ?_
              refine j_iload_n C0 4 dX6_atAll_71 rfl rfl ?_
              refine j_iload C0 0 dX6_atAll_72 rfl ?_
              refine j_if_eqT C0 81 dX6_atAll_74 (by decide) (by decide) ?_
              refine j_iconst C0 (v := 0) dX6_atAll_81 (by decide) ?_
              refine j_iadd C0 dX6_atAll_82 ?_
              refine j_istore_n C0 (lv' := [(3, _), (7, _), (0, _), (1, _), (2, _), (4, _), (5, _), (6, _)]) dX6_atAll_83 rfl (by decide) rfl ?_
              refine j_aload_n C0 2 dX6_atAll_84 rfl rfl ?_
              refine g_Model_s C0 w_800 dX6_atAll_85 ?_
              refine j_iload C0 7 dX6_atAll_88 rfl ?_
              refine j_callSi C0 (c_X6_canLook l z _ 1 rw4_1 _ hv_a6) yk_X6_canLook w_907 ⟨Nat.le_of_ble_eq_true rfl, Nat.le_of_ble_eq_true rfl⟩ rfl rfl (Nat.le_of_ble_eq_true rfl) dX6_atAll_90 ?_
              refine j_if_ne C0 99 dX6_atAll_93 (by decide) (fun c_93 => ?_) (fun c_93 => ?_)
              · refine j_goto C0 160 dX6_atAll_96 (by decide) ?_
                refine j_iinc C0 (lv' := [(6, _), (3, _), (7, _), (0, _), (1, _), (2, _), (4, _), (5, _)]) (v := _ + (1)) 7 dX6_atAll_160 rfl (by rfl) (by decide) rfl ?_
                refine j_goto C0 25 dX6_atAll_163 (by decide) ?_
                exact j_sub [3, 4, 5, 1, 6, 7, 0] rfl (ih0 _ _ _ _ _ (lc_stepN hL c_33) (by first | exact hb | exact Or.inr hv_a6))
              · refine j_iload C0 5 dX6_atAll_99 rfl ?_
                refine j_iload C0 1 dX6_atAll_101 rfl ?_
                refine j_if_eqT C0 110 dX6_atAll_103 (by decide) (by decide) ?_
                refine j_iconst C0 (v := 0) dX6_atAll_110 (by decide) ?_
                refine j_iadd C0 dX6_atAll_111 ?_
                refine j_istore C0 (lv' := [(4, _), (3, _), (7, _), (0, _), (1, _), (2, _), (5, _), (6, _)]) dX6_atAll_112 (by decide) rfl ?_
                refine j_iload C0 6 dX6_atAll_114 rfl ?_
                refine j_iload C0 2 dX6_atAll_116 rfl ?_
                refine j_if_eqT C0 125 dX6_atAll_118 (by decide) (by decide) ?_
                refine j_iconst C0 (v := 1) dX6_atAll_125 (by decide) ?_
                refine j_iadd C0 dX6_atAll_126 ?_
                refine j_istore C0 (lv' := [(5, _), (4, _), (3, _), (7, _), (0, _), (1, _), (2, _), (6, _)]) dX6_atAll_127 (by decide) rfl ?_
                refine j_iload_n C0 6 dX6_atAll_129 rfl rfl ?_
                refine j_if_lt C0 157 dX6_atAll_130 (by decide) (fun c_130 => ?_) (fun c_130 => ?_)
                · refine j_iload C0 7 dX6_atAll_157 rfl ?_
                  refine j_istore_n C0 (lv' := [(2, _), (5, _), (4, _), (3, _), (7, _), (0, _), (1, _), (6, _)]) dX6_atAll_159 rfl (by decide) rfl ?_
                  refine j_iinc C0 (lv' := [(6, _), (2, _), (5, _), (4, _), (3, _), (7, _), (0, _), (1, _)]) (v := _ + (1)) 7 dX6_atAll_160 rfl (by rfl) (by decide) rfl ?_
                  refine j_goto C0 25 dX6_atAll_163 (by decide) ?_
                  exact j_sub [6, 7, 1, 4, 3, 2, 0] rfl (ih0 _ _ _ _ _ (lc_stepN hL c_33) (by first | exact hb | exact Or.inr hv_a6))
                · refine j_aload_n C0 4 dX6_atAll_133 rfl rfl ?_
                  refine g_Model_s C0 w_800 dX6_atAll_134 ?_
                  refine j_iload C0 7 dX6_atAll_137 rfl ?_
                  refine j_iconst C0 (v := 2) dX6_atAll_139 (by decide) ?_
                  refine j_callSi C0 (c_X6_of l z _ _ _) yk_X6_of w_897 ⟨Nat.le_of_ble_eq_true rfl, Nat.le_of_ble_eq_true rfl⟩ rfl rfl (Nat.le_of_ble_eq_true rfl) dX6_atAll_140 ?_
                  refine a_M C0 (by decide) (of_in2 hv_a6) dX6_atAll_143 ?_
                  refine j_aload_n C0 4 dX6_atAll_144 rfl rfl ?_
                  refine g_Model_s C0 w_800 dX6_atAll_145 ?_
                  refine j_iload_n C0 6 dX6_atAll_148 rfl rfl ?_
                  refine j_iconst C0 (v := 2) dX6_atAll_149 (by decide) ?_
                  refine j_callSi C0 (c_X6_of l z _ _ _) yk_X6_of w_897 ⟨Nat.le_of_ble_eq_true rfl, Nat.le_of_ble_eq_true rfl⟩ rfl rfl (Nat.le_of_ble_eq_true rfl) dX6_atAll_150 ?_
                  refine a_M C0 (by decide) (of_in2 (hb.resolve_left c_130)) dX6_atAll_153 ?_
                  refine j_icmp_ge C0 160 dX6_atAll_154 (by decide) (fun c_154 => ?_) (fun c_154 => ?_)
                  · refine j_iinc C0 (lv' := [(6, _), (5, _), (4, _), (3, _), (7, _), (0, _), (1, _), (2, _)]) (v := _ + (1)) 7 dX6_atAll_160 rfl (by rfl) (by decide) rfl ?_
                    refine j_goto C0 25 dX6_atAll_163 (by decide) ?_
                    exact j_sub [5, 6, 7, 3, 2, 1, 0] rfl (ih0 _ _ _ _ _ (lc_stepN hL c_33) (by first | exact hb | exact Or.inr hv_a6))
                  · refine j_iload C0 7 dX6_atAll_157 rfl ?_
                    refine j_istore_n C0 (lv' := [(2, _), (5, _), (4, _), (3, _), (7, _), (0, _), (1, _), (6, _)]) dX6_atAll_159 rfl (by decide) rfl ?_
                    refine j_iinc C0 (lv' := [(6, _), (2, _), (5, _), (4, _), (3, _), (7, _), (0, _), (1, _)]) (v := _ + (1)) 7 dX6_atAll_160 rfl (by rfl) (by decide) rfl ?_
                    refine j_goto C0 25 dX6_atAll_163 (by decide) ?_
                    exact j_sub [6, 7, 1, 4, 3, 2, 0] rfl (ih0 _ _ _ _ _ (lc_stepN hL c_33) (by first | exact hb | exact Or.inr hv_a6))
    exact j_sub [5, 6, 4, 3, 2, 1, 0] rfl (L25 10 _ _ _ _ _ (lc_0 (by have := (InM_s9 hI); omega) (by decide)) (Or.inl (by decide)))
def f_X6_count_32 (g : Mem) (p0 : Int32) : Nat → Int32 → Int32 → Int32
  | 0, _, _ => 0
  | n0 + 1, a2, a3 => if (g 1 0) ≤ a3 then (a2) else (if p0 = (3 : Int32) then (f_X6_count_32 g p0 n0 (a2 + (g 1 (ix (f_X6_of a3 (2 : Int32))))) (a3 + (1 : Int32))) else (if p0 = (4 : Int32) then (f_X6_count_32 g p0 n0 (a2 + (g 1 (ix (f_X6_of a3 (3 : Int32))))) (a3 + (1 : Int32))) else (if p0 = (5 : Int32) then (f_X6_count_32 g p0 n0 (a2 + (g 1 (ix (f_X6_of a3 (4 : Int32))))) (a3 + (1 : Int32))) else (if (g 1 (ix (f_X6_of a3 (4 : Int32)))) = 0 then (f_X6_count_32 g p0 n0 (a2 + ((1 : Int32) <<< (a3 &&& 31))) (a3 + (1 : Int32))) else (f_X6_count_32 g p0 n0 (a2 + (0 : Int32)) (a3 + (1 : Int32)))))))
def f_X6_count (g : Mem) (p0 : Int32) : Int32 := if (f_X6_isIn p0 (0 : Int32) (2 : Int32)) = 0 then (if (f_X6_isIn p0 (3 : Int32) (6 : Int32)) = 0 then ((-1 : Int32)) else (f_X6_count_32 g p0 10 (0 : Int32) (0 : Int32))) else ((g 1 (ix p0)))
theorem yk_X6_count : yokV yX6_count RX6 cX6_count 4 (some .int) 1 := ⟨w_1126, w_1124, w_1125, w_8, by decide +kernel⟩
set_option maxHeartbeats 4000000 in
set_option maxRecDepth 100000 in
theorem c_X6_count (l : Launch) (z : ZM) (g : Mem) (p0 : Int32) (hI : InM g) : ctM l yX6_count cX6_count 4 (some .int) 1 22 z g [.ref (yad z 0), .int p0] (qIM z (f_X6_count g p0, g)) := by
  refine ct_of (own := RX6) (q := fun r => qIM z (r, g)) (res := f_X6_count g p0) (lv := [(0, .ref (yad z 0)), (1, .int p0)]) enokM rfl (by decide) (Nat.le_of_ble_eq_true rfl) rfl (fun p e s m args below meth c C0 hrt hlk => ?_)
  unfold f_X6_count
  refine j_iload_n C0 1 dX6_count_0 rfl rfl ?_
  refine j_iconst C0 (v := 0) dX6_count_1 (by decide) ?_
  refine j_iconst C0 (v := 2) dX6_count_2 (by decide) ?_
  refine j_callSi C0 (c_X6_isIn l z _ _ _ _) yk_X6_isIn w_872 ⟨Nat.le_of_ble_eq_true rfl, Nat.le_of_ble_eq_true rfl⟩ rfl rfl (Nat.le_of_ble_eq_true rfl) dX6_count_3 ?_
  refine j_if_eq C0 16 dX6_count_6 (by decide) (fun c_6 => ?_) (fun c_6 => ?_)
  · refine j_iload_n C0 1 dX6_count_16 rfl rfl ?_
    refine j_iconst C0 (v := 3) dX6_count_17 (by decide) ?_
    refine j_bipush C0 (v := 6) dX6_count_18 (by decide) ?_
    refine j_callSi C0 (c_X6_isIn l z _ _ _ _) yk_X6_isIn w_872 ⟨Nat.le_of_ble_eq_true rfl, Nat.le_of_ble_eq_true rfl⟩ rfl rfl (Nat.le_of_ble_eq_true rfl) dX6_count_20 ?_
    refine j_if_ne C0 28 dX6_count_23 (by decide) (fun c_23 => ?_) (fun c_23 => ?_)
    · refine j_iconst C0 (v := (-1)) dX6_count_26 (by decide) ?_
      exact j_iretP C0 hrt hlk dX6_count_27
    · refine j_iconst C0 (v := 0) dX6_count_28 (by decide) ?_
      refine j_istore_n C0 (lv' := [(2, _), (0, _), (1, _)]) dX6_count_29 rfl (by decide) rfl ?_
      refine j_iconst C0 (v := 0) dX6_count_30 (by decide) ?_
      refine j_istore_n C0 (lv' := [(3, _), (2, _), (0, _), (1, _)]) dX6_count_31 rfl (by decide) rfl ?_
      have L32 : ∀ (n0 : Nat) (a2 : Int32) (a3 : Int32), lc a3 (g 1 0) n0 → jj p l e { frames := 1, cells := 0, slots := 0, locals := 22 } s m args below meth c (yA z) (yD z) 14 (yad z) (celM z) 4 (fun r => MQ below (qIM z (r, g)) args s 0 0 (yA z)) (f_X6_count_32 g p0 n0 a2 a3) g 32 [(0, .ref (yad z 0)), (1, .int p0), (2, .int a2), (3, .int a3)] [] := by
        intro n0
        induction n0 with
        | zero => intro a2 a3 hL; exact absurd hL.2 (Nat.not_lt_zero _)
        | succ n0 ih0 =>
          intro a2 a3 hL
          rw [f_X6_count_32]
          refine j_iload_n C0 3 dX6_count_32 rfl rfl ?_
          refine j_aload_n C0 0 dX6_count_33 rfl rfl ?_
          refine g_Model_s C0 w_800 dX6_count_34 ?_
          refine j_iconst C0 (v := 0) dX6_count_37 (by decide) ?_
          refine a_Ml C0 (by decide) ixl_0 vl57_0 dX6_count_38 ?_
          refine j_icmp_ge C0 125 dX6_count_39 (by decide) (fun c_39 => ?_) (fun c_39 => ?_)
          · refine j_iload_n C0 2 dX6_count_125 rfl rfl ?_
            exact j_iretP C0 hrt hlk dX6_count_126
          · have hv_a3 : vp_in a3 9 := vin_lc hL c_39 (InM_s9 hI)
            refine j_iload_n C0 2 dX6_count_42 rfl rfl ?_
            refine j_iload_n C0 1 dX6_count_43 rfl rfl ?_
            refine j_iconst C0 (v := 3) dX6_count_44 (by decide) ?_
            refine j_icmp_ne C0 61 dX6_count_45 (by decide) (fun c_45 => ?_) (fun c_45 => ?_)
            · refine j_aload_n C0 0 dX6_count_48 rfl rfl ?_
              refine g_Model_s C0 w_800 dX6_count_49 ?_
              refine j_iload_n C0 3 dX6_count_52 rfl rfl ?_
              refine j_iconst C0 (v := 2) dX6_count_53 (by decide) ?_
              refine j_callSi C0 (c_X6_of l z _ _ _) yk_X6_of w_897 ⟨Nat.le_of_ble_eq_true rfl, Nat.le_of_ble_eq_true rfl⟩ rfl rfl (Nat.le_of_ble_eq_true rfl) dX6_count_54 ?_
              refine a_M C0 (by decide) (of_in2 hv_a3) dX6_count_57 ?_
              refine j_goto C0 117 dX6_count_58 (by decide) ?_
              refine j_iadd C0 dX6_count_117 ?_
              refine j_istore_n C0 (lv' := [(2, _), (0, _), (1, _), (3, _)]) dX6_count_118 rfl (by decide) rfl ?_
              refine j_iinc C0 (lv' := [(3, _), (2, _), (0, _), (1, _)]) (v := _ + (1)) 3 dX6_count_119 rfl (by rfl) (by decide) rfl ?_
              refine j_goto C0 32 dX6_count_122 (by decide) ?_
              exact j_sub [2, 3, 1, 0] rfl (ih0 _ _ (lc_stepN hL c_39))
            · refine j_iload_n C0 1 dX6_count_61 rfl rfl ?_
              refine j_iconst C0 (v := 4) dX6_count_62 (by decide) ?_
              refine j_icmp_ne C0 79 dX6_count_63 (by decide) (fun c_63 => ?_) (fun c_63 => ?_)
              · refine j_aload_n C0 0 dX6_count_66 rfl rfl ?_
                refine g_Model_s C0 w_800 dX6_count_67 ?_
                refine j_iload_n C0 3 dX6_count_70 rfl rfl ?_
                refine j_iconst C0 (v := 3) dX6_count_71 (by decide) ?_
                refine j_callSi C0 (c_X6_of l z _ _ _) yk_X6_of w_897 ⟨Nat.le_of_ble_eq_true rfl, Nat.le_of_ble_eq_true rfl⟩ rfl rfl (Nat.le_of_ble_eq_true rfl) dX6_count_72 ?_
                refine a_M C0 (by decide) (of_in3 hv_a3) dX6_count_75 ?_
                refine j_goto C0 117 dX6_count_76 (by decide) ?_
                refine j_iadd C0 dX6_count_117 ?_
                refine j_istore_n C0 (lv' := [(2, _), (0, _), (1, _), (3, _)]) dX6_count_118 rfl (by decide) rfl ?_
                refine j_iinc C0 (lv' := [(3, _), (2, _), (0, _), (1, _)]) (v := _ + (1)) 3 dX6_count_119 rfl (by rfl) (by decide) rfl ?_
                refine j_goto C0 32 dX6_count_122 (by decide) ?_
                exact j_sub [2, 3, 1, 0] rfl (ih0 _ _ (lc_stepN hL c_39))
              · refine j_iload_n C0 1 dX6_count_79 rfl rfl ?_
                refine j_iconst C0 (v := 5) dX6_count_80 (by decide) ?_
                refine j_icmp_ne C0 97 dX6_count_81 (by decide) (fun c_81 => ?_) (fun c_81 => ?_)
                · refine j_aload_n C0 0 dX6_count_84 rfl rfl ?_
                  refine g_Model_s C0 w_800 dX6_count_85 ?_
                  refine j_iload_n C0 3 dX6_count_88 rfl rfl ?_
                  refine j_iconst C0 (v := 4) dX6_count_89 (by decide) ?_
                  refine j_callSi C0 (c_X6_of l z _ _ _) yk_X6_of w_897 ⟨Nat.le_of_ble_eq_true rfl, Nat.le_of_ble_eq_true rfl⟩ rfl rfl (Nat.le_of_ble_eq_true rfl) dX6_count_90 ?_
                  refine a_M C0 (by decide) (of_in4 hv_a3) dX6_count_93 ?_
                  refine j_goto C0 117 dX6_count_94 (by decide) ?_
                  refine j_iadd C0 dX6_count_117 ?_
                  refine j_istore_n C0 (lv' := [(2, _), (0, _), (1, _), (3, _)]) dX6_count_118 rfl (by decide) rfl ?_
                  refine j_iinc C0 (lv' := [(3, _), (2, _), (0, _), (1, _)]) (v := _ + (1)) 3 dX6_count_119 rfl (by rfl) (by decide) rfl ?_
                  refine j_goto C0 32 dX6_count_122 (by decide) ?_
                  exact j_sub [2, 3, 1, 0] rfl (ih0 _ _ (lc_stepN hL c_39))
                · refine j_aload_n C0 0 dX6_count_97 rfl rfl ?_
                  refine g_Model_s C0 w_800 dX6_count_98 ?_
                  refine j_iload_n C0 3 dX6_count_101 rfl rfl ?_
                  refine j_iconst C0 (v := 4) dX6_count_102 (by decide) ?_
                  refine j_callSi C0 (c_X6_of l z _ _ _) yk_X6_of w_897 ⟨Nat.le_of_ble_eq_true rfl, Nat.le_of_ble_eq_true rfl⟩ rfl rfl (Nat.le_of_ble_eq_true rfl) dX6_count_103 ?_
                  refine a_M C0 (by decide) (of_in4 hv_a3) dX6_count_106 ?_
                  refine j_if_ne C0 116 dX6_count_107 (by decide) (fun c_107 => ?_) (fun c_107 => ?_)
                  · refine j_iconst C0 (v := 1) dX6_count_110 (by decide) ?_
                    refine j_iload_n C0 3 dX6_count_111 rfl rfl ?_
                    refine j_ishl C0 dX6_count_112 ?_
                    refine j_goto C0 117 dX6_count_113 (by decide) ?_
                    refine j_iadd C0 dX6_count_117 ?_
                    refine j_istore_n C0 (lv' := [(2, _), (0, _), (1, _), (3, _)]) dX6_count_118 rfl (by decide) rfl ?_
                    refine j_iinc C0 (lv' := [(3, _), (2, _), (0, _), (1, _)]) (v := _ + (1)) 3 dX6_count_119 rfl (by rfl) (by decide) rfl ?_
                    refine j_goto C0 32 dX6_count_122 (by decide) ?_
                    exact j_sub [2, 3, 1, 0] rfl (ih0 _ _ (lc_stepN hL c_39))
                  · refine j_iconst C0 (v := 0) dX6_count_116 (by decide) ?_
                    refine j_iadd C0 dX6_count_117 ?_
                    refine j_istore_n C0 (lv' := [(2, _), (0, _), (1, _), (3, _)]) dX6_count_118 rfl (by decide) rfl ?_
                    refine j_iinc C0 (lv' := [(3, _), (2, _), (0, _), (1, _)]) (v := _ + (1)) 3 dX6_count_119 rfl (by rfl) (by decide) rfl ?_
                    refine j_goto C0 32 dX6_count_122 (by decide) ?_
                    exact j_sub [2, 3, 1, 0] rfl (ih0 _ _ (lc_stepN hL c_39))
      exact j_sub [2, 3, 1, 0] rfl (L32 10 _ _ (lc_0 (by have := (InM_s9 hI); omega) (by decide)))
  · refine j_aload_n C0 0 dX6_count_9 rfl rfl ?_
    refine g_Model_s C0 w_800 dX6_count_10 ?_
    refine j_iload_n C0 1 dX6_count_13 rfl rfl ?_
    refine a_M C0 (by decide) (cnt_in c_6) dX6_count_14 ?_
    exact j_iretP C0 hrt hlk dX6_count_15
