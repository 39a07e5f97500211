def f_X6_pairs_m1 (g : Mem) (p0 : Int32) (g_17 : Mem) : Mem := up g_17 0 11 (-1 : Int32)
def f_X6_pairs_m2 (g : Mem) (p0 : Int32) (a2 : Int32) (g_17 : Mem) : Mem := up g_17 6 (ix a2) (9 : Int32)
def f_X6_pairs_17 (g : Mem) (p0 : Int32) : Nat → Int32 → Mem → Int32 × Mem
  | 0, _, _ => (0, g)
  | n0 + 1, a2, g_17 => if (8 : Int32) ≤ a2 then (if 0 ≤ p0 then ((((f_X6_pairsFrom (f_X6_pairs_m1 g p0 g_17) (0 : Int32) (0 : Int32) ((f_X6_pairs_m1 g p0 g_17) 1 1) (0 : Int32)) 7 (ix p0)), (f_X6_pairsFrom (f_X6_pairs_m1 g p0 g_17) (0 : Int32) (0 : Int32) ((f_X6_pairs_m1 g p0 g_17) 1 1) (0 : Int32)))) else ((((f_X6_pairsFrom (f_X6_pairs_m1 g p0 g_17) (0 : Int32) (0 : Int32) ((f_X6_pairs_m1 g p0 g_17) 1 1) (0 : Int32)) 0 11), (f_X6_pairsFrom (f_X6_pairs_m1 g p0 g_17) (0 : Int32) (0 : Int32) ((f_X6_pairs_m1 g p0 g_17) 1 1) (0 : Int32))))) else (f_X6_pairs_17 g p0 n0 (a2 + (1 : Int32)) (f_X6_pairs_m2 g p0 a2 g_17))
def f_X6_pairs_m3 (g : Mem) (p0 : Int32) (g_17 : Mem) : Mem := up g_17 0 11 (-1 : Int32)
def f_X6_pairs_m4 (g : Mem) (p0 : Int32) (a2 : Int32) (g_17 : Mem) : Mem := up g_17 6 (ix a2) (9 : Int32)
def f_X6_pairs (g : Mem) (p0 : Int32) : Int32 × Mem := if p0 = (-1 : Int32) then (f_X6_pairs_17 g p0 9 (0 : Int32) g) else (if (f_X6_isPerson g p0) = 0 then (((-1 : Int32), g)) else (f_X6_pairs_17 g p0 9 (0 : Int32) g))
def r_X6_pairs (g : Mem) (p0 : Int32) : Int32 := (f_X6_pairs g p0).1
def m_X6_pairs (g : Mem) (p0 : Int32) : Mem := (f_X6_pairs g p0).2
theorem e_X6_pairs (g : Mem) (p0 : Int32) : (r_X6_pairs g p0, m_X6_pairs g p0) = f_X6_pairs g p0 := by unfold r_X6_pairs m_X6_pairs; exact pmk_eta _
theorem yk_X6_pairs : yokV yX6_pairs RX6 cX6_pairs 3 (some .int) 1 := ⟨w_997, w_995, w_996, w_8, by decide +kernel⟩
set_option maxHeartbeats 4000000 in
set_option maxRecDepth 100000 in
theorem c_X6_pairs (l : Launch) (z : ZM) (g : Mem) (p0 : Int32) (hI : InM g) : ctM l yX6_pairs cX6_pairs 3 (some .int) 14 366 z g [.ref (yad z 0), .int p0] (qIM z (r_X6_pairs g p0, m_X6_pairs g p0)) := by
  rw [e_X6_pairs]
  refine ct_of (own := RX6) (q := fun r => qIM z r) (res := f_X6_pairs g p0) (lv := [(0, .ref (yad z 0)), (1, .int p0)]) enokM rfl (by decide) (Nat.le_of_ble_eq_true rfl) rfl (fun p e s m args below meth c C0 hrt hlk => ?_)
  unfold f_X6_pairs
  refine j_iload_n C0 1 dX6_pairs_0 rfl rfl ?_
  refine j_iconst C0 (v := (-1)) dX6_pairs_1 (by decide) ?_
  refine j_icmp_eq C0 15 dX6_pairs_2 (by decide) (fun c_2 => ?_) (fun c_2 => ?_)
  · refine j_iconst C0 (v := 0) dX6_pairs_15 (by decide) ?_
    refine j_istore_n C0 (lv' := [(2, _), (0, _), (1, _)]) dX6_pairs_16 rfl (by decide) rfl ?_
    have L17 : ∀ (n0 : Nat) (a2 : Int32) (g_17 : Mem), lc a2 8 n0 → InM g_17 → (0 ≤ p0 → vp_in p0 8) → jj p l e { frames := 14, cells := 0, slots := 0, locals := 366 } s m args below meth c (yA z) (yD z) 14 (yad z) (celM z) 3 (fun r => MQ below (qIM z r) args s 0 0 (yA z)) (f_X6_pairs_17 g p0 n0 a2 g_17) g_17 17 [(0, .ref (yad z 0)), (1, .int p0), (2, .int a2)] [] := by
      intro n0
      induction n0 with
      | zero => intro a2 g_17 hL hIm hm1; exact absurd hL.2 (Nat.not_lt_zero _)
      | succ n0 ih0 =>
        intro a2 g_17 hL hIm hm1
        rw [f_X6_pairs_17]
        refine j_iload_n C0 2 dX6_pairs_17 rfl rfl ?_
        refine j_bipush C0 (v := 8) dX6_pairs_18 (by decide) ?_
        refine j_icmp_ge C0 37 dX6_pairs_20 (by decide) (fun c_20 => ?_) (fun c_20 => ?_)
        · refine j_aload_n C0 0 dX6_pairs_37 rfl rfl ?_
          refine j_iconst C0 (v := (-1)) dX6_pairs_38 (by decide) ?_
          refine p_Model_bestOfPairs C0 w_811 dX6_pairs_39 ?_
          refine j_aload_n C0 0 dX6_pairs_42 rfl rfl ?_
          refine j_iconst C0 (v := 0) dX6_pairs_43 (by decide) ?_
          refine j_iconst C0 (v := 0) dX6_pairs_44 (by decide) ?_
          refine j_aload_n C0 0 dX6_pairs_45 rfl rfl ?_
          refine g_Model_s C0 w_800 dX6_pairs_46 ?_
          refine j_iconst C0 (v := 1) dX6_pairs_49 (by decide) ?_
          refine a_Ml C0 (by decide) ixl_1 vl57_1 dX6_pairs_50 ?_
          refine j_iconst C0 (v := 0) dX6_pairs_51 (by decide) ?_
          refine j_callVv C0 (c_X6_pairsFrom l z _ _ _ _ _ (dp_0 (InM_up hIm (by decide) (by decide) (by decide))) (InM_up hIm (by decide) (by decide) (by decide))) yk_X6_pairsFrom w_998 (fun H locs hP _ => recvW C0 hP 0 (by decide) celM_0 rfl) ⟨Nat.le_of_ble_eq_true rfl, Nat.le_of_ble_eq_true rfl⟩ rfl rfl (Nat.le_of_ble_eq_true rfl) dX6_pairs_52 ?_
          refine j_iload_n C0 1 dX6_pairs_55 rfl rfl ?_
          refine j_if_ge C0 66 dX6_pairs_56 (by decide) (fun c_56 => ?_) (fun c_56 => ?_)
          · have hp : vp_in p0 8 := hm1 c_56
            refine j_aload_n C0 0 dX6_pairs_66 rfl rfl ?_
            refine g_Model_bestBy C0 w_810 dX6_pairs_67 ?_
            refine j_iload_n C0 1 dX6_pairs_70 rfl rfl ?_
            refine a_M C0 (by decide) hp dX6_pairs_71 ?_
            exact j_iretM C0 hrt hlk dX6_pairs_72
          · refine j_aload_n C0 0 dX6_pairs_59 rfl rfl ?_
            refine g_Model_bestOfPairs C0 w_811 dX6_pairs_60 ?_
            refine j_goto C0 72 dX6_pairs_63 (by decide) ?_
            exact j_iretM C0 hrt hlk dX6_pairs_72
        · have hx : vp_in a2 8 := vin_lc hL c_20 (by decide)
          refine j_aload_n C0 0 dX6_pairs_23 rfl rfl ?_
          refine g_Model_watchedBy C0 w_809 dX6_pairs_24 ?_
          refine j_iload_n C0 2 dX6_pairs_27 rfl rfl ?_
          refine j_bipush C0 (v := 9) dX6_pairs_28 (by decide) ?_
          refine s_M C0 (by decide) hx dX6_pairs_30 ?_
          refine j_iinc C0 (lv' := [(2, _), (0, _), (1, _)]) (v := _ + (1)) 2 dX6_pairs_31 rfl (by rfl) (by decide) rfl ?_
          refine j_goto C0 17 dX6_pairs_34 (by decide) ?_
          exact j_sub [1, 2, 0] rfl (ih0 _ _ (lc_stepN hL c_20) (InM_up hIm (by omega) (by omega) (by decide)) hm1)
    exact j_sub [1, 2, 0] rfl (L17 9 _ _ (lc_0 (by decide) (by decide)) hI (by first | exact fun _ => isPerson_8 hI c_10 | exact fun q => absurd (c_2 ▸ q) (by decide)))
  · refine j_aload_n C0 0 dX6_pairs_5 rfl rfl ?_
    refine j_iload_n C0 1 dX6_pairs_6 rfl rfl ?_
    refine j_callVi C0 (c_X6_isPerson l z _ _ hI) yk_X6_isPerson w_900 (fun H locs hP _ => recvW C0 hP 0 (by decide) celM_0 rfl) ⟨Nat.le_of_ble_eq_true rfl, Nat.le_of_ble_eq_true rfl⟩ rfl rfl (Nat.le_of_ble_eq_true rfl) dX6_pairs_7 ?_
    refine j_if_ne C0 15 dX6_pairs_10 (by decide) (fun c_10 => ?_) (fun c_10 => ?_)
    · refine j_iconst C0 (v := (-1)) dX6_pairs_13 (by decide) ?_
      exact j_iretM C0 hrt hlk dX6_pairs_14
    · refine j_iconst C0 (v := 0) dX6_pairs_15 (by decide) ?_
      refine j_istore_n C0 (lv' := [(2, _), (0, _), (1, _)]) dX6_pairs_16 rfl (by decide) rfl ?_
      have L17 : ∀ (n0 : Nat) (a2 : Int32) (g_17 : Mem), lc a2 8 n0 → InM g_17 → (0 ≤ p0 → vp_in p0 8) → jj p l e { frames := 14, cells := 0, slots := 0, locals := 366 } s m args below meth c (yA z) (yD z) 14 (yad z) (celM z) 3 (fun r => MQ below (qIM z r) args s 0 0 (yA z)) (f_X6_pairs_17 g p0 n0 a2 g_17) g_17 17 [(0, .ref (yad z 0)), (1, .int p0), (2, .int a2)] [] := by
        intro n0
        induction n0 with
        | zero => intro a2 g_17 hL hIm hm1; exact absurd hL.2 (Nat.not_lt_zero _)
        | succ n0 ih0 =>
          intro a2 g_17 hL hIm hm1
          rw [f_X6_pairs_17]
          refine j_iload_n C0 2 dX6_pairs_17 rfl rfl ?_
          refine j_bipush C0 (v := 8) dX6_pairs_18 (by decide) ?_
          refine j_icmp_ge C0 37 dX6_pairs_20 (by decide) (fun c_20 => ?_) (fun c_20 => ?_)
          · refine j_aload_n C0 0 dX6_pairs_37 rfl rfl ?_
            refine j_iconst C0 (v := (-1)) dX6_pairs_38 (by decide) ?_
            refine p_Model_bestOfPairs C0 w_811 dX6_pairs_39 ?_
            refine j_aload_n C0 0 dX6_pairs_42 rfl rfl ?_
            refine j_iconst C0 (v := 0) dX6_pairs_43 (by decide) ?_
            refine j_iconst C0 (v := 0) dX6_pairs_44 (by decide) ?_
            refine j_aload_n C0 0 dX6_pairs_45 rfl rfl ?_
            refine g_Model_s C0 w_800 dX6_pairs_46 ?_
            refine j_iconst C0 (v := 1) dX6_pairs_49 (by decide) ?_
            refine a_Ml C0 (by decide) ixl_1 vl57_1 dX6_pairs_50 ?_
            refine j_iconst C0 (v := 0) dX6_pairs_51 (by decide) ?_
            refine j_callVv C0 (c_X6_pairsFrom l z _ _ _ _ _ (dp_0 (InM_up hIm (by decide) (by decide) (by decide))) (InM_up hIm (by decide) (by decide) (by decide))) yk_X6_pairsFrom w_998 (fun H locs hP _ => recvW C0 hP 0 (by decide) celM_0 rfl) ⟨Nat.le_of_ble_eq_true rfl, Nat.le_of_ble_eq_true rfl⟩ rfl rfl (Nat.le_of_ble_eq_true rfl) dX6_pairs_52 ?_
            refine j_iload_n C0 1 dX6_pairs_55 rfl rfl ?_
            refine j_if_ge C0 66 dX6_pairs_56 (by decide) (fun c_56 => ?_) (fun c_56 => ?_)
            · have hp : vp_in p0 8 := hm1 c_56
              refine j_aload_n C0 0 dX6_pairs_66 rfl rfl ?_
              refine g_Model_bestBy C0 w_810 dX6_pairs_67 ?_
              refine j_iload_n C0 1 dX6_pairs_70 rfl rfl ?_
              refine a_M C0 (by decide) hp dX6_pairs_71 ?_
              exact j_iretM C0 hrt hlk dX6_pairs_72
            · refine j_aload_n C0 0 dX6_pairs_59 rfl rfl ?_
              refine g_Model_bestOfPairs C0 w_811 dX6_pairs_60 ?_
              refine j_goto C0 72 dX6_pairs_63 (by decide) ?_
              exact j_iretM C0 hrt hlk dX6_pairs_72
          · have hx : vp_in a2 8 := vin_lc hL c_20 (by decide)
            refine j_aload_n C0 0 dX6_pairs_23 rfl rfl ?_
            refine g_Model_watchedBy C0 w_809 dX6_pairs_24 ?_
            refine j_iload_n C0 2 dX6_pairs_27 rfl rfl ?_
            refine j_bipush C0 (v := 9) dX6_pairs_28 (by decide) ?_
            refine s_M C0 (by decide) hx dX6_pairs_30 ?_
            refine j_iinc C0 (lv' := [(2, _), (0, _), (1, _)]) (v := _ + (1)) 2 dX6_pairs_31 rfl (by rfl) (by decide) rfl ?_
            refine j_goto C0 17 dX6_pairs_34 (by decide) ?_
            exact j_sub [1, 2, 0] rfl (ih0 _ _ (lc_stepN hL c_20) (InM_up hIm (by omega) (by omega) (by decide)) hm1)
      exact j_sub [1, 2, 0] rfl (L17 9 _ _ (lc_0 (by decide) (by decide)) hI (by first | exact fun _ => isPerson_8 hI c_10 | exact fun q => absurd (c_2 ▸ q) (by decide)))
