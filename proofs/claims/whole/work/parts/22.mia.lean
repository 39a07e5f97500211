def f_X6_wrongPairs_103 (g : Mem) (p0 : Int32) : Nat → Int32 → Int32
  | 0, _ => 0
  | n0s + 1, b5 => if (g 12 (ix p0)) ≤ b5 then ((0 : Int32)) else (if (f_X6_canEat g 1 (g 13 (ix (((100 : Int32) * p0) + b5))) (g 13 (ix ((((100 : Int32) * p0) + b5) + (1 : Int32))))) = 0 then ((-13 : Int32)) else (f_X6_wrongPairs_103 g p0 n0s (b5 + (2 : Int32))))
def f_X6_wrongPairs_42 (g : Mem) (p0 : Int32) : Nat → Int32 → Int32 → Int32
  | 0, _, _ => 0
  | n0 + 1, a4, a5 => if (g 12 (ix p0)) ≤ a5 then (f_X6_wrongPairs_103 g p0 102 (0 : Int32)) else (if (f_X6_isPerson g (g 13 (ix (((100 : Int32) * p0) + a5)))) = 0 then ((-13 : Int32)) else (if ((a4 >>> ((g 13 (ix (((100 : Int32) * p0) + a5))) &&& 31)) &&& (1 : Int32)) = (1 : Int32) then ((-13 : Int32)) else (f_X6_wrongPairs_42 g p0 n0 (a4 ||| ((1 : Int32) <<< ((g 13 (ix (((100 : Int32) * p0) + a5))) &&& 31))) (a5 + (1 : Int32)))))
def f_X6_wrongPairs (g : Mem) (p0 : Int32) : Int32 := if (f_X6_wrongRow g p0 (-1 : Int32)) = 0 then (if ((g 12 (ix p0)) - (g 12 (ix p0)) / (2 : Int32) * (2 : Int32)) = (1 : Int32) then ((-13 : Int32)) else (if (g 12 (ix p0)) ≤ (8 : Int32) then (f_X6_wrongPairs_42 g p0 9 (0 : Int32) (0 : Int32)) else ((-13 : Int32)))) else ((f_X6_wrongRow g p0 (-1 : Int32)))
theorem yk_X6_wrongPairs : yokV yX6_wrongPairs RX6 cX6_wrongPairs 7 (some .int) 1 := ⟨w_1045, w_1044, wp_37, w_8, by decide +kernel⟩
set_option maxHeartbeats 4000000 in
set_option maxRecDepth 100000 in
theorem c_X6_wrongPairs (l : Launch) (z : ZM) (g : Mem) (p0 : Int32) (hI : InM g) : ctM l yX6_wrongPairs cX6_wrongPairs 7 (some .int) 3 64 z g [.ref (yad z 0), .int p0] (qIM z (f_X6_wrongPairs g p0, g)) := by
  refine ct_of (own := RX6) (q := fun r => qIM z (r, g)) (res := f_X6_wrongPairs g p0) (lv := [(0, .ref (yad z 0)), (1, .int p0)]) enokM rfl (by decide) (Nat.le_of_ble_eq_true rfl) rfl (fun p e s m args below meth c C0 hrt hlk => ?_)
  unfold f_X6_wrongPairs
  refine j_aload_n C0 0 dX6_wrongPairs_0 rfl rfl ?_
  refine j_iload_n C0 1 dX6_wrongPairs_1 rfl rfl ?_
  refine j_iconst C0 (v := (-1)) dX6_wrongPairs_2 (by decide) ?_
  refine j_callVi C0 (c_X6_wrongRow l z _ _ _ hI) yk_X6_wrongRow w_865 (fun H locs hP _ => recvW C0 hP 0 (by decide) celM_0 rfl) ⟨Nat.le_of_ble_eq_true rfl, Nat.le_of_ble_eq_true rfl⟩ rfl rfl (Nat.le_of_ble_eq_true rfl) dX6_wrongPairs_3 ?_
  refine j_istore_n C0 (lv' := [(2, _), (0, _), (1, _)]) dX6_wrongPairs_6 rfl (by decide) rfl ?_
  refine j_iload_n C0 0 dX6_wrongPairs_7 rfl rfl ?_
  refine j_if_eq C0 13 dX6_wrongPairs_8 (by decide) (fun c_8 => ?_) (fun c_8 => ?_)
  · have hv := wrongRow_in c_8
    refine j_aload_n C0 1 dX6_wrongPairs_13 rfl rfl ?_
    refine g_Model_size C0 w_817 dX6_wrongPairs_14 ?_
    refine j_iload_n C0 2 dX6_wrongPairs_17 rfl rfl ?_
    refine a_M C0 (by decide) hv dX6_wrongPairs_18 ?_
    refine j_istore_n C0 (lv' := [(3, _), (2, _), (0, _), (1, _)]) dX6_wrongPairs_19 rfl (by decide) rfl ?_
    refine j_iload_n C0 0 dX6_wrongPairs_20 rfl rfl ?_
    refine j_iconst C0 (v := 2) dX6_wrongPairs_21 (by decide) ?_
    refine j_irem C0 dX6_wrongPairs_22 (by decide) ?_
    refine j_iconst C0 (v := 1) dX6_wrongPairs_23 (by decide) ?_
    refine j_icmp_eq C0 33 dX6_wrongPairs_24 (by decide) (fun c_24 => ?_) (fun c_24 => ?_)
    · refine j_bipush C0 (v := (-13)) dX6_wrongPairs_33 (by decide) ?_
      exact j_iretP C0 hrt hlk dX6_wrongPairs_35
    · refine j_iload_n C0 0 dX6_wrongPairs_27 rfl rfl ?_
      refine j_bipush C0 (v := 8) dX6_wrongPairs_28 (by decide) ?_
      refine j_icmp_le C0 36 dX6_wrongPairs_30 (by decide) (fun c_30 => ?_) (fun c_30 => ?_)
      · have hev := odd_of (InM_len0 hI (vin_lt hv)) c_24
        refine j_iconst C0 (v := 0) dX6_wrongPairs_36 (by decide) ?_
        refine j_istore C0 (lv' := [(4, _), (3, _), (2, _), (0, _), (1, _)]) dX6_wrongPairs_37 (by decide) rfl ?_
        refine j_iconst C0 (v := 0) dX6_wrongPairs_39 (by decide) ?_
        refine j_istore C0 (lv' := [(5, _), (4, _), (3, _), (2, _), (0, _), (1, _)]) dX6_wrongPairs_40 (by decide) rfl ?_
        have L42 : ∀ (n0 : Nat) (a4 : Int32) (a5 : Int32), lc a5 (g 12 (ix p0)) n0 → (∀ j : Int32, 0 ≤ j.toInt → j.toInt < a5.toInt → vp_in (g 13 (ix (100 * p0 + j))) 9) → jj p l e { frames := 3, cells := 0, slots := 0, locals := 64 } s m args below meth c (yA z) (yD z) 14 (yad z) (celM z) 7 (fun r => MQ below (qIM z (r, g)) args s 0 0 (yA z)) (f_X6_wrongPairs_42 g p0 n0 a4 a5) g 42 [(0, .ref (yad z 0)), (1, .int p0), (3, .int (g 12 (ix p0))), (4, .int a4), (5, .int a5)] [] := by
          intro n0
          induction n0 with
          | zero => intro a4 a5 hL hA; exact absurd hL.2 (Nat.not_lt_zero _)
          | succ n0 ih0 =>
            intro a4 a5 hL hA
            rw [f_X6_wrongPairs_42]
            refine j_iload C0 4 dX6_wrongPairs_42 rfl ?_
            refine j_iload_n C0 2 dX6_wrongPairs_44 rfl rfl ?_
            refine j_icmp_ge C0 100 dX6_wrongPairs_45 (by decide) (fun c_45 => ?_) (fun c_45 => ?_)
            · refine j_iconst C0 (v := 0) dX6_wrongPairs_100 (by decide) ?_
              refine j_istore C0 (lv' := [(5, _), (0, _), (1, _), (3, _), (4, _)]) dX6_wrongPairs_101 (by decide) rfl ?_
              have L103 : ∀ (n0s : Nat) (b5 : Int32), (0 ≤ b5.toInt ∧ b5.toInt ≤ 102 ∧ ((g 12 (ix p0)).toInt - b5.toInt).toNat < n0s) → b5.toInt % 2 = 0 → (∀ j : Int32, 0 ≤ j.toInt → j.toInt < (g 12 (ix p0)).toInt → vp_in (g 13 (ix (100 * p0 + j))) 9) → jj p l e { frames := 3, cells := 0, slots := 0, locals := 64 } s m args below meth c (yA z) (yD z) 14 (yad z) (celM z) 7 (fun r => MQ below (qIM z (r, g)) args s 0 0 (yA z)) (f_X6_wrongPairs_103 g p0 n0s b5) g 103 [(0, .ref (yad z 0)), (1, .int p0), (3, .int (g 12 (ix p0))), (5, .int b5)] [] := by
                intro n0s
                induction n0s with
                | zero => intro b5 hL1 hea hA1; exact absurd hL1.2.2 (Nat.not_lt_zero _)
                | succ n0s ih0s =>
                  intro b5 hL1 hea hA1
                  rw [f_X6_wrongPairs_103]
                  refine j_iload C0 3 dX6_wrongPairs_103 rfl ?_
                  refine j_iload_n C0 2 dX6_wrongPairs_105 rfl rfl ?_
                  refine j_icmp_ge C0 154 dX6_wrongPairs_106 (by decide) (fun c_106 => ?_) (fun c_106 => ?_)
                  · refine j_iconst C0 (v := 0) dX6_wrongPairs_154 (by decide) ?_
                    exact j_iretP C0 hrt hlk dX6_wrongPairs_155
                  · have hq := forg_in hL1 c_106 (InM_len hI (vin_lt hv)) hev hea
                    have hw := wp_in hv hL1 c_106 (InM_len hI (vin_lt hv)) hev hea hA1
                    refine j_aload_n C0 0 dX6_wrongPairs_109 rfl rfl ?_
                    refine g_Model_s C0 w_800 dX6_wrongPairs_110 ?_
                    refine j_aload_n C0 0 dX6_wrongPairs_113 rfl rfl ?_
                    refine g_Model_element C0 w_818 dX6_wrongPairs_114 ?_
                    refine j_bipush C0 (v := 100) dX6_wrongPairs_117 (by decide) ?_
                    refine j_iload_n C0 1 dX6_wrongPairs_119 rfl rfl ?_
                    refine j_imul C0 dX6_wrongPairs_120 ?_
                    refine j_iload C0 3 dX6_wrongPairs_121 rfl ?_
                    refine j_iadd C0 dX6_wrongPairs_123 ?_
                    refine a_M C0 (by decide) (elt_in hv hq.1) dX6_wrongPairs_124 ?_
                    refine j_aload_n C0 0 dX6_wrongPairs_125 rfl rfl ?_
                    refine g_Model_element C0 w_818 dX6_wrongPairs_126 ?_
                    refine j_bipush C0 (v := 100) dX6_wrongPairs_129 (by decide) ?_
                    refine j_iload_n C0 1 dX6_wrongPairs_131 rfl rfl ?_
                    refine j_imul C0 dX6_wrongPairs_132 ?_
                    refine j_iload C0 3 dX6_wrongPairs_133 rfl ?_
                    refine j_iadd C0 dX6_wrongPairs_135 ?_
                    refine j_iconst C0 (v := 1) dX6_wrongPairs_136 (by decide) ?_
                    refine j_iadd C0 dX6_wrongPairs_137 ?_
                    refine a_M C0 (by decide) (elt_in3 hv hq.2) dX6_wrongPairs_138 ?_
                    refine j_callSi C0 (c_X6_canEat l z _ 1 rw4_1 _ _ hw.1 hw.2) yk_X6_canEat w_904 ⟨Nat.le_of_ble_eq_true rfl, Nat.le_of_ble_eq_true rfl⟩ rfl rfl (Nat.le_of_ble_eq_true rfl) dX6_wrongPairs_139 ?_
                    refine j_if_ne C0 148 dX6_wrongPairs_142 (by decide) (fun c_142 => ?_) (fun c_142 => ?_)
                    · refine j_bipush C0 (v := (-13)) dX6_wrongPairs_145 (by decide) ?_
                      exact j_iretP C0 hrt hlk dX6_wrongPairs_147
                    · refine j_iinc C0 (lv' := [(5, _), (0, _), (1, _), (3, _)]) (v := _ + (2)) 3 dX6_wrongPairs_148 rfl (by rfl) (by decide) rfl ?_
                      refine j_goto C0 103 dX6_wrongPairs_151 (by decide) ?_
                      exact j_sub [1, 2, 3, 0] rfl (ih0s _ (step2 hL1 c_106 (InM_len hI (vin_lt hv))) (even2 hL1 hea) hA1)
              exact j_sub [1, 2, 3, 0] rfl (L103 102 _ (by have := InM_len hI (vin_lt hv); have e0 : (0 : Int32).toInt = 0 := rfl; omega) (by decide) (fun j h0 h1 => hA j h0 (by have := Int32.le_iff_toInt_le.mp c_45; omega)))
            · have hx : vp_in a5 100 := vin_lc hL c_45 (InM_len hI (vin_lt hv))
              refine j_aload_n C0 0 dX6_wrongPairs_48 rfl rfl ?_
              refine g_Model_element C0 w_818 dX6_wrongPairs_49 ?_
              refine j_bipush C0 (v := 100) dX6_wrongPairs_52 (by decide) ?_
              refine j_iload_n C0 1 dX6_wrongPairs_54 rfl rfl ?_
              refine j_imul C0 dX6_wrongPairs_55 ?_
              refine j_iload C0 4 dX6_wrongPairs_56 rfl ?_
              refine j_iadd C0 dX6_wrongPairs_58 ?_
              refine a_M C0 (by decide) (elt_in hv hx) dX6_wrongPairs_59 ?_
              refine j_istore C0 (lv' := [(6, _), (0, _), (1, _), (3, _), (4, _), (5, _)]) dX6_wrongPairs_60 (by decide) rfl ?_
              refine j_aload_n C0 1 dX6_wrongPairs_62 rfl rfl ?_
              refine j_iload C0 0 dX6_wrongPairs_63 rfl ?_
              refine j_callVi C0 (c_X6_isPerson l z _ _ hI) yk_X6_isPerson w_900 (fun H locs hP _ => recvW C0 hP 0 (by decide) celM_0 rfl) ⟨Nat.le_of_ble_eq_true rfl, Nat.le_of_ble_eq_true rfl⟩ rfl rfl (Nat.le_of_ble_eq_true rfl) dX6_wrongPairs_65 ?_
              refine j_if_eq C0 82 dX6_wrongPairs_68 (by decide) (fun c_68 => ?_) (fun c_68 => ?_)
              · refine j_bipush C0 (v := (-13)) dX6_wrongPairs_82 (by decide) ?_
                exact j_iretP C0 hrt hlk dX6_wrongPairs_84
              · refine j_iload C0 4 dX6_wrongPairs_71 rfl ?_
                refine j_iload C0 0 dX6_wrongPairs_73 rfl ?_
                refine j_ishr C0 dX6_wrongPairs_75 ?_
                refine j_iconst C0 (v := 1) dX6_wrongPairs_76 (by decide) ?_
                refine j_iand C0 dX6_wrongPairs_77 ?_
                refine j_iconst C0 (v := 1) dX6_wrongPairs_78 (by decide) ?_
                refine j_icmp_ne C0 85 dX6_wrongPairs_79 (by decide) (fun c_79 => ?_) (fun c_79 => ?_)
                · refine j_bipush C0 (v := (-13)) dX6_wrongPairs_82 (by decide) ?_
                  exact j_iretP C0 hrt hlk dX6_wrongPairs_84
                · refine j_iload C0 4 dX6_wrongPairs_85 rfl ?_
                  refine j_iconst C0 (v := 1) dX6_wrongPairs_87 (by decide) ?_
                  refine j_iload C0 0 dX6_wrongPairs_88 rfl ?_
                  refine j_ishl C0 dX6_wrongPairs_90 ?_
                  refine j_ior C0 dX6_wrongPairs_91 ?_
                  refine j_istore C0 (lv' := [(4, _), (6, _), (0, _), (1, _), (3, _), (5, _)]) dX6_wrongPairs_92 (by decide) rfl ?_
                  refine j_iinc C0 (lv' := [(5, _), (4, _), (6, _), (0, _), (1, _), (3, _)]) (v := _ + (1)) 5 dX6_wrongPairs_94 rfl (by rfl) (by decide) rfl ?_
                  refine j_goto C0 42 dX6_wrongPairs_97 (by decide) ?_
                  exact j_sub [3, 4, 5, 1, 0] rfl (ih0 _ _ (lc_stepN hL c_45) (hA_step hL.1 (by have := vp_in_iff.mp hx; omega) hA (isPerson_in hI c_68)))
        exact j_sub [4, 5, 2, 1, 0] rfl (L42 9 _ _ (lc_0 (by have := le8_in c_30; omega) (by decide)) (fun j h0 h1 => absurd h1 (by have e0 : (0 : Int32).toInt = 0 := rfl; omega)))
      · refine j_bipush C0 (v := (-13)) dX6_wrongPairs_33 (by decide) ?_
        exact j_iretP C0 hrt hlk dX6_wrongPairs_35
  · refine j_iload_n C0 0 dX6_wrongPairs_11 rfl rfl ?_
    exact j_iretP C0 hrt hlk dX6_wrongPairs_12
theorem wp_L {g : Mem} (hI : InM g) {p0 : Int32} (hv : vp_in p0 8) : ∀ (n : Nat) (a4 a5 : Int32), lc a5 (g 12 (ix p0)) n → f_X6_wrongPairs_42 g p0 n a4 a5 = 0 → ∀ j : Int32, a5.toInt ≤ j.toInt → j.toInt < (g 12 (ix p0)).toInt → vp_in (g 13 (ix (100 * p0 + j))) 9 := by
  intro n
  induction n with
  | zero => intro a4 a5 hL; exact absurd hL.2 (Nat.not_lt_zero _)
  | succ n ih =>
    intro a4 a5 hL h j h0 h1
    rw [f_X6_wrongPairs_42] at h
    split at h
    · have := Int32.le_iff_toInt_le.mp (by assumption : g 12 (ix p0) ≤ a5)
      omega
    · have c := (by assumption : ¬ g 12 (ix p0) ≤ a5)
      split at h
      · exact absurd h (by decide)
      · have cp := (by assumption : ¬ f_X6_isPerson g (g 13 (ix (100 * p0 + a5))) = 0)
        split at h
        · exact absurd h (by decide)
        · by_cases e : j = a5
          · rw [e]; exact isPerson_in hI cp
          · have : j.toInt ≠ a5.toInt := ne_toInt e
            refine ih _ _ (lc_stepN hL c) h j ?_ h1
            have c2 := lt_of_nle c
            rw [inc_toInt hL.1 c2]
            omega
theorem wrongPairs_in {g : Mem} (hI : InM g) {p0 : Int32} (h : f_X6_wrongPairs g p0 = 0) : vp_in p0 8 ∧ (g 12 (ix p0)).toInt ≤ 8 ∧ (g 12 (ix p0)).toInt % 2 = 0 ∧ ∀ j : Int32, 0 ≤ j.toInt → j.toInt < (g 12 (ix p0)).toInt → vp_in (g 13 (ix (100 * p0 + j))) 9 := by
  unfold f_X6_wrongPairs at h
  split at h
  · have hv := wrongRow_in (by assumption : f_X6_wrongRow g p0 (-1) = 0)
    split at h
    · exact absurd h (by decide)
    · split at h
      · have c8 := le8_in (by assumption : g 12 (ix p0) ≤ 8)
        exact ⟨hv, c8, odd_of (InM_len0 hI (vin_lt hv)) (by assumption), fun j h0 h1 => wp_L hI hv 9 0 0 (lc_0 (by omega) (by decide)) h j h0 h1⟩
      · exact absurd h (by decide)
  · exact absurd h (by assumption)
theorem sw_in {g : Mem} {p0 a : Int32} (hw : vp_in p0 8 ∧ (g 12 (ix p0)).toInt ≤ 8 ∧ (g 12 (ix p0)).toInt % 2 = 0 ∧ ∀ j : Int32, 0 ≤ j.toInt → j.toInt < (g 12 (ix p0)).toInt → vp_in (g 13 (ix (100 * p0 + j))) 9) (hl0 : 0 ≤ (g 12 (ix p0)).toInt) (h0 : 0 ≤ a.toInt) (c : ¬ g 12 (ix p0) / 2 ≤ a) : vp_in (100 * p0 + 2 * a) 800 ∧ vp_in (100 * p0 + 2 * a + 1) 800 ∧ vp_in (g 13 (ix (100 * p0 + 2 * a))) 9 ∧ vp_in (g 13 (ix (100 * p0 + 2 * a + 1))) 9 := by
  obtain ⟨hv, h8, he, hA⟩ := hw
  have e2 : (2 : Int32).toInt = 2 := rfl
  have c2 := lt_of_nle c
  rw [div_toInt hl0 (by omega), e2] at c2
  have h2 : (2 * a).toInt = 2 * a.toInt := by rw [mul_toInt (by omega) (by omega) (by omega) (by omega), e2]
  have h3 : (2 * a + 1).toInt = 2 * a.toInt + 1 := by rw [add1_toInt (by omega) (by omega), h2]
  exact ⟨elt_in hv (vin_of (by omega) (by omega)), elt_in3 hv ⟨by omega, by omega⟩, hA _ (by omega) (by omega), by rw [assoc1]; exact hA _ (by omega) (by omega)⟩

def f_X6_swap_50 (g : Mem) (p0 : Int32) (K0 : Int32 → Int32 → Int32 → Int32) (a3 : Int32) (a4 : Int32) (a7 : Int32) : Nat → Int32 → Int32 → Int32 → Int32
  | 0, _, _, _ => 0
  | n1 + 1, b3, b4, b8 => if ((g 12 (ix p0)) / (2 : Int32)) ≤ b8 then (K0 b3 b4 (a7 + (1 : Int32))) else (if b4 < ((((f_X6_joysOf g 1 (g 13 (ix (((100 : Int32) * p0) + ((2 : Int32) * a7)))) (g 13 (ix ((((100 : Int32) * p0) + ((2 : Int32) * b8)) + (1 : Int32))))) + (f_X6_joysOf g 1 (g 13 (ix (((100 : Int32) * p0) + ((2 : Int32) * b8)))) (g 13 (ix ((((100 : Int32) * p0) + ((2 : Int32) * a7)) + (1 : Int32)))))) - (f_X6_joysOf g 1 (g 13 (ix (((100 : Int32) * p0) + ((2 : Int32) * a7)))) (g 13 (ix ((((100 : Int32) * p0) + ((2 : Int32) * a7)) + (1 : Int32)))))) - (f_X6_joysOf g 1 (g 13 (ix (((100 : Int32) * p0) + ((2 : Int32) * b8)))) (g 13 (ix ((((100 : Int32) * p0) + ((2 : Int32) * b8)) + (1 : Int32)))))) then (f_X6_swap_50 g p0 K0 a3 a4 a7 n1 (((10 : Int32) * a7) + b8) ((((f_X6_joysOf g 1 (g 13 (ix (((100 : Int32) * p0) + ((2 : Int32) * a7)))) (g 13 (ix ((((100 : Int32) * p0) + ((2 : Int32) * b8)) + (1 : Int32))))) + (f_X6_joysOf g 1 (g 13 (ix (((100 : Int32) * p0) + ((2 : Int32) * b8)))) (g 13 (ix ((((100 : Int32) * p0) + ((2 : Int32) * a7)) + (1 : Int32)))))) - (f_X6_joysOf g 1 (g 13 (ix (((100 : Int32) * p0) + ((2 : Int32) * a7)))) (g 13 (ix ((((100 : Int32) * p0) + ((2 : Int32) * a7)) + (1 : Int32)))))) - (f_X6_joysOf g 1 (g 13 (ix (((100 : Int32) * p0) + ((2 : Int32) * b8)))) (g 13 (ix ((((100 : Int32) * p0) + ((2 : Int32) * b8)) + (1 : Int32)))))) (b8 + (1 : Int32))) else (f_X6_swap_50 g p0 K0 a3 a4 a7 n1 b3 b4 (b8 + (1 : Int32))))
def f_X6_swap_37 (g : Mem) (p0 : Int32) : Nat → Int32 → Int32 → Int32 → Int32
  | 0, _, _, _ => 0
  | n0 + 1, a3, a4, a7 => if ((g 12 (ix p0)) / (2 : Int32)) ≤ a7 then (a3) else (f_X6_swap_50 g p0 (fun a3' a4' a7' => f_X6_swap_37 g p0 n0 a3' a4' a7') a3 a4 a7 51 a3 a4 (a7 + (1 : Int32)))
def f_X6_swap (g : Mem) (p0 : Int32) : Int32 := if (f_X6_wrongPairs g p0) = 0 then (f_X6_swap_37 g p0 51 (-4 : Int32) (0 : Int32) (0 : Int32)) else ((f_X6_wrongPairs g p0))
theorem yk_X6_swap : yokV yX6_swap RX6 cX6_swap 14 (some .int) 1 := ⟨w_1041, w_1039, w_1040, w_8, by decide +kernel⟩
set_option maxHeartbeats 4000000 in
set_option maxRecDepth 100000 in
theorem c_X6_swap (l : Launch) (z : ZM) (g : Mem) (p0 : Int32) (hI : InM g) : ctM l yX6_swap cX6_swap 14 (some .int) 4 90 z g [.ref (yad z 0), .int p0] (qIM z (f_X6_swap g p0, g)) := by
  refine ct_of (own := RX6) (q := fun r => qIM z (r, g)) (res := f_X6_swap g p0) (lv := [(0, .ref (yad z 0)), (1, .int p0)]) enokM rfl (by decide) (Nat.le_of_ble_eq_true rfl) rfl (fun p e s m args below meth c C0 hrt hlk => ?_)
  unfold f_X6_swap
  refine j_aload_n C0 0 dX6_swap_0 rfl rfl ?_
  refine j_iload_n C0 1 dX6_swap_1 rfl rfl ?_
  refine j_callVi C0 (c_X6_wrongPairs l z _ _ hI) yk_X6_wrongPairs w_1042 (fun H locs hP _ => recvW C0 hP 0 (by decide) celM_0 rfl) ⟨Nat.le_of_ble_eq_true rfl, Nat.le_of_ble_eq_true rfl⟩ rfl rfl (Nat.le_of_ble_eq_true rfl) dX6_swap_2 ?_
  refine j_istore_n C0 (lv' := [(2, _), (0, _), (1, _)]) dX6_swap_5 rfl (by decide) rfl ?_
  refine j_iload_n C0 0 dX6_swap_6 rfl rfl ?_
  refine j_if_eq C0 12 dX6_swap_7 (by decide) (fun c_7 => ?_) (fun c_7 => ?_)
  · have hw := wrongPairs_in hI c_7
    have hl0 := InM_len0 hI (vin_lt hw.1)
    refine j_bipush C0 (v := (-4)) dX6_swap_12 (by decide) ?_
    refine j_istore_n C0 (lv' := [(3, _), (2, _), (0, _), (1, _)]) dX6_swap_14 rfl (by decide) rfl ?_
    refine j_iconst C0 (v := 0) dX6_swap_15 (by decide) ?_
    refine j_istore C0 (lv' := [(4, _), (3, _), (2, _), (0, _), (1, _)]) dX6_swap_16 (by decide) rfl ?_
    refine j_aload_n C0 3 dX6_swap_18 rfl rfl ?_
    refine g_Model_size C0 w_817 dX6_swap_19 ?_
    refine j_iload_n C0 4 dX6_swap_22 rfl rfl ?_
    refine a_M C0 (by decide) hw.1 dX6_swap_23 ?_
    refine j_iconst C0 (v := 2) dX6_swap_24 (by decide) ?_
    refine j_idiv C0 dX6_swap_25 (by decide) ?_
    refine j_istore C0 (lv' := [(5, _), (4, _), (3, _), (2, _), (0, _), (1, _)]) dX6_swap_26 (by decide) rfl ?_
    refine j_bipush C0 (v := 100) dX6_swap_28 (by decide) ?_
    refine j_iload_n C0 5 dX6_swap_30 rfl rfl ?_
    refine j_imul C0 dX6_swap_31 ?_
    refine j_istore C0 (lv' := [(6, _), (5, _), (4, _), (3, _), (2, _), (0, _), (1, _)]) dX6_swap_32 (by decide) rfl ?_
    refine j_iconst C0 (v := 0) dX6_swap_34 (by decide) ?_
    refine j_istore C0 (lv' := [(7, _), (6, _), (5, _), (4, _), (3, _), (2, _), (0, _), (1, _)]) dX6_swap_35 (by decide) rfl ?_
    have L37 : ∀ (n0 : Nat) (a3 : Int32) (a4 : Int32) (a7 : Int32), lc a7 ((g 12 (ix p0)) / (2 : Int32)) n0 → jj p l e { frames := 4, cells := 0, slots := 0, locals := 90 } s m args below meth c (yA z) (yD z) 14 (yad z) (celM z) 14 (fun r => MQ below (qIM z (r, g)) args s 0 0 (yA z)) (f_X6_swap_37 g p0 n0 a3 a4 a7) g 37 [(0, .ref (yad z 0)), (1, .int p0), (3, .int a3), (4, .int a4), (5, .int ((g 12 (ix p0)) / (2 : Int32))), (6, .int ((100 : Int32) * p0)), (7, .int a7)] [] := by
      intro n0
      induction n0 with
      | zero => intro a3 a4 a7 hL0; exact absurd hL0.2 (Nat.not_lt_zero _)
      | succ n0 ih0 =>
        intro a3 a4 a7 hL0
        rw [f_X6_swap_37]
        refine j_iload C0 6 dX6_swap_37 rfl ?_
        refine j_iload C0 4 dX6_swap_39 rfl ?_
        refine j_icmp_ge C0 201 dX6_swap_41 (by decide) (fun c_41 => ?_) (fun c_41 => ?_)
        · refine j_iload_n C0 2 dX6_swap_201 rfl rfl ?_
          exact j_iretP C0 hrt hlk dX6_swap_202
        · refine j_iload C0 6 dX6_swap_44 rfl ?_
          refine j_iconst C0 (v := 1) dX6_swap_46 (by decide) ?_
          refine j_iadd C0 dX6_swap_47 ?_
          refine j_istore C0 (lv' := [(8, _), (0, _), (1, _), (3, _), (4, _), (5, _), (6, _), (7, _)]) dX6_swap_48 (by decide) rfl ?_
          have L50 : ∀ (n1 : Nat) (b3 : Int32) (b4 : Int32) (b8 : Int32), lc b8 ((g 12 (ix p0)) / (2 : Int32)) n1 → jj p l e { frames := 4, cells := 0, slots := 0, locals := 90 } s m args below meth c (yA z) (yD z) 14 (yad z) (celM z) 14 (fun r => MQ below (qIM z (r, g)) args s 0 0 (yA z)) (f_X6_swap_50 g p0 (fun a3' a4' a7' => f_X6_swap_37 g p0 n0 a3' a4' a7') a3 a4 a7 n1 b3 b4 b8) g 50 [(0, .ref (yad z 0)), (1, .int p0), (3, .int b3), (4, .int b4), (5, .int ((g 12 (ix p0)) / (2 : Int32))), (6, .int ((100 : Int32) * p0)), (7, .int a7), (8, .int b8)] [] := by
            intro n1
            induction n1 with
            | zero => intro b3 b4 b8 hL1; exact absurd hL1.2 (Nat.not_lt_zero _)
            | succ n1 ih1 =>
              intro b3 b4 b8 hL1
              rw [f_X6_swap_50]
              refine j_iload C0 7 dX6_swap_50 rfl ?_
              refine j_iload C0 4 dX6_swap_52 rfl ?_
              refine j_icmp_ge C0 195 dX6_swap_54 (by decide) (fun c_54 => ?_) (fun c_54 => ?_)
              · refine j_iinc C0 (lv' := [(7, _), (0, _), (1, _), (3, _), (4, _), (5, _), (6, _), (8, _)]) (v := _ + (1)) 6 dX6_swap_195 rfl (by rfl) (by decide) rfl ?_
                refine j_goto C0 37 dX6_swap_198 (by decide) ?_
                exact j_sub [1, 2, 3, 4, 5, 6, 0] rfl (ih0 _ _ _ (lc_stepN hL0 c_41))
              · have h1 := sw_in hw hl0 hL0.1 c_41
                have h2 := sw_in hw hl0 hL1.1 c_54
                refine j_aload_n C0 0 dX6_swap_57 rfl rfl ?_
                refine g_Model_element C0 w_818 dX6_swap_58 ?_
                refine j_iload C0 5 dX6_swap_61 rfl ?_
                refine j_iconst C0 (v := 2) dX6_swap_63 (by decide) ?_
                refine j_iload C0 6 dX6_swap_64 rfl ?_
                refine j_imul C0 dX6_swap_66 ?_
                refine j_iadd C0 dX6_swap_67 ?_
                refine a_M C0 (by decide) h1.1 dX6_swap_68 ?_
                refine j_istore C0 (lv' := [(9, _), (0, _), (1, _), (3, _), (4, _), (5, _), (6, _), (7, _), (8, _)]) dX6_swap_69 (by decide) rfl ?_
                refine j_aload_n C0 1 dX6_swap_71 rfl rfl ?_
                refine g_Model_element C0 w_818 dX6_swap_72 ?_
                refine j_iload C0 6 dX6_swap_75 rfl ?_
                refine j_iconst C0 (v := 2) dX6_swap_77 (by decide) ?_
                refine j_iload C0 7 dX6_swap_78 rfl ?_
                refine j_imul C0 dX6_swap_80 ?_
                refine j_iadd C0 dX6_swap_81 ?_
                refine j_iconst C0 (v := 1) dX6_swap_82 (by decide) ?_
                refine j_iadd C0 dX6_swap_83 ?_
                refine a_M C0 (by decide) h1.2.1 dX6_swap_84 ?_
                refine j_istore C0 (lv' := [(10, _), (9, _), (0, _), (1, _), (3, _), (4, _), (5, _), (6, _), (7, _), (8, _)]) dX6_swap_85 (by decide) rfl ?_
                refine j_aload_n C0 2 dX6_swap_87 rfl rfl ?_
                refine g_Model_element C0 w_818 dX6_swap_88 ?_
                refine j_iload C0 7 dX6_swap_91 rfl ?_
                refine j_iconst C0 (v := 2) dX6_swap_93 (by decide) ?_
                refine j_iload C0 9 dX6_swap_94 rfl ?_
                refine j_imul C0 dX6_swap_96 ?_
                refine j_iadd C0 dX6_swap_97 ?_
                refine a_M C0 (by decide) h2.1 dX6_swap_98 ?_
                refine j_istore C0 (lv' := [(11, _), (10, _), (9, _), (0, _), (1, _), (3, _), (4, _), (5, _), (6, _), (7, _), (8, _)]) dX6_swap_99 (by decide) rfl ?_
                refine j_aload_n C0 3 dX6_swap_101 rfl rfl ?_
                refine g_Model_element C0 w_818 dX6_swap_102 ?_
                refine j_iload C0 8 dX6_swap_105 rfl ?_
                refine j_iconst C0 (v := 2) dX6_swap_107 (by decide) ?_
                refine j_iload C0 10 dX6_swap_108 rfl ?_
                refine j_imul C0 dX6_swap_110 ?_
                refine j_iadd C0 dX6_swap_111 ?_
                refine j_iconst C0 (v := 1) dX6_swap_112 (by decide) ?_
                refine j_iadd C0 dX6_swap_113 ?_
                refine a_M C0 (by decide) h2.2.1 dX6_swap_114 ?_
                refine j_istore C0 (lv' := [(12, _), (11, _), (10, _), (9, _), (0, _), (1, _), (3, _), (4, _), (5, _), (6, _), (7, _), (8, _)]) dX6_swap_115 (by decide) rfl ?_
                refine j_aload_n C0 4 dX6_swap_117 rfl rfl ?_
                refine g_Model_s C0 w_800 dX6_swap_118 ?_
                refine j_iload C0 3 dX6_swap_121 rfl ?_
                refine j_iload C0 0 dX6_swap_123 rfl ?_
                refine j_callSi C0 (c_X6_joysOf l z _ 1 rw4_1 _ _ h1.2.2.1 h2.2.2.2) yk_X6_joysOf w_913 ⟨Nat.le_of_ble_eq_true rfl, Nat.le_of_ble_eq_true rfl⟩ rfl rfl (Nat.le_of_ble_eq_true rfl) dX6_swap_125 ?_
                refine j_aload_n C0 4 dX6_swap_128 rfl rfl ?_
                refine g_Model_s C0 w_800 dX6_swap_129 ?_
                refine j_iload C0 1 dX6_swap_132 rfl ?_
                refine j_iload C0 2 dX6_swap_134 rfl ?_
                refine j_callSi C0 (c_X6_joysOf l z _ 1 rw4_1 _ _ h2.2.2.1 h1.2.2.2) yk_X6_joysOf w_913 ⟨Nat.le_of_ble_eq_true rfl, Nat.le_of_ble_eq_true rfl⟩ rfl rfl (Nat.le_of_ble_eq_true rfl) dX6_swap_136 ?_
                refine j_iadd C0 dX6_swap_139 ?_
                refine j_aload_n C0 4 dX6_swap_140 rfl rfl ?_
                refine g_Model_s C0 w_800 dX6_swap_141 ?_
                refine j_iload C0 3 dX6_swap_144 rfl ?_
                refine j_iload C0 2 dX6_swap_146 rfl ?_
                refine j_callSi C0 (c_X6_joysOf l z _ 1 rw4_1 _ _ h1.2.2.1 h1.2.2.2) yk_X6_joysOf w_913 ⟨Nat.le_of_ble_eq_true rfl, Nat.le_of_ble_eq_true rfl⟩ rfl rfl (Nat.le_of_ble_eq_true rfl) dX6_swap_148 ?_
                refine j_isub C0 dX6_swap_151 ?_
                refine j_aload_n C0 4 dX6_swap_152 rfl rfl ?_
                refine g_Model_s C0 w_800 dX6_swap_153 ?_
                refine j_iload C0 1 dX6_swap_156 rfl ?_
                refine j_iload C0 0 dX6_swap_158 rfl ?_
                refine j_callSi C0 (c_X6_joysOf l z _ 1 rw4_1 _ _ h2.2.2.1 h2.2.2.2) yk_X6_joysOf w_913 ⟨Nat.le_of_ble_eq_true rfl, Nat.le_of_ble_eq_true rfl⟩ rfl rfl (Nat.le_of_ble_eq_true rfl) dX6_swap_160 ?_
                refine j_isub C0 dX6_swap_163 ?_
                refine j_istore C0 (lv' := [(13, _), (12, _), (11, _), (10, _), (9, _), (0, _), (1, _), (3, _), (4, _), (5, _), (6, _), (7, _), (8, _)]) dX6_swap_164 (by decide) rfl ?_
                refine j_iload C0 0 dX6_swap_166 rfl ?_
                refine j_iload C0 8 dX6_swap_168 rfl ?_
                refine j_icmp_gt C0 176 dX6_swap_170 (by decide) (fun c_170 => ?_) (fun c_170 => ?_)
                · refine j_bipush C0 (v := 10) dX6_swap_176 (by decide) ?_
                  refine j_iload C0 11 dX6_swap_178 rfl ?_
                  refine j_imul C0 dX6_swap_180 ?_
                  refine j_iload C0 12 dX6_swap_181 rfl ?_
                  refine j_iadd C0 dX6_swap_183 ?_
                  refine j_istore_n C0 (lv' := [(3, _), (13, _), (12, _), (11, _), (10, _), (9, _), (0, _), (1, _), (4, _), (5, _), (6, _), (7, _), (8, _)]) dX6_swap_184 rfl (by decide) rfl ?_
                  refine j_iload C0 1 dX6_swap_185 rfl ?_
                  refine j_istore C0 (lv' := [(4, _), (3, _), (13, _), (12, _), (11, _), (10, _), (9, _), (0, _), (1, _), (5, _), (6, _), (7, _), (8, _)]) dX6_swap_187 (by decide) rfl ?_
                  refine j_iinc C0 (lv' := [(8, _), (4, _), (3, _), (13, _), (12, _), (11, _), (10, _), (9, _), (0, _), (1, _), (5, _), (6, _), (7, _)]) (v := _ + (1)) 12 dX6_swap_189 rfl (by rfl) (by decide) rfl ?_
                  refine j_goto C0 50 dX6_swap_192 (by decide) ?_
                  exact j_sub [8, 9, 2, 1, 10, 11, 12, 0] rfl (ih1 _ _ _ (lc_stepN hL1 c_54))
                · refine j_goto C0 189 dX6_swap_173 (by decide) ?_
                  refine j_iinc C0 (lv' := [(8, _), (13, _), (12, _), (11, _), (10, _), (9, _), (0, _), (1, _), (3, _), (4, _), (5, _), (6, _), (7, _)]) (v := _ + (1)) 12 dX6_swap_189 rfl (by rfl) (by decide) rfl ?_
                  refine j_goto C0 50 dX6_swap_192 (by decide) ?_
                  exact j_sub [6, 7, 8, 9, 10, 11, 12, 0] rfl (ih1 _ _ _ (lc_stepN hL1 c_54))
          exact j_sub [1, 2, 3, 4, 5, 6, 7, 0] rfl (L50 51 _ _ _ (by have h1 := (half_le hl0 (by have := hw.2.1; omega)); have h2 : (a7 + 1).toInt = a7.toInt + 1 := inc_toInt hL0.1 (lt_of_nle c_41); have h3 := hL0.1; exact lc_from (by omega) (by omega) (by decide)))
    exact j_sub [6, 7, 4, 3, 2, 1, 0] rfl (L37 51 _ _ _ (lc_0 (by have := (half_le hl0 (by have := hw.2.1; omega)); omega) (by decide)))
  · refine j_iload_n C0 0 dX6_swap_10 rfl rfl ?_
    exact j_iretP C0 hrt hlk dX6_swap_11
def f_X6_throat_70 (g : Mem) (p0 p1 p2 p3 : Int32) (K0 : Int32 → Int32 → Int32) (a6 : Int32) (a7 : Int32) : Nat → Int32 → Int32 → Int32 → Int32
  | 0, _, _, _ => 0
  | n1 + 1, b8, b9, b10 => if (g 12 (ix p0)) ≤ b10 then (if b9 = 0 then (K0 (a6 ||| (0 : Int32)) (a7 + (1 : Int32))) else (K0 (a6 ||| ((1 : Int32) <<< (a7 &&& 31))) (a7 + (1 : Int32)))) else (if (g 13 (ix (((100 : Int32) * p0) + b10))) = (f_X6_least b8 (f_X6_bite a7 p2)) then (f_X6_throat_70 g p0 p1 p2 p3 K0 a6 a7 n1 (b8 - (f_X6_least b8 (f_X6_bite a7 p2))) (b9 &&& (1 : Int32)) (b10 + (1 : Int32))) else (f_X6_throat_70 g p0 p1 p2 p3 K0 a6 a7 n1 (b8 - (f_X6_least b8 (f_X6_bite a7 p2))) (b9 &&& (0 : Int32)) (b10 + (1 : Int32))))
def f_X6_throat_54 (g : Mem) (p0 p1 p2 p3 : Int32) : Nat → Int32 → Int32 → Int32
  | 0, _, _ => 0
  | n0 + 1, a6, a7 => if (8 : Int32) ≤ a7 then (if p3 = 0 then (a6) else ((f_X6_bits g a6))) else (f_X6_throat_70 g p0 p1 p2 p3 (fun a6' a7' => f_X6_throat_54 g p0 p1 p2 p3 n0 a6' a7') a6 a7 101 p1 (1 : Int32) (0 : Int32))
def f_X6_throat (g : Mem) (p0 p1 p2 p3 : Int32) : Int32 := if (f_X6_isIn p1 (0 : Int32) (30 : Int32)) = 0 then ((-1 : Int32)) else (if (f_X6_isIn p2 (0 : Int32) (9 : Int32)) = 0 then ((-1 : Int32)) else (if (f_X6_isIn p3 (0 : Int32) (1 : Int32)) = 0 then ((-1 : Int32)) else (if (f_X6_wrongRow g p0 (-1 : Int32)) = 0 then (f_X6_throat_54 g p0 p1 p2 p3 9 (0 : Int32) (0 : Int32)) else ((f_X6_wrongRow g p0 (-1 : Int32))))))
theorem yk_X6_throat : yokV yX6_throat RX6 cX6_throat 12 (some .int) 4 := ⟨w_1049, w_1047, w_1048, w_8, by decide +kernel⟩
set_option maxHeartbeats 4000000 in
set_option maxRecDepth 100000 in
theorem c_X6_throat (l : Launch) (z : ZM) (g : Mem) (p0 p1 p2 p3 : Int32) (hI : InM g) : ctM l yX6_throat cX6_throat 12 (some .int) 3 64 z g [.ref (yad z 0), .int p0, .int p1, .int p2, .int p3] (qIM z (f_X6_throat g p0 p1 p2 p3, g)) := by
  refine ct_of (own := RX6) (q := fun r => qIM z (r, g)) (res := f_X6_throat g p0 p1 p2 p3) (lv := [(0, .ref (yad z 0)), (1, .int p0), (2, .int p1), (3, .int p2), (4, .int p3)]) enokM rfl (by decide) (Nat.le_of_ble_eq_true rfl) rfl (fun p e s m args below meth c C0 hrt hlk => ?_)
  unfold f_X6_throat
  refine j_iload_n C0 2 dX6_throat_0 rfl rfl ?_
  refine j_iconst C0 (v := 0) dX6_throat_1 (by decide) ?_
  refine j_bipush C0 (v := 30) dX6_throat_2 (by decide) ?_
  refine j_callSi C0 (c_X6_isIn l z _ _ _ _) yk_X6_isIn w_872 ⟨Nat.le_of_ble_eq_true rfl, Nat.le_of_ble_eq_true rfl⟩ rfl rfl (Nat.le_of_ble_eq_true rfl) dX6_throat_4 ?_
  refine j_if_eq C0 30 dX6_throat_7 (by decide) (fun c_7 => ?_) (fun c_7 => ?_)
  · refine j_iconst C0 (v := (-1)) dX6_throat_30 (by decide) ?_
    exact j_iretP C0 hrt hlk dX6_throat_31
  · refine j_iload_n C0 3 dX6_throat_10 rfl rfl ?_
    refine j_iconst C0 (v := 0) dX6_throat_11 (by decide) ?_
    refine j_bipush C0 (v := 9) dX6_throat_12 (by decide) ?_
    refine j_callSi C0 (c_X6_isIn l z _ _ _ _) yk_X6_isIn w_872 ⟨Nat.le_of_ble_eq_true rfl, Nat.le_of_ble_eq_true rfl⟩ rfl rfl (Nat.le_of_ble_eq_true rfl) dX6_throat_14 ?_
    refine j_if_eq C0 30 dX6_throat_17 (by decide) (fun c_17 => ?_) (fun c_17 => ?_)
    · refine j_iconst C0 (v := (-1)) dX6_throat_30 (by decide) ?_
      exact j_iretP C0 hrt hlk dX6_throat_31
    · refine j_iload C0 4 dX6_throat_20 rfl ?_
      refine j_iconst C0 (v := 0) dX6_throat_22 (by decide) ?_
      refine j_iconst C0 (v := 1) dX6_throat_23 (by decide) ?_
      refine j_callSi C0 (c_X6_isIn l z _ _ _ _) yk_X6_isIn w_872 ⟨Nat.le_of_ble_eq_true rfl, Nat.le_of_ble_eq_true rfl⟩ rfl rfl (Nat.le_of_ble_eq_true rfl) dX6_throat_24 ?_
      refine j_if_ne C0 32 dX6_throat_27 (by decide) (fun c_27 => ?_) (fun c_27 => ?_)
      · refine j_iconst C0 (v := (-1)) dX6_throat_30 (by decide) ?_
        exact j_iretP C0 hrt hlk dX6_throat_31
      · refine j_aload_n C0 0 dX6_throat_32 rfl rfl ?_
        refine j_iload_n C0 1 dX6_throat_33 rfl rfl ?_
        refine j_iconst C0 (v := (-1)) dX6_throat_34 (by decide) ?_
        refine j_callVi C0 (c_X6_wrongRow l z _ _ _ hI) yk_X6_wrongRow w_865 (fun H locs hP _ => recvW C0 hP 0 (by decide) celM_0 rfl) ⟨Nat.le_of_ble_eq_true rfl, Nat.le_of_ble_eq_true rfl⟩ rfl rfl (Nat.le_of_ble_eq_true rfl) dX6_throat_35 ?_
        refine j_istore C0 (lv' := [(5, _), (0, _), (1, _), (2, _), (3, _), (4, _)]) dX6_throat_38 (by decide) rfl ?_
        refine j_iload C0 0 dX6_throat_40 rfl ?_
        refine j_if_eq C0 48 dX6_throat_42 (by decide) (fun c_42 => ?_) (fun c_42 => ?_)
        · have hv := wrongRow_in c_42
          refine j_iconst C0 (v := 0) dX6_throat_48 (by decide) ?_
          refine j_istore C0 (lv' := [(6, _), (5, _), (0, _), (1, _), (2, _), (3, _), (4, _)]) dX6_throat_49 (by decide) rfl ?_
          refine j_iconst C0 (v := 0) dX6_throat_51 (by decide) ?_
          refine j_istore C0 (lv' := [(7, _), (6, _), (5, _), (0, _), (1, _), (2, _), (3, _), (4, _)]) dX6_throat_52 (by decide) rfl ?_
          have L54 : ∀ (n0 : Nat) (a6 : Int32) (a7 : Int32), lc a7 8 n0 → jj p l e { frames := 3, cells := 0, slots := 0, locals := 64 } s m args below meth c (yA z) (yD z) 14 (yad z) (celM z) 12 (fun r => MQ below (qIM z (r, g)) args s 0 0 (yA z)) (f_X6_throat_54 g p0 p1 p2 p3 n0 a6 a7) g 54 [(0, .ref (yad z 0)), (1, .int p0), (2, .int p1), (3, .int p2), (4, .int p3), (6, .int a6), (7, .int a7)] [] := by
            intro n0
            induction n0 with
            | zero => intro a6 a7 hL0; exact absurd hL0.2 (Nat.not_lt_zero _)
            | succ n0 ih0 =>
              intro a6 a7 hL0
              rw [f_X6_throat_54]
              refine j_iload C0 6 dX6_throat_54 rfl ?_
              refine j_bipush C0 (v := 8) dX6_throat_56 (by decide) ?_
              refine j_icmp_ge C0 158 dX6_throat_58 (by decide) (fun c_58 => ?_) (fun c_58 => ?_)
              · refine j_iload C0 4 dX6_throat_158 rfl ?_
                refine j_if_ne C0 168 dX6_throat_160 (by decide) (fun c_160 => ?_) (fun c_160 => ?_)
                · refine j_iload C0 5 dX6_throat_163 rfl ?_
                  refine j_goto C0 173 dX6_throat_165 (by decide) ?_
                  exact j_iretP C0 hrt hlk dX6_throat_173
                · refine j_iload C0 5 dX6_throat_168 rfl ?_
                  refine j_callSi C0 (c_X6_bits l z _ _) yk_X6_bits w_1050 ⟨Nat.le_of_ble_eq_true rfl, Nat.le_of_ble_eq_true rfl⟩ rfl rfl (Nat.le_of_ble_eq_true rfl) dX6_throat_170 ?_
                  exact j_iretP C0 hrt hlk dX6_throat_173
              · refine j_iload_n C0 2 dX6_throat_61 rfl rfl ?_
                refine j_istore C0 (lv' := [(8, _), (0, _), (1, _), (2, _), (3, _), (4, _), (6, _), (7, _)]) dX6_throat_62 (by decide) rfl ?_
                refine j_iconst C0 (v := 1) dX6_throat_64 (by decide) ?_
                refine j_istore C0 (lv' := [(9, _), (8, _), (0, _), (1, _), (2, _), (3, _), (4, _), (6, _), (7, _)]) dX6_throat_65 (by decide) rfl ?_
                refine j_iconst C0 (v := 0) dX6_throat_67 (by decide) ?_
                refine j_istore C0 (lv' := [(10, _), (9, _), (8, _), (0, _), (1, _), (2, _), (3, _), (4, _), (6, _), (7, _)]) dX6_throat_68 (by decide) rfl ?_
                have L70 : ∀ (n1 : Nat) (b8 : Int32) (b9 : Int32) (b10 : Int32), lc b10 (g 12 (ix p0)) n1 → jj p l e { frames := 3, cells := 0, slots := 0, locals := 64 } s m args below meth c (yA z) (yD z) 14 (yad z) (celM z) 12 (fun r => MQ below (qIM z (r, g)) args s 0 0 (yA z)) (f_X6_throat_70 g p0 p1 p2 p3 (fun a6' a7' => f_X6_throat_54 g p0 p1 p2 p3 n0 a6' a7') a6 a7 n1 b8 b9 b10) g 70 [(0, .ref (yad z 0)), (1, .int p0), (2, .int p1), (3, .int p2), (4, .int p3), (6, .int a6), (7, .int a7), (8, .int b8), (9, .int b9), (10, .int b10)] [] := by
                  intro n1
                  induction n1 with
                  | zero => intro b8 b9 b10 hL1; exact absurd hL1.2 (Nat.not_lt_zero _)
                  | succ n1 ih1 =>
                    intro b8 b9 b10 hL1
                    rw [f_X6_throat_70]
                    refine j_iload C0 9 dX6_throat_70 rfl ?_
                    refine j_aload_n C0 0 dX6_throat_72 rfl rfl ?_
                    refine g_Model_size C0 w_817 dX6_throat_73 ?_
                    refine j_iload_n C0 1 dX6_throat_76 rfl rfl ?_
                    refine a_M C0 (by decide) hv dX6_throat_77 ?_
                    refine j_icmp_ge C0 134 dX6_throat_78 (by decide) (fun c_78 => ?_) (fun c_78 => ?_)
                    · refine j_iload C0 5 dX6_throat_134 rfl ?_
                      refine j_iload C0 8 dX6_throat_136 rfl ?_
                      refine j_if_eq C0 148 dX6_throat_138 (by decide) (fun c_138 => ?_) (fun c_138 => ?_)
                      · refine j_iconst C0 (v := 0) dX6_throat_148 (by decide) ?_
                        refine j_ior C0 dX6_throat_149 ?_
                        refine j_istore C0 (lv' := [(6, _), (0, _), (1, _), (2, _), (3, _), (4, _), (7, _), (8, _), (9, _), (10, _)]) dX6_throat_150 (by decide) rfl ?_
                        refine j_iinc C0 (lv' := [(7, _), (6, _), (0, _), (1, _), (2, _), (3, _), (4, _), (8, _), (9, _), (10, _)]) (v := _ + (1)) 6 dX6_throat_152 rfl (by rfl) (by decide) rfl ?_
                        refine j_goto C0 54 dX6_throat_155 (by decide) ?_
                        exact j_sub [2, 3, 4, 5, 6, 1, 0] rfl (ih0 _ _ (lc_stepN hL0 c_58))
                      · refine j_iconst C0 (v := 1) dX6_throat_141 (by decide) ?_
                        refine j_iload C0 6 dX6_throat_142 rfl ?_
                        refine j_ishl C0 dX6_throat_144 ?_
                        refine j_goto C0 149 dX6_throat_145 (by decide) ?_
                        refine j_ior C0 dX6_throat_149 ?_
                        refine j_istore C0 (lv' := [(6, _), (0, _), (1, _), (2, _), (3, _), (4, _), (7, _), (8, _), (9, _), (10, _)]) dX6_throat_150 (by decide) rfl ?_
                        refine j_iinc C0 (lv' := [(7, _), (6, _), (0, _), (1, _), (2, _), (3, _), (4, _), (8, _), (9, _), (10, _)]) (v := _ + (1)) 6 dX6_throat_152 rfl (by rfl) (by decide) rfl ?_
                        refine j_goto C0 54 dX6_throat_155 (by decide) ?_
                        exact j_sub [2, 3, 4, 5, 6, 1, 0] rfl (ih0 _ _ (lc_stepN hL0 c_58))
                    · have hx : vp_in b10 100 := vin_lc hL1 c_78 (InM_len hI (vin_lt hv))
                      refine j_iload C0 7 dX6_throat_81 rfl ?_
                      refine j_iload C0 6 dX6_throat_83 rfl ?_
                      refine j_iload_n C0 3 dX6_throat_85 rfl rfl ?_
                      refine j_callSi C0 (c_X6_bite l z _ _ _) yk_X6_bite w_922 ⟨Nat.le_of_ble_eq_true rfl, Nat.le_of_ble_eq_true rfl⟩ rfl rfl (Nat.le_of_ble_eq_true rfl) dX6_throat_86 ?_
                      refine j_callSi C0 (c_X6_least l z _ _ _) yk_X6_least w_925 ⟨Nat.le_of_ble_eq_true rfl, Nat.le_of_ble_eq_true rfl⟩ rfl rfl (Nat.le_of_ble_eq_true rfl) dX6_throat_89 ?_
                      refine j_istore C0 (lv' := [(11, _), (0, _), (1, _), (2, _), (3, _), (4, _), (6, _), (7, _), (8, _), (9, _), (10, _)]) dX6_throat_92 (by decide) rfl ?_
                      refine j_iload C0 9 dX6_throat_94 rfl ?_
                      refine j_aload_n C0 1 dX6_throat_96 rfl rfl ?_
                      refine g_Model_element C0 w_818 dX6_throat_97 ?_
                      refine j_bipush C0 (v := 100) dX6_throat_100 (by decide) ?_
                      refine j_iload_n C0 2 dX6_throat_102 rfl rfl ?_
                      refine j_imul C0 dX6_throat_103 ?_
                      refine j_iload C0 10 dX6_throat_104 rfl ?_
                      refine j_iadd C0 dX6_throat_106 ?_
                      refine a_M C0 (by decide) (elt_in hv hx) dX6_throat_107 ?_
                      refine j_iload C0 0 dX6_throat_108 rfl ?_
                      refine j_icmp_ne C0 117 dX6_throat_110 (by decide) (fun c_110 => ?_) (fun c_110 => ?_)
                      · refine j_iconst C0 (v := 1) dX6_throat_113 (by decide) ?_
                        refine j_goto C0 118 dX6_throat_114 (by decide) ?_
                        refine j_iand C0 dX6_throat_118 ?_
                        refine j_istore C0 (lv' := [(9, _), (11, _), (0, _), (1, _), (2, _), (3, _), (4, _), (6, _), (7, _), (8, _), (10, _)]) dX6_throat_119 (by decide) rfl ?_
                        refine j_iload C0 9 dX6_throat_121 rfl ?_
                        refine j_iload C0 1 dX6_throat_123 rfl ?_
                        refine j_isub C0 dX6_throat_125 ?_
                        refine j_istore C0 (lv' := [(8, _), (9, _), (11, _), (0, _), (1, _), (2, _), (3, _), (4, _), (6, _), (7, _), (10, _)]) dX6_throat_126 (by decide) rfl ?_
                        refine j_iinc C0 (lv' := [(10, _), (8, _), (9, _), (11, _), (0, _), (1, _), (2, _), (3, _), (4, _), (6, _), (7, _)]) (v := _ + (1)) 10 dX6_throat_128 rfl (by rfl) (by decide) rfl ?_
                        refine j_goto C0 70 dX6_throat_131 (by decide) ?_
                        exact j_sub [4, 5, 6, 7, 8, 9, 10, 1, 2, 0] rfl (ih1 _ _ _ (lc_stepN hL1 c_78))
                      · refine j_iconst C0 (v := 0) dX6_throat_117 (by decide) ?_
                        refine j_iand C0 dX6_throat_118 ?_
                        refine j_istore C0 (lv' := [(9, _), (11, _), (0, _), (1, _), (2, _), (3, _), (4, _), (6, _), (7, _), (8, _), (10, _)]) dX6_throat_119 (by decide) rfl ?_
                        refine j_iload C0 9 dX6_throat_121 rfl ?_
                        refine j_iload C0 1 dX6_throat_123 rfl ?_
                        refine j_isub C0 dX6_throat_125 ?_
                        refine j_istore C0 (lv' := [(8, _), (9, _), (11, _), (0, _), (1, _), (2, _), (3, _), (4, _), (6, _), (7, _), (10, _)]) dX6_throat_126 (by decide) rfl ?_
                        refine j_iinc C0 (lv' := [(10, _), (8, _), (9, _), (11, _), (0, _), (1, _), (2, _), (3, _), (4, _), (6, _), (7, _)]) (v := _ + (1)) 10 dX6_throat_128 rfl (by rfl) (by decide) rfl ?_
                        refine j_goto C0 70 dX6_throat_131 (by decide) ?_
                        exact j_sub [4, 5, 6, 7, 8, 9, 10, 1, 2, 0] rfl (ih1 _ _ _ (lc_stepN hL1 c_78))
                exact j_sub [3, 4, 5, 6, 7, 8, 9, 2, 1, 0] rfl (L70 101 _ _ _ (lc_0 (by have := InM_len hI (vin_lt hv); omega) (by decide)))
          exact j_sub [3, 4, 5, 6, 7, 1, 0] rfl (L54 9 _ _ (lc_0 (by decide) (by decide)))
        · refine j_iload C0 0 dX6_throat_45 rfl ?_
          exact j_iretP C0 hrt hlk dX6_throat_47
