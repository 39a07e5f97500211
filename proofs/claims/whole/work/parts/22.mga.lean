def f_X6_twoTurns_33 (g : Mem) (p0 : Int32) (K0 : Int32 → Int32 → Int32 → Mem → Int32 × Mem) (a2 : Int32) (a3 : Int32) (a4 : Int32) (g_19 : Mem) : Nat → Int32 → Int32 → Int32 → Mem → Int32 × Mem
  | 0, _, _, _, _ => (0, g)
  | n1 + 1, b2, b3, b5, g_33 => if (g_33 1 0) ≤ b5 then (K0 b2 b3 (a4 + (1 : Int32)) g_33) else (if (f_X6_canEat g_33 1 a4 b5) = 0 then (f_X6_twoTurns_33 g p0 K0 a2 a3 a4 g_19 n1 b2 b3 (b5 + (1 : Int32)) g_33) else (if b3 < ((r_X6_turn (f_X6_copies g_33 1 2) 2 a4 b5) + (f_X6_bestJoys (m_X6_turn (f_X6_copies g_33 1 2) 2 a4 b5) 2)) then (f_X6_twoTurns_33 g p0 K0 a2 a3 a4 g_19 n1 (((10 : Int32) * a4) + b5) ((r_X6_turn (f_X6_copies g_33 1 2) 2 a4 b5) + (f_X6_bestJoys (m_X6_turn (f_X6_copies g_33 1 2) 2 a4 b5) 2)) (b5 + (1 : Int32)) (m_X6_turn (f_X6_copies g_33 1 2) 2 a4 b5)) else (f_X6_twoTurns_33 g p0 K0 a2 a3 a4 g_19 n1 b2 b3 (b5 + (1 : Int32)) (m_X6_turn (f_X6_copies g_33 1 2) 2 a4 b5))))
def f_X6_twoTurns_19 (g : Mem) (p0 : Int32) : Nat → Int32 → Int32 → Int32 → Mem → Int32 × Mem
  | 0, _, _, _, _ => (0, g)
  | n0 + 1, a2, a3, a4, g_19 => if (g_19 1 0) ≤ a4 then (if p0 = (1 : Int32) then ((a2, g_19)) else (((f_X6_most (0 : Int32) a3), g_19))) else (f_X6_twoTurns_33 g p0 (fun a2' a3' a4' g_19' => f_X6_twoTurns_19 g p0 n0 a2' a3' a4' g_19') a2 a3 a4 g_19 10 a2 a3 (0 : Int32) g_19)
def f_X6_twoTurns (g : Mem) (p0 : Int32) : Int32 × Mem := if (f_X6_isIn p0 (0 : Int32) (1 : Int32)) = 0 then (((-1 : Int32), g)) else (f_X6_twoTurns_19 g p0 10 (-4 : Int32) (-1 : Int32) (0 : Int32) g)
def r_X6_twoTurns (g : Mem) (p0 : Int32) : Int32 := (f_X6_twoTurns g p0).1
def m_X6_twoTurns (g : Mem) (p0 : Int32) : Mem := (f_X6_twoTurns g p0).2
theorem e_X6_twoTurns (g : Mem) (p0 : Int32) : (r_X6_twoTurns g p0, m_X6_twoTurns g p0) = f_X6_twoTurns g p0 := by unfold r_X6_twoTurns m_X6_twoTurns; exact pmk_eta _
theorem yk_X6_twoTurns : yokV yX6_twoTurns RX6 cX6_twoTurns 7 (some .int) 1 := ⟨w_993, w_991, w_992, w_8, by decide +kernel⟩
set_option maxHeartbeats 4000000 in
set_option maxRecDepth 100000 in
theorem c_X6_twoTurns (l : Launch) (z : ZM) (g : Mem) (p0 : Int32) (hI : InM g) : ctM l yX6_twoTurns cX6_twoTurns 7 (some .int) 6 131 z g [.ref (yad z 0), .int p0] (qIM z (r_X6_twoTurns g p0, m_X6_twoTurns g p0)) := by
  rw [e_X6_twoTurns]
  refine ct_of (own := RX6) (q := fun r => qIM z r) (res := f_X6_twoTurns g p0) (lv := [(0, .ref (yad z 0)), (1, .int p0)]) enokM rfl (by decide) (Nat.le_of_ble_eq_true rfl) rfl (fun p e s m args below meth c C0 hrt hlk => ?_)
  unfold f_X6_twoTurns
  refine j_iload_n C0 1 dX6_twoTurns_0 rfl rfl ?_
  refine j_iconst C0 (v := 0) dX6_twoTurns_1 (by decide) ?_
  refine j_iconst C0 (v := 1) dX6_twoTurns_2 (by decide) ?_
  refine j_callSi C0 (c_X6_isIn l z _ _ _ _) yk_X6_isIn w_872 ⟨Nat.le_of_ble_eq_true rfl, Nat.le_of_ble_eq_true rfl⟩ rfl rfl (Nat.le_of_ble_eq_true rfl) dX6_twoTurns_3 ?_
  refine j_if_ne C0 11 dX6_twoTurns_6 (by decide) (fun c_6 => ?_) (fun c_6 => ?_)
  · refine j_iconst C0 (v := (-1)) dX6_twoTurns_9 (by decide) ?_
    exact j_iretM C0 hrt hlk dX6_twoTurns_10
  · refine j_bipush C0 (v := (-4)) dX6_twoTurns_11 (by decide) ?_
    refine j_istore_n C0 (lv' := [(2, _), (0, _), (1, _)]) dX6_twoTurns_13 rfl (by decide) rfl ?_
    refine j_iconst C0 (v := (-1)) dX6_twoTurns_14 (by decide) ?_
    refine j_istore_n C0 (lv' := [(3, _), (2, _), (0, _), (1, _)]) dX6_twoTurns_15 rfl (by decide) rfl ?_
    refine j_iconst C0 (v := 0) dX6_twoTurns_16 (by decide) ?_
    refine j_istore C0 (lv' := [(4, _), (3, _), (2, _), (0, _), (1, _)]) dX6_twoTurns_17 (by decide) rfl ?_
    have L19 : ∀ (n0 : Nat) (a2 : Int32) (a3 : Int32) (a4 : Int32) (g_19 : Mem), lc a4 (g 1 0) n0 → NK 2 g g_19 → jj p l e { frames := 6, cells := 0, slots := 0, locals := 131 } s m args below meth c (yA z) (yD z) 14 (yad z) (celM z) 7 (fun r => MQ below (qIM z r) args s 0 0 (yA z)) (f_X6_twoTurns_19 g p0 n0 a2 a3 a4 g_19) g_19 19 [(0, .ref (yad z 0)), (1, .int p0), (2, .int a2), (3, .int a3), (4, .int a4)] [] := by
      intro n0
      induction n0 with
      | zero => intro a2 a3 a4 g_19 hL0 hN0; exact absurd hL0.2 (Nat.not_lt_zero _)
      | succ n0 ih0 =>
        intro a2 a3 a4 g_19 hL0 hN0
        rw [f_X6_twoTurns_19]
        refine j_iload C0 4 dX6_twoTurns_19 rfl ?_
        refine j_aload_n C0 0 dX6_twoTurns_21 rfl rfl ?_
        refine g_Model_s C0 w_800 dX6_twoTurns_22 ?_
        refine j_iconst C0 (v := 0) dX6_twoTurns_25 (by decide) ?_
        refine a_Ml C0 (by decide) ixl_0 vl57_0 dX6_twoTurns_26 ?_
        refine j_icmp_ge C0 130 dX6_twoTurns_27 (by decide) (fun c_27 => ?_) (fun c_27 => ?_)
        · refine j_iload_n C0 1 dX6_twoTurns_130 rfl rfl ?_
          refine j_iconst C0 (v := 1) dX6_twoTurns_131 (by decide) ?_
          refine j_icmp_ne C0 139 dX6_twoTurns_132 (by decide) (fun c_132 => ?_) (fun c_132 => ?_)
          · refine j_iload_n C0 2 dX6_twoTurns_135 rfl rfl ?_
            refine j_goto C0 144 dX6_twoTurns_136 (by decide) ?_
            exact j_iretM C0 hrt hlk dX6_twoTurns_144
          · refine j_iconst C0 (v := 0) dX6_twoTurns_139 (by decide) ?_
            refine j_iload_n C0 3 dX6_twoTurns_140 rfl rfl ?_
            refine j_callSi C0 (c_X6_most l z _ _ _) yk_X6_most w_931 ⟨Nat.le_of_ble_eq_true rfl, Nat.le_of_ble_eq_true rfl⟩ rfl rfl (Nat.le_of_ble_eq_true rfl) dX6_twoTurns_141 ?_
            exact j_iretM C0 hrt hlk dX6_twoTurns_144
        · have hv_a4 : vp_in a4 9 := vin_lc hL0 (hN0 1 0 (by decide) ▸ c_27) (InM_s9 hI)
          refine j_iconst C0 (v := 0) dX6_twoTurns_30 (by decide) ?_
          refine j_istore C0 (lv' := [(5, _), (0, _), (1, _), (2, _), (3, _), (4, _)]) dX6_twoTurns_31 (by decide) rfl ?_
          have L33 : ∀ (n1 : Nat) (b2 : Int32) (b3 : Int32) (b5 : Int32) (g_33 : Mem), lc b5 (g 1 0) n1 → NK 2 g g_33 → jj p l e { frames := 6, cells := 0, slots := 0, locals := 131 } s m args below meth c (yA z) (yD z) 14 (yad z) (celM z) 7 (fun r => MQ below (qIM z r) args s 0 0 (yA z)) (f_X6_twoTurns_33 g p0 (fun a2' a3' a4' g_19' => f_X6_twoTurns_19 g p0 n0 a2' a3' a4' g_19') a2 a3 a4 g_19 n1 b2 b3 b5 g_33) g_33 33 [(0, .ref (yad z 0)), (1, .int p0), (2, .int b2), (3, .int b3), (4, .int a4), (5, .int b5)] [] := by
            intro n1
            induction n1 with
            | zero => intro b2 b3 b5 g_33 hL1 hN1; exact absurd hL1.2 (Nat.not_lt_zero _)
            | succ n1 ih1 =>
              intro b2 b3 b5 g_33 hL1 hN1
              rw [f_X6_twoTurns_33]
              refine j_iload C0 5 dX6_twoTurns_33 rfl ?_
              refine j_aload_n C0 0 dX6_twoTurns_35 rfl rfl ?_
              refine g_Model_s C0 w_800 dX6_twoTurns_36 ?_
              refine j_iconst C0 (v := 0) dX6_twoTurns_39 (by decide) ?_
              refine a_Ml C0 (by decide) ixl_0 vl57_0 dX6_twoTurns_40 ?_
              refine j_icmp_ge C0 124 dX6_twoTurns_41 (by decide) (fun c_41 => ?_) (fun c_41 => ?_)
              · refine j_iinc C0 (lv' := [(4, _), (0, _), (1, _), (2, _), (3, _), (5, _)]) (v := _ + (1)) 4 dX6_twoTurns_124 rfl (by rfl) (by decide) rfl ?_
                refine j_goto C0 19 dX6_twoTurns_127 (by decide) ?_
                exact j_sub [1, 2, 3, 4, 0] rfl (ih0 _ _ _ _ (lc_stepN hL0 (hN0 1 0 (by decide) ▸ c_27)) hN1)
              · have hv_b5 : vp_in b5 9 := vin_lc hL1 (hN1 1 0 (by decide) ▸ c_41) (InM_s9 hI)
                refine j_aload_n C0 0 dX6_twoTurns_44 rfl rfl ?_
                refine g_Model_s C0 w_800 dX6_twoTurns_45 ?_
                refine j_iload C0 4 dX6_twoTurns_48 rfl ?_
                refine j_iload C0 5 dX6_twoTurns_50 rfl ?_
                refine j_callSi C0 (c_X6_canEat l z _ 1 rw4_1 _ _ hv_a4 hv_b5) yk_X6_canEat w_904 ⟨Nat.le_of_ble_eq_true rfl, Nat.le_of_ble_eq_true rfl⟩ rfl rfl (Nat.le_of_ble_eq_true rfl) dX6_twoTurns_52 ?_
                refine j_if_ne C0 61 dX6_twoTurns_55 (by decide) (fun c_55 => ?_) (fun c_55 => ?_)
                · refine j_goto C0 118 dX6_twoTurns_58 (by decide) ?_
                  refine j_iinc C0 (lv' := [(5, _), (0, _), (1, _), (2, _), (3, _), (4, _)]) (v := _ + (1)) 5 dX6_twoTurns_118 rfl (by rfl) (by decide) rfl ?_
                  refine j_goto C0 33 dX6_twoTurns_121 (by decide) ?_
                  exact j_sub [1, 2, 3, 4, 5, 0] rfl (ih1 _ _ _ _ (lc_stepN hL1 (hN1 1 0 (by decide) ▸ c_41)) (by first | with_reducible exact hN1 | exact NK_tr hN1 (NK_tr NK_cp NK_turnM)))
                · refine j_aload_n C0 0 dX6_twoTurns_61 rfl rfl ?_
                  refine g_Model_s C0 w_800 dX6_twoTurns_62 ?_
                  refine j_aload_n C0 0 dX6_twoTurns_65 rfl rfl ?_
                  refine g_Model_m C0 w_801 dX6_twoTurns_66 ?_
                  refine j_callSv C0 (c_X6_copies l z _ 1 rw4_1 2 rw4_2) yk_X6_copies w_887 ⟨Nat.le_of_ble_eq_true rfl, Nat.le_of_ble_eq_true rfl⟩ rfl rfl (Nat.le_of_ble_eq_true rfl) dX6_twoTurns_69 ?_
                  refine j_aload_n C0 0 dX6_twoTurns_72 rfl rfl ?_
                  refine g_Model_m C0 w_801 dX6_twoTurns_73 ?_
                  refine j_iload C0 4 dX6_twoTurns_76 rfl ?_
                  refine j_iload C0 5 dX6_twoTurns_78 rfl ?_
                  refine j_callSi C0 (c_X6_turn l z _ 2 rw4_2 _ _ hv_a4 hv_b5) yk_X6_turn w_910 ⟨Nat.le_of_ble_eq_true rfl, Nat.le_of_ble_eq_true rfl⟩ rfl rfl (Nat.le_of_ble_eq_true rfl) dX6_twoTurns_80 ?_
                  refine j_istore C0 (lv' := [(6, _), (0, _), (1, _), (2, _), (3, _), (4, _), (5, _)]) dX6_twoTurns_83 (by decide) rfl ?_
                  refine j_iload C0 0 dX6_twoTurns_85 rfl ?_
                  refine j_aload_n C0 1 dX6_twoTurns_87 rfl rfl ?_
                  refine g_Model_m C0 w_801 dX6_twoTurns_88 ?_
                  refine j_callSi C0 (c_X6_bestJoys l z _ 2 rw4_2  (tc_hm (NKM hI hN1) hv_a4 hv_b5)) yk_X6_bestJoys w_983 ⟨Nat.le_of_ble_eq_true rfl, Nat.le_of_ble_eq_true rfl⟩ rfl rfl (Nat.le_of_ble_eq_true rfl) dX6_twoTurns_91 ?_
                  refine j_iadd C0 dX6_twoTurns_94 ?_
                  refine j_istore C0 (lv' := [(6, _), (0, _), (1, _), (2, _), (3, _), (4, _), (5, _)]) dX6_twoTurns_95 (by decide) rfl ?_
                  refine j_iload C0 0 dX6_twoTurns_97 rfl ?_
                  refine j_iload_n C0 4 dX6_twoTurns_99 rfl rfl ?_
                  refine j_icmp_gt C0 106 dX6_twoTurns_100 (by decide) (fun c_100 => ?_) (fun c_100 => ?_)
                  · refine j_bipush C0 (v := 10) dX6_twoTurns_106 (by decide) ?_
                    refine j_iload C0 5 dX6_twoTurns_108 rfl ?_
                    refine j_imul C0 dX6_twoTurns_110 ?_
                    refine j_iload C0 6 dX6_twoTurns_111 rfl ?_
                    refine j_iadd C0 dX6_twoTurns_113 ?_
                    refine j_istore_n C0 (lv' := [(2, _), (6, _), (0, _), (1, _), (3, _), (4, _), (5, _)]) dX6_twoTurns_114 rfl (by decide) rfl ?_
                    refine j_iload C0 1 dX6_twoTurns_115 rfl ?_
                    refine j_istore_n C0 (lv' := [(3, _), (2, _), (6, _), (0, _), (1, _), (4, _), (5, _)]) dX6_twoTurns_117 rfl (by decide) rfl ?_
                    refine j_iinc C0 (lv' := [(5, _), (3, _), (2, _), (6, _), (0, _), (1, _), (4, _)]) (v := _ + (1)) 6 dX6_twoTurns_118 rfl (by rfl) (by decide) rfl ?_
                    refine j_goto C0 33 dX6_twoTurns_121 (by decide) ?_
                    exact j_sub [4, 5, 2, 1, 6, 0] rfl (ih1 _ _ _ _ (lc_stepN hL1 (hN1 1 0 (by decide) ▸ c_41)) (by first | with_reducible exact hN1 | exact NK_tr hN1 (NK_tr NK_cp NK_turnM)))
                  · refine j_goto C0 118 dX6_twoTurns_103 (by decide) ?_
                    refine j_iinc C0 (lv' := [(5, _), (6, _), (0, _), (1, _), (2, _), (3, _), (4, _)]) (v := _ + (1)) 6 dX6_twoTurns_118 rfl (by rfl) (by decide) rfl ?_
                    refine j_goto C0 33 dX6_twoTurns_121 (by decide) ?_
                    exact j_sub [2, 3, 4, 5, 6, 0] rfl (ih1 _ _ _ _ (lc_stepN hL1 (hN1 1 0 (by decide) ▸ c_41)) (by first | with_reducible exact hN1 | exact NK_tr hN1 (NK_tr NK_cp NK_turnM)))
          exact j_sub [1, 2, 3, 4, 5, 0] rfl (L33 10 _ _ _ _ (lc_0 (by have := InM_s hI; omega) (by decide)) hN0)
    exact j_sub [3, 4, 2, 1, 0] rfl (L19 10 _ _ _ _ (lc_0 (by have := InM_s hI; omega) (by decide)) NK.rf)
def f_X6_greedily_37 (g : Mem) (p0 p1 : Int32) : Nat → Int32 → Int32 → Mem → Int32 × Mem
  | 0, _, _, _ => (0, g)
  | n0 + 1, a3, a4, g_37 => if p0 ≤ a4 then (if p1 = 0 then ((a3, g_37)) else ((a4, g_37))) else (if (f_X6_bestIn g_37 2) < 0 then (if p1 = 0 then ((a3, g_37)) else ((a4, g_37))) else (f_X6_greedily_37 g p0 p1 n0 (a3 + (r_X6_turn g_37 2 ((f_X6_bestIn g_37 2) / (10 : Int32)) ((f_X6_bestIn g_37 2) - (f_X6_bestIn g_37 2) / (10 : Int32) * (10 : Int32)))) (a4 + (1 : Int32)) (m_X6_turn g_37 2 ((f_X6_bestIn g_37 2) / (10 : Int32)) ((f_X6_bestIn g_37 2) - (f_X6_bestIn g_37 2) / (10 : Int32) * (10 : Int32)))))
def f_X6_greedily (g : Mem) (p0 p1 : Int32) : Int32 × Mem := if (f_X6_isIn p0 (0 : Int32) (30 : Int32)) = 0 then (((-1 : Int32), g)) else (if (f_X6_isIn p1 (0 : Int32) (1 : Int32)) = 0 then (((-1 : Int32), g)) else (f_X6_greedily_37 g p0 p1 31 (0 : Int32) (0 : Int32) (f_X6_copies g 1 2)))
def r_X6_greedily (g : Mem) (p0 p1 : Int32) : Int32 := (f_X6_greedily g p0 p1).1
def m_X6_greedily (g : Mem) (p0 p1 : Int32) : Mem := (f_X6_greedily g p0 p1).2
theorem e_X6_greedily (g : Mem) (p0 p1 : Int32) : (r_X6_greedily g p0 p1, m_X6_greedily g p0 p1) = f_X6_greedily g p0 p1 := by unfold r_X6_greedily m_X6_greedily; exact pmk_eta _
theorem yk_X6_greedily : yokV yX6_greedily RX6 cX6_greedily 6 (some .int) 2 := ⟨w_1005, w_1003, w_1004, w_8, by decide +kernel⟩
set_option maxHeartbeats 4000000 in
set_option maxRecDepth 100000 in
theorem c_X6_greedily (l : Launch) (z : ZM) (g : Mem) (p0 p1 : Int32) (hI : InM g) : ctM l yX6_greedily cX6_greedily 6 (some .int) 5 110 z g [.ref (yad z 0), .int p0, .int p1] (qIM z (r_X6_greedily g p0 p1, m_X6_greedily g p0 p1)) := by
  rw [e_X6_greedily]
  refine ct_of (own := RX6) (q := fun r => qIM z r) (res := f_X6_greedily g p0 p1) (lv := [(0, .ref (yad z 0)), (1, .int p0), (2, .int p1)]) enokM rfl (by decide) (Nat.le_of_ble_eq_true rfl) rfl (fun p e s m args below meth c C0 hrt hlk => ?_)
  unfold f_X6_greedily
  refine j_iload_n C0 1 dX6_greedily_0 rfl rfl ?_
  refine j_iconst C0 (v := 0) dX6_greedily_1 (by decide) ?_
  refine j_bipush C0 (v := 30) dX6_greedily_2 (by decide) ?_
  refine j_callSi C0 (c_X6_isIn l z _ _ _ _) yk_X6_isIn w_872 ⟨Nat.le_of_ble_eq_true rfl, Nat.le_of_ble_eq_true rfl⟩ rfl rfl (Nat.le_of_ble_eq_true rfl) dX6_greedily_4 ?_
  refine j_if_eq C0 19 dX6_greedily_7 (by decide) (fun c_7 => ?_) (fun c_7 => ?_)
  · refine j_iconst C0 (v := (-1)) dX6_greedily_19 (by decide) ?_
    exact j_iretM C0 hrt hlk dX6_greedily_20
  · refine j_iload_n C0 2 dX6_greedily_10 rfl rfl ?_
    refine j_iconst C0 (v := 0) dX6_greedily_11 (by decide) ?_
    refine j_iconst C0 (v := 1) dX6_greedily_12 (by decide) ?_
    refine j_callSi C0 (c_X6_isIn l z _ _ _ _) yk_X6_isIn w_872 ⟨Nat.le_of_ble_eq_true rfl, Nat.le_of_ble_eq_true rfl⟩ rfl rfl (Nat.le_of_ble_eq_true rfl) dX6_greedily_13 ?_
    refine j_if_ne C0 21 dX6_greedily_16 (by decide) (fun c_16 => ?_) (fun c_16 => ?_)
    · refine j_iconst C0 (v := (-1)) dX6_greedily_19 (by decide) ?_
      exact j_iretM C0 hrt hlk dX6_greedily_20
    · refine j_aload_n C0 0 dX6_greedily_21 rfl rfl ?_
      refine g_Model_s C0 w_800 dX6_greedily_22 ?_
      refine j_aload_n C0 0 dX6_greedily_25 rfl rfl ?_
      refine g_Model_m C0 w_801 dX6_greedily_26 ?_
      refine j_callSv C0 (c_X6_copies l z _ 1 rw4_1 2 rw4_2) yk_X6_copies w_887 ⟨Nat.le_of_ble_eq_true rfl, Nat.le_of_ble_eq_true rfl⟩ rfl rfl (Nat.le_of_ble_eq_true rfl) dX6_greedily_29 ?_
      refine j_iconst C0 (v := 0) dX6_greedily_32 (by decide) ?_
      refine j_istore_n C0 (lv' := [(3, _), (0, _), (1, _), (2, _)]) dX6_greedily_33 rfl (by decide) rfl ?_
      refine j_iconst C0 (v := 0) dX6_greedily_34 (by decide) ?_
      refine j_istore C0 (lv' := [(4, _), (3, _), (0, _), (1, _), (2, _)]) dX6_greedily_35 (by decide) rfl ?_
      have L37 : ∀ (n0 : Nat) (a3 : Int32) (a4 : Int32) (g_37 : Mem), lc a4 p0 n0 → (g_37 2 0).toInt ≤ 9 → jj p l e { frames := 5, cells := 0, slots := 0, locals := 110 } s m args below meth c (yA z) (yD z) 14 (yad z) (celM z) 6 (fun r => MQ below (qIM z r) args s 0 0 (yA z)) (f_X6_greedily_37 g p0 p1 n0 a3 a4 g_37) g_37 37 [(0, .ref (yad z 0)), (1, .int p0), (2, .int p1), (3, .int a3), (4, .int a4)] [] := by
        intro n0
        induction n0 with
        | zero => intro a3 a4 g_37 hL hm; exact absurd hL.2 (Nat.not_lt_zero _)
        | succ n0 ih0 =>
          intro a3 a4 g_37 hL hm
          rw [f_X6_greedily_37]
          refine j_iload C0 4 dX6_greedily_37 rfl ?_
          refine j_iload_n C0 1 dX6_greedily_39 rfl rfl ?_
          refine j_icmp_ge C0 88 dX6_greedily_40 (by decide) (fun c_40 => ?_) (fun c_40 => ?_)
          · refine j_iload_n C0 2 dX6_greedily_88 rfl rfl ?_
            refine j_if_ne C0 96 dX6_greedily_89 (by decide) (fun c_89 => ?_) (fun c_89 => ?_)
            · refine j_iload_n C0 3 dX6_greedily_92 rfl rfl ?_
              refine j_goto C0 98 dX6_greedily_93 (by decide) ?_
              exact j_iretM C0 hrt hlk dX6_greedily_98
            · refine j_iload C0 4 dX6_greedily_96 rfl ?_
              exact j_iretM C0 hrt hlk dX6_greedily_98
          · refine j_aload_n C0 0 dX6_greedily_43 rfl rfl ?_
            refine g_Model_m C0 w_801 dX6_greedily_44 ?_
            refine j_callSi C0 (c_X6_bestIn l z _ 2 rw4_2  hm) yk_X6_bestIn w_980 ⟨Nat.le_of_ble_eq_true rfl, Nat.le_of_ble_eq_true rfl⟩ rfl rfl (Nat.le_of_ble_eq_true rfl) dX6_greedily_47 ?_
            refine j_if_lt C0 88 dX6_greedily_50 (by decide) (fun c_50 => ?_) (fun c_50 => ?_)
            · refine j_iload_n C0 2 dX6_greedily_88 rfl rfl ?_
              refine j_if_ne C0 96 dX6_greedily_89 (by decide) (fun c_89 => ?_) (fun c_89 => ?_)
              · refine j_iload_n C0 3 dX6_greedily_92 rfl rfl ?_
                refine j_goto C0 98 dX6_greedily_93 (by decide) ?_
                exact j_iretM C0 hrt hlk dX6_greedily_98
              · refine j_iload C0 4 dX6_greedily_96 rfl ?_
                exact j_iretM C0 hrt hlk dX6_greedily_98
            · have hbt := bestIn_in hm (x := _) rfl c_50
              refine j_aload_n C0 0 dX6_greedily_53 rfl rfl ?_
              refine g_Model_m C0 w_801 dX6_greedily_54 ?_
              refine j_callSi C0 (c_X6_bestIn l z _ 2 rw4_2  hm) yk_X6_bestIn w_980 ⟨Nat.le_of_ble_eq_true rfl, Nat.le_of_ble_eq_true rfl⟩ rfl rfl (Nat.le_of_ble_eq_true rfl) dX6_greedily_57 ?_
              refine j_istore C0 (lv' := [(5, _), (0, _), (1, _), (2, _), (3, _), (4, _)]) dX6_greedily_60 (by decide) rfl ?_
              refine j_iload_n C0 4 dX6_greedily_62 rfl rfl ?_
              refine j_aload_n C0 1 dX6_greedily_63 rfl rfl ?_
              refine g_Model_m C0 w_801 dX6_greedily_64 ?_
              refine j_iload C0 0 dX6_greedily_67 rfl ?_
              refine j_bipush C0 (v := 10) dX6_greedily_69 (by decide) ?_
              refine j_idiv C0 dX6_greedily_71 (by decide) ?_
              refine j_iload C0 0 dX6_greedily_72 rfl ?_
              refine j_bipush C0 (v := 10) dX6_greedily_74 (by decide) ?_
              refine j_irem C0 dX6_greedily_76 (by decide) ?_
              refine j_callSi C0 (c_X6_turn l z _ 2 rw4_2 _ _ hbt.1 hbt.2) yk_X6_turn w_910 ⟨Nat.le_of_ble_eq_true rfl, Nat.le_of_ble_eq_true rfl⟩ rfl rfl (Nat.le_of_ble_eq_true rfl) dX6_greedily_77 ?_
              refine j_iadd C0 dX6_greedily_80 ?_
              refine j_istore_n C0 (lv' := [(3, _), (5, _), (0, _), (1, _), (2, _), (4, _)]) dX6_greedily_81 rfl (by decide) rfl ?_
              refine j_iinc C0 (lv' := [(4, _), (3, _), (5, _), (0, _), (1, _), (2, _)]) (v := _ + (1)) 5 dX6_greedily_82 rfl (by rfl) (by decide) rfl ?_
              refine j_goto C0 37 dX6_greedily_85 (by decide) ?_
              exact j_sub [3, 4, 5, 1, 0] rfl (ih0 _ _ _ (lc_stepN hL c_40) (by rw [turn_0 hbt.1 hbt.2]; exact hm))
      exact j_sub [2, 3, 4, 1, 0] rfl (L37 31 _ _ _ (lc_0 (by have := (isIn_in c_7).2; have e30 : (30 : Int32).toInt = 30 := rfl; omega) (by decide)) (by rw [cp_0]; exact InM_s9 hI))
def f_X6_bring_26 (g : Mem) (p0 : Int32) : Nat → Int32 → Int32 → Int32 → Mem → Int32 × Mem
  | 0, _, _, _, _ => (0, g)
  | n0 + 1, a2, a3, a4, g_26 => if (8 : Int32) ≤ a4 then ((a2, g_26)) else (if a3 < (f_X6_bestJoys (f_X6_adds (f_X6_copies g_26 1 2) 2 a4 p0 (0 : Int32) (9 : Int32)) 2) then (f_X6_bring_26 g p0 n0 a4 (f_X6_bestJoys (f_X6_adds (f_X6_copies g_26 1 2) 2 a4 p0 (0 : Int32) (9 : Int32)) 2) (a4 + (1 : Int32)) (f_X6_adds (f_X6_copies g_26 1 2) 2 a4 p0 (0 : Int32) (9 : Int32))) else (f_X6_bring_26 g p0 n0 a2 a3 (a4 + (1 : Int32)) (f_X6_adds (f_X6_copies g_26 1 2) 2 a4 p0 (0 : Int32) (9 : Int32))))
def f_X6_bring (g : Mem) (p0 : Int32) : Int32 × Mem := if (f_X6_isIn p0 (0 : Int32) (9 : Int32)) = 0 then (((-1 : Int32), g)) else (f_X6_bring_26 g p0 9 (-4 : Int32) (f_X6_bestJoys g 1) (0 : Int32) g)
def r_X6_bring (g : Mem) (p0 : Int32) : Int32 := (f_X6_bring g p0).1
def m_X6_bring (g : Mem) (p0 : Int32) : Mem := (f_X6_bring g p0).2
theorem e_X6_bring (g : Mem) (p0 : Int32) : (r_X6_bring g p0, m_X6_bring g p0) = f_X6_bring g p0 := by unfold r_X6_bring m_X6_bring; exact pmk_eta _
theorem yk_X6_bring : yokV yX6_bring RX6 cX6_bring 6 (some .int) 1 := ⟨w_1017, w_1015, w_1016, w_8, by decide +kernel⟩
set_option maxHeartbeats 4000000 in
set_option maxRecDepth 100000 in
theorem c_X6_bring (l : Launch) (z : ZM) (g : Mem) (p0 : Int32) (hI : InM g) : ctM l yX6_bring cX6_bring 6 (some .int) 6 131 z g [.ref (yad z 0), .int p0] (qIM z (r_X6_bring g p0, m_X6_bring g p0)) := by
  rw [e_X6_bring]
  refine ct_of (own := RX6) (q := fun r => qIM z r) (res := f_X6_bring g p0) (lv := [(0, .ref (yad z 0)), (1, .int p0)]) enokM rfl (by decide) (Nat.le_of_ble_eq_true rfl) rfl (fun p e s m args below meth c C0 hrt hlk => ?_)
  unfold f_X6_bring
  refine j_iload_n C0 1 dX6_bring_0 rfl rfl ?_
  refine j_iconst C0 (v := 0) dX6_bring_1 (by decide) ?_
  refine j_bipush C0 (v := 9) dX6_bring_2 (by decide) ?_
  refine j_callSi C0 (c_X6_isIn l z _ _ _ _) yk_X6_isIn w_872 ⟨Nat.le_of_ble_eq_true rfl, Nat.le_of_ble_eq_true rfl⟩ rfl rfl (Nat.le_of_ble_eq_true rfl) dX6_bring_4 ?_
  refine j_if_ne C0 12 dX6_bring_7 (by decide) (fun c_7 => ?_) (fun c_7 => ?_)
  · refine j_iconst C0 (v := (-1)) dX6_bring_10 (by decide) ?_
    exact j_iretM C0 hrt hlk dX6_bring_11
  · refine j_bipush C0 (v := (-4)) dX6_bring_12 (by decide) ?_
    refine j_istore_n C0 (lv' := [(2, _), (0, _), (1, _)]) dX6_bring_14 rfl (by decide) rfl ?_
    refine j_aload_n C0 1 dX6_bring_15 rfl rfl ?_
    refine g_Model_s C0 w_800 dX6_bring_16 ?_
    refine j_callSi C0 (c_X6_bestJoys l z _ 1 rw4_1  (InM_s9 hI)) yk_X6_bestJoys w_983 ⟨Nat.le_of_ble_eq_true rfl, Nat.le_of_ble_eq_true rfl⟩ rfl rfl (Nat.le_of_ble_eq_true rfl) dX6_bring_19 ?_
    refine j_istore_n C0 (lv' := [(3, _), (2, _), (0, _), (1, _)]) dX6_bring_22 rfl (by decide) rfl ?_
    refine j_iconst C0 (v := 0) dX6_bring_23 (by decide) ?_
    refine j_istore C0 (lv' := [(4, _), (3, _), (2, _), (0, _), (1, _)]) dX6_bring_24 (by decide) rfl ?_
    have L26 : ∀ (n0 : Nat) (a2 : Int32) (a3 : Int32) (a4 : Int32) (g_26 : Mem), lc a4 8 n0 → NK 2 g g_26 → jj p l e { frames := 6, cells := 0, slots := 0, locals := 131 } s m args below meth c (yA z) (yD z) 14 (yad z) (celM z) 6 (fun r => MQ below (qIM z r) args s 0 0 (yA z)) (f_X6_bring_26 g p0 n0 a2 a3 a4 g_26) g_26 26 [(0, .ref (yad z 0)), (1, .int p0), (2, .int a2), (3, .int a3), (4, .int a4)] [] := by
      intro n0
      induction n0 with
      | zero => intro a2 a3 a4 g_26 hL hN; exact absurd hL.2 (Nat.not_lt_zero _)
      | succ n0 ih0 =>
        intro a2 a3 a4 g_26 hL hN
        rw [f_X6_bring_26]
        refine j_iload C0 4 dX6_bring_26 rfl ?_
        refine j_bipush C0 (v := 8) dX6_bring_28 (by decide) ?_
        refine j_icmp_ge C0 87 dX6_bring_30 (by decide) (fun c_30 => ?_) (fun c_30 => ?_)
        · refine j_iload_n C0 2 dX6_bring_87 rfl rfl ?_
          exact j_iretM C0 hrt hlk dX6_bring_88
        · refine j_aload_n C0 0 dX6_bring_33 rfl rfl ?_
          refine g_Model_s C0 w_800 dX6_bring_34 ?_
          refine j_aload_n C0 0 dX6_bring_37 rfl rfl ?_
          refine g_Model_m C0 w_801 dX6_bring_38 ?_
          refine j_callSv C0 (c_X6_copies l z _ 1 rw4_1 2 rw4_2) yk_X6_copies w_887 ⟨Nat.le_of_ble_eq_true rfl, Nat.le_of_ble_eq_true rfl⟩ rfl rfl (Nat.le_of_ble_eq_true rfl) dX6_bring_41 ?_
          refine j_aload_n C0 0 dX6_bring_44 rfl rfl ?_
          refine g_Model_m C0 w_801 dX6_bring_45 ?_
          refine j_iload C0 4 dX6_bring_48 rfl ?_
          refine j_iload_n C0 1 dX6_bring_50 rfl rfl ?_
          refine j_iconst C0 (v := 0) dX6_bring_51 (by decide) ?_
          refine j_bipush C0 (v := 9) dX6_bring_52 (by decide) ?_
          refine j_callSv C0 (c_X6_adds l z _ 2 rw4_2 _ _ _ _ (by first | exact br_vin hI (hN 1 0 (by decide)) | exact br_hm hI (hN 1 0 (by decide)))) yk_X6_adds w_894 ⟨Nat.le_of_ble_eq_true rfl, Nat.le_of_ble_eq_true rfl⟩ rfl rfl (Nat.le_of_ble_eq_true rfl) dX6_bring_54 ?_
          refine j_aload_n C0 0 dX6_bring_57 rfl rfl ?_
          refine g_Model_m C0 w_801 dX6_bring_58 ?_
          refine j_callSi C0 (c_X6_bestJoys l z _ 2 rw4_2  (by first | exact br_vin hI (hN 1 0 (by decide)) | exact br_hm hI (hN 1 0 (by decide)))) yk_X6_bestJoys w_983 ⟨Nat.le_of_ble_eq_true rfl, Nat.le_of_ble_eq_true rfl⟩ rfl rfl (Nat.le_of_ble_eq_true rfl) dX6_bring_61 ?_
          refine j_istore C0 (lv' := [(5, _), (0, _), (1, _), (2, _), (3, _), (4, _)]) dX6_bring_64 (by decide) rfl ?_
          refine j_iload C0 0 dX6_bring_66 rfl ?_
          refine j_iload_n C0 4 dX6_bring_68 rfl rfl ?_
          refine j_icmp_gt C0 75 dX6_bring_69 (by decide) (fun c_69 => ?_) (fun c_69 => ?_)
          · refine j_iload C0 5 dX6_bring_75 rfl ?_
            refine j_istore_n C0 (lv' := [(2, _), (5, _), (0, _), (1, _), (3, _), (4, _)]) dX6_bring_77 rfl (by decide) rfl ?_
            refine j_iload C0 1 dX6_bring_78 rfl ?_
            refine j_istore_n C0 (lv' := [(3, _), (2, _), (5, _), (0, _), (1, _), (4, _)]) dX6_bring_80 rfl (by decide) rfl ?_
            refine j_iinc C0 (lv' := [(4, _), (3, _), (2, _), (5, _), (0, _), (1, _)]) (v := _ + (1)) 5 dX6_bring_81 rfl (by rfl) (by decide) rfl ?_
            refine j_goto C0 26 dX6_bring_84 (by decide) ?_
            exact j_sub [4, 5, 2, 1, 0] rfl (ih0 _ _ _ _ (lc_stepN hL c_30) (NK_tr hN (NK_tr NK_cp NK_adds)))
          · refine j_goto C0 81 dX6_bring_72 (by decide) ?_
            refine j_iinc C0 (lv' := [(4, _), (5, _), (0, _), (1, _), (2, _), (3, _)]) (v := _ + (1)) 5 dX6_bring_81 rfl (by rfl) (by decide) rfl ?_
            refine j_goto C0 26 dX6_bring_84 (by decide) ?_
            exact j_sub [2, 3, 4, 5, 0] rfl (ih0 _ _ _ _ (lc_stepN hL c_30) (NK_tr hN (NK_tr NK_cp NK_adds)))
    exact j_sub [3, 4, 2, 1, 0] rfl (L26 9 _ _ _ _ (lc_0 (by decide) (by decide)) NK.rf)
def f_X6_forged_45 (g : Mem) (p0 : Int32) : Nat → Int32 → Mem → Int32 × Mem
  | 0, _, _ => (0, g)
  | n0 + 1, a3, g_45 => if (g_45 12 (ix p0)) ≤ a3 then (((-4 : Int32), g_45)) else (if (f_X6_isPerson g_45 (g_45 13 (ix (((100 : Int32) * p0) + a3)))) = 0 then (((a3 / (2 : Int32)), g_45)) else (if (f_X6_isPerson g_45 (g_45 13 (ix ((((100 : Int32) * p0) + a3) + (1 : Int32))))) = 0 then (((a3 / (2 : Int32)), g_45)) else (if (f_X6_canEat g_45 2 (g_45 13 (ix (((100 : Int32) * p0) + a3))) (g_45 13 (ix ((((100 : Int32) * p0) + a3) + (1 : Int32))))) = 0 then (((a3 / (2 : Int32)), g_45)) else (f_X6_forged_45 g p0 n0 (a3 + (2 : Int32)) (m_X6_turn g_45 2 (g_45 13 (ix (((100 : Int32) * p0) + a3))) (g_45 13 (ix ((((100 : Int32) * p0) + a3) + (1 : Int32)))))))))
def f_X6_forged (g : Mem) (p0 : Int32) : Int32 × Mem := if (f_X6_wrongRow g p0 (-1 : Int32)) = 0 then (if ((g 12 (ix p0)) - (g 12 (ix p0)) / (2 : Int32) * (2 : Int32)) = (1 : Int32) then (((-13 : Int32), g)) else (if (f_X6_wrongRow g p0 (-1 : Int32)) = 0 then (f_X6_forged_45 g p0 102 (0 : Int32) (f_X6_copies g 1 2)) else (((f_X6_wrongRow g p0 (-1 : Int32)), g)))) else (if (f_X6_wrongRow g p0 (-1 : Int32)) = 0 then (f_X6_forged_45 g p0 102 (0 : Int32) (f_X6_copies g 1 2)) else (((f_X6_wrongRow g p0 (-1 : Int32)), g)))
def r_X6_forged (g : Mem) (p0 : Int32) : Int32 := (f_X6_forged g p0).1
def m_X6_forged (g : Mem) (p0 : Int32) : Mem := (f_X6_forged g p0).2
theorem e_X6_forged (g : Mem) (p0 : Int32) : (r_X6_forged g p0, m_X6_forged g p0) = f_X6_forged g p0 := by unfold r_X6_forged m_X6_forged; exact pmk_eta _
theorem yk_X6_forged : yokV yX6_forged RX6 cX6_forged 7 (some .int) 1 := ⟨w_1095, w_1093, w_1094, w_8, by decide +kernel⟩
set_option maxHeartbeats 4000000 in
set_option maxRecDepth 100000 in
theorem c_X6_forged (l : Launch) (z : ZM) (g : Mem) (p0 : Int32) (hI : InM g) : ctM l yX6_forged cX6_forged 7 (some .int) 5 109 z g [.ref (yad z 0), .int p0] (qIM z (r_X6_forged g p0, m_X6_forged g p0)) := by
  rw [e_X6_forged]
  refine ct_of (own := RX6) (q := fun r => qIM z r) (res := f_X6_forged g p0) (lv := [(0, .ref (yad z 0)), (1, .int p0)]) enokM rfl (by decide) (Nat.le_of_ble_eq_true rfl) rfl (fun p e s m args below meth c C0 hrt hlk => ?_)
  unfold f_X6_forged
  refine j_aload_n C0 0 dX6_forged_0 rfl rfl ?_
  refine j_iload_n C0 1 dX6_forged_1 rfl rfl ?_
  refine j_iconst C0 (v := (-1)) dX6_forged_2 (by decide) ?_
  refine j_callVi C0 (c_X6_wrongRow l z _ _ _ hI) yk_X6_wrongRow w_865 (fun H locs hP _ => recvW C0 hP 0 (by decide) celM_0 rfl) ⟨Nat.le_of_ble_eq_true rfl, Nat.le_of_ble_eq_true rfl⟩ rfl rfl (Nat.le_of_ble_eq_true rfl) dX6_forged_3 ?_
  refine j_istore_n C0 (lv' := [(2, _), (0, _), (1, _)]) dX6_forged_6 rfl (by decide) rfl ?_
  refine j_iload_n C0 0 dX6_forged_7 rfl rfl ?_
  refine j_if_ne C0 26 dX6_forged_8 (by decide) (fun c_8 => ?_) (fun c_8 => ?_)
  · have hv := wrongRow_in c_8
    refine j_aload_n C0 1 dX6_forged_11 rfl rfl ?_
    refine g_Model_size C0 w_817 dX6_forged_12 ?_
    refine j_iload_n C0 2 dX6_forged_15 rfl rfl ?_
    refine a_M C0 (by decide) hv dX6_forged_16 ?_
    refine j_iconst C0 (v := 2) dX6_forged_17 (by decide) ?_
    refine j_irem C0 dX6_forged_18 (by decide) ?_
    refine j_iconst C0 (v := 1) dX6_forged_19 (by decide) ?_
    refine j_icmp_ne C0 26 dX6_forged_20 (by decide) (fun c_20 => ?_) (fun c_20 => ?_)
    · refine j_bipush C0 (v := (-13)) dX6_forged_23 (by decide) ?_
      refine j_istore_n C0 (lv' := [(2, _), (0, _), (1, _)]) dX6_forged_25 rfl (by decide) rfl ?_
      refine j_iload_n C0 0 dX6_forged_26 rfl rfl ?_
      refine j_if_eqF C0 32 dX6_forged_27 (by decide) (by decide) ?_
      refine j_iload_n C0 0 dX6_forged_30 rfl rfl ?_
      exact j_iretM C0 hrt hlk dX6_forged_31
    · refine j_iload_n C0 0 dX6_forged_26 rfl rfl ?_
      refine j_if_eq C0 32 dX6_forged_27 (by decide) (fun c_27 => ?_) (fun c_27 => ?_)
      · have hv := wrongRow_in c_27
        have hev : (g 12 (ix p0)).toInt % 2 = 0 := by first | exact even_of (InM_len0 hI (vin_lt hv)) c_20 | exact absurd c_27 c_8
        refine j_aload_n C0 1 dX6_forged_32 rfl rfl ?_
        refine g_Model_s C0 w_800 dX6_forged_33 ?_
        refine j_aload_n C0 1 dX6_forged_36 rfl rfl ?_
        refine g_Model_m C0 w_801 dX6_forged_37 ?_
        refine j_callSv C0 (c_X6_copies l z _ 1 rw4_1 2 rw4_2) yk_X6_copies w_887 ⟨Nat.le_of_ble_eq_true rfl, Nat.le_of_ble_eq_true rfl⟩ rfl rfl (Nat.le_of_ble_eq_true rfl) dX6_forged_40 ?_
        refine j_iconst C0 (v := 0) dX6_forged_43 (by decide) ?_
        refine j_istore_n C0 (lv' := [(3, _), (2, _), (0, _), (1, _)]) dX6_forged_44 rfl (by decide) rfl ?_
        have L45 : ∀ (n0 : Nat) (a3 : Int32) (g_45 : Mem), (0 ≤ a3.toInt ∧ a3.toInt ≤ 102 ∧ ((g 12 (ix p0)).toInt - a3.toInt).toNat < n0) → NK 2 g g_45 → a3.toInt % 2 = 0 → jj p l e { frames := 5, cells := 0, slots := 0, locals := 109 } s m args below meth c (yA z) (yD z) 14 (yad z) (celM z) 7 (fun r => MQ below (qIM z r) args s 0 0 (yA z)) (f_X6_forged_45 g p0 n0 a3 g_45) g_45 45 [(0, .ref (yad z 0)), (1, .int p0), (3, .int a3)] [] := by
          intro n0
          induction n0 with
          | zero => intro a3 g_45 hL hN hea; exact absurd hL.2.2 (Nat.not_lt_zero _)
          | succ n0 ih0 =>
            intro a3 g_45 hL hN hea
            rw [f_X6_forged_45]
            refine j_iload_n C0 2 dX6_forged_45 rfl rfl ?_
            refine j_aload_n C0 0 dX6_forged_46 rfl rfl ?_
            refine g_Model_size C0 w_817 dX6_forged_47 ?_
            refine j_iload_n C0 1 dX6_forged_50 rfl rfl ?_
            refine a_M C0 (by decide) hv dX6_forged_51 ?_
            refine j_icmp_ge C0 138 dX6_forged_52 (by decide) (fun c_52 => ?_) (fun c_52 => ?_)
            · refine j_bipush C0 (v := (-4)) dX6_forged_138 (by decide) ?_
              exact j_iretM C0 hrt hlk dX6_forged_140
            · have hx := forg_in hL (hN 12 _ (by decide) ▸ c_52) (InM_len hI (vin_lt hv)) hev hea
              refine j_aload_n C0 0 dX6_forged_55 rfl rfl ?_
              refine g_Model_element C0 w_818 dX6_forged_56 ?_
              refine j_bipush C0 (v := 100) dX6_forged_59 (by decide) ?_
              refine j_iload_n C0 1 dX6_forged_61 rfl rfl ?_
              refine j_imul C0 dX6_forged_62 ?_
              refine j_iload_n C0 2 dX6_forged_63 rfl rfl ?_
              refine j_iadd C0 dX6_forged_64 ?_
              refine a_M C0 (by decide) (elt_in hv hx.1) dX6_forged_65 ?_
              refine j_istore C0 (lv' := [(4, _), (0, _), (1, _), (3, _)]) dX6_forged_66 (by decide) rfl ?_
              refine j_aload_n C0 1 dX6_forged_68 rfl rfl ?_
              refine g_Model_element C0 w_818 dX6_forged_69 ?_
              refine j_bipush C0 (v := 100) dX6_forged_72 (by decide) ?_
              refine j_iload_n C0 2 dX6_forged_74 rfl rfl ?_
              refine j_imul C0 dX6_forged_75 ?_
              refine j_iload_n C0 3 dX6_forged_76 rfl rfl ?_
              refine j_iadd C0 dX6_forged_77 ?_
              refine j_iconst C0 (v := 1) dX6_forged_78 (by decide) ?_
              refine j_iadd C0 dX6_forged_79 ?_
              refine a_M C0 (by decide) (elt_in3 hv hx.2) dX6_forged_80 ?_
              refine j_istore C0 (lv' := [(5, _), (4, _), (0, _), (1, _), (3, _)]) dX6_forged_81 (by decide) rfl ?_
              refine j_aload_n C0 2 dX6_forged_83 rfl rfl ?_
              refine j_iload C0 1 dX6_forged_84 rfl ?_
              refine j_callVi C0 (c_X6_isPerson l z _ _ (NKM hI hN)) yk_X6_isPerson w_900 (fun H locs hP _ => recvW C0 hP 0 (by decide) celM_0 rfl) ⟨Nat.le_of_ble_eq_true rfl, Nat.le_of_ble_eq_true rfl⟩ rfl rfl (Nat.le_of_ble_eq_true rfl) dX6_forged_86 ?_
              refine j_if_eq C0 115 dX6_forged_89 (by decide) (fun c_89 => ?_) (fun c_89 => ?_)
              · refine j_iload_n C0 4 dX6_forged_115 rfl rfl ?_
                refine j_iconst C0 (v := 2) dX6_forged_116 (by decide) ?_
                refine j_idiv C0 dX6_forged_117 (by decide) ?_
                exact j_iretM C0 hrt hlk dX6_forged_118
              · have hq1 := isPerson_in (NKM hI hN) c_89
                refine j_aload_n C0 2 dX6_forged_92 rfl rfl ?_
                refine j_iload C0 0 dX6_forged_93 rfl ?_
                refine j_callVi C0 (c_X6_isPerson l z _ _ (NKM hI hN)) yk_X6_isPerson w_900 (fun H locs hP _ => recvW C0 hP 0 (by decide) celM_0 rfl) ⟨Nat.le_of_ble_eq_true rfl, Nat.le_of_ble_eq_true rfl⟩ rfl rfl (Nat.le_of_ble_eq_true rfl) dX6_forged_95 ?_
                refine j_if_eq C0 115 dX6_forged_98 (by decide) (fun c_98 => ?_) (fun c_98 => ?_)
                · refine j_iload_n C0 4 dX6_forged_115 rfl rfl ?_
                  refine j_iconst C0 (v := 2) dX6_forged_116 (by decide) ?_
                  refine j_idiv C0 dX6_forged_117 (by decide) ?_
                  exact j_iretM C0 hrt hlk dX6_forged_118
                · have hq2 := isPerson_in (NKM hI hN) c_98
                  refine j_aload_n C0 2 dX6_forged_101 rfl rfl ?_
                  refine g_Model_m C0 w_801 dX6_forged_102 ?_
                  refine j_iload C0 1 dX6_forged_105 rfl ?_
                  refine j_iload C0 0 dX6_forged_107 rfl ?_
                  refine j_callSi C0 (c_X6_canEat l z _ 2 rw4_2 _ _ hq1 hq2) yk_X6_canEat w_904 ⟨Nat.le_of_ble_eq_true rfl, Nat.le_of_ble_eq_true rfl⟩ rfl rfl (Nat.le_of_ble_eq_true rfl) dX6_forged_109 ?_
                  refine j_if_ne C0 119 dX6_forged_112 (by decide) (fun c_112 => ?_) (fun c_112 => ?_)
                  · refine j_iload_n C0 4 dX6_forged_115 rfl rfl ?_
                    refine j_iconst C0 (v := 2) dX6_forged_116 (by decide) ?_
                    refine j_idiv C0 dX6_forged_117 (by decide) ?_
                    exact j_iretM C0 hrt hlk dX6_forged_118
                  · refine j_aload_n C0 2 dX6_forged_119 rfl rfl ?_
                    refine g_Model_m C0 w_801 dX6_forged_120 ?_
                    refine j_iload C0 1 dX6_forged_123 rfl ?_
                    refine j_iload C0 0 dX6_forged_125 rfl ?_
                    refine j_callSi C0 (c_X6_turn l z _ 2 rw4_2 _ _ hq1 hq2) yk_X6_turn w_910 ⟨Nat.le_of_ble_eq_true rfl, Nat.le_of_ble_eq_true rfl⟩ rfl rfl (Nat.le_of_ble_eq_true rfl) dX6_forged_127 ?_
                    refine j_istore C0 (lv' := [(6, _), (5, _), (4, _), (0, _), (1, _), (3, _)]) dX6_forged_130 (by decide) rfl ?_
                    refine j_iinc C0 (lv' := [(3, _), (6, _), (5, _), (4, _), (0, _), (1, _)]) (v := _ + (2)) 5 dX6_forged_132 rfl (by rfl) (by decide) rfl ?_
                    refine j_goto C0 45 dX6_forged_135 (by decide) ?_
                    exact j_sub [4, 5, 0] rfl (ih0 _ _ (step2 hL (hN 12 _ (by decide) ▸ c_52) (InM_len hI (vin_lt hv))) (NK_tr hN NK_turnM) (even2 hL hea))
        exact j_sub [2, 3, 0] rfl (L45 102 _ _ (by have := InM_len hI (vin_lt hv); have e0 : (0 : Int32).toInt = 0 := rfl; omega) NK_cp (by decide))
      · refine j_iload_n C0 0 dX6_forged_30 rfl rfl ?_
        exact j_iretM C0 hrt hlk dX6_forged_31
  · refine j_iload_n C0 0 dX6_forged_26 rfl rfl ?_
    refine j_if_eq C0 32 dX6_forged_27 (by decide) (fun c_27 => ?_) (fun c_27 => ?_)
    · have hv := wrongRow_in c_27
      have hev : (g 12 (ix p0)).toInt % 2 = 0 := by first | exact even_of (InM_len0 hI (vin_lt hv)) c_20 | exact absurd c_27 c_8
      refine j_aload_n C0 1 dX6_forged_32 rfl rfl ?_
      refine g_Model_s C0 w_800 dX6_forged_33 ?_
      refine j_aload_n C0 1 dX6_forged_36 rfl rfl ?_
      refine g_Model_m C0 w_801 dX6_forged_37 ?_
      refine j_callSv C0 (c_X6_copies l z _ 1 rw4_1 2 rw4_2) yk_X6_copies w_887 ⟨Nat.le_of_ble_eq_true rfl, Nat.le_of_ble_eq_true rfl⟩ rfl rfl (Nat.le_of_ble_eq_true rfl) dX6_forged_40 ?_
      refine j_iconst C0 (v := 0) dX6_forged_43 (by decide) ?_
      refine j_istore_n C0 (lv' := [(3, _), (2, _), (0, _), (1, _)]) dX6_forged_44 rfl (by decide) rfl ?_
      have L45 : ∀ (n0 : Nat) (a3 : Int32) (g_45 : Mem), (0 ≤ a3.toInt ∧ a3.toInt ≤ 102 ∧ ((g 12 (ix p0)).toInt - a3.toInt).toNat < n0) → NK 2 g g_45 → a3.toInt % 2 = 0 → jj p l e { frames := 5, cells := 0, slots := 0, locals := 109 } s m args below meth c (yA z) (yD z) 14 (yad z) (celM z) 7 (fun r => MQ below (qIM z r) args s 0 0 (yA z)) (f_X6_forged_45 g p0 n0 a3 g_45) g_45 45 [(0, .ref (yad z 0)), (1, .int p0), (3, .int a3)] [] := by
        intro n0
        induction n0 with
        | zero => intro a3 g_45 hL hN hea; exact absurd hL.2.2 (Nat.not_lt_zero _)
        | succ n0 ih0 =>
          intro a3 g_45 hL hN hea
          rw [f_X6_forged_45]
          refine j_iload_n C0 2 dX6_forged_45 rfl rfl ?_
          refine j_aload_n C0 0 dX6_forged_46 rfl rfl ?_
          refine g_Model_size C0 w_817 dX6_forged_47 ?_
          refine j_iload_n C0 1 dX6_forged_50 rfl rfl ?_
          refine a_M C0 (by decide) hv dX6_forged_51 ?_
          refine j_icmp_ge C0 138 dX6_forged_52 (by decide) (fun c_52 => ?_) (fun c_52 => ?_)
          · refine j_bipush C0 (v := (-4)) dX6_forged_138 (by decide) ?_
            exact j_iretM C0 hrt hlk dX6_forged_140
          · have hx := forg_in hL (hN 12 _ (by decide) ▸ c_52) (InM_len hI (vin_lt hv)) hev hea
            refine j_aload_n C0 0 dX6_forged_55 rfl rfl ?_
            refine g_Model_element C0 w_818 dX6_forged_56 ?_
            refine j_bipush C0 (v := 100) dX6_forged_59 (by decide) ?_
            refine j_iload_n C0 1 dX6_forged_61 rfl rfl ?_
            refine j_imul C0 dX6_forged_62 ?_
            refine j_iload_n C0 2 dX6_forged_63 rfl rfl ?_
            refine j_iadd C0 dX6_forged_64 ?_
            refine a_M C0 (by decide) (elt_in hv hx.1) dX6_forged_65 ?_
            refine j_istore C0 (lv' := [(4, _), (0, _), (1, _), (3, _)]) dX6_forged_66 (by decide) rfl ?_
            refine j_aload_n C0 1 dX6_forged_68 rfl rfl ?_
            refine g_Model_element C0 w_818 dX6_forged_69 ?_
            refine j_bipush C0 (v := 100) dX6_forged_72 (by decide) ?_
            refine j_iload_n C0 2 dX6_forged_74 rfl rfl ?_
            refine j_imul C0 dX6_forged_75 ?_
            refine j_iload_n C0 3 dX6_forged_76 rfl rfl ?_
            refine j_iadd C0 dX6_forged_77 ?_
            refine j_iconst C0 (v := 1) dX6_forged_78 (by decide) ?_
            refine j_iadd C0 dX6_forged_79 ?_
            refine a_M C0 (by decide) (elt_in3 hv hx.2) dX6_forged_80 ?_
            refine j_istore C0 (lv' := [(5, _), (4, _), (0, _), (1, _), (3, _)]) dX6_forged_81 (by decide) rfl ?_
            refine j_aload_n C0 2 dX6_forged_83 rfl rfl ?_
            refine j_iload C0 1 dX6_forged_84 rfl ?_
            refine j_callVi C0 (c_X6_isPerson l z _ _ (NKM hI hN)) yk_X6_isPerson w_900 (fun H locs hP _ => recvW C0 hP 0 (by decide) celM_0 rfl) ⟨Nat.le_of_ble_eq_true rfl, Nat.le_of_ble_eq_true rfl⟩ rfl rfl (Nat.le_of_ble_eq_true rfl) dX6_forged_86 ?_
            refine j_if_eq C0 115 dX6_forged_89 (by decide) (fun c_89 => ?_) (fun c_89 => ?_)
            · refine j_iload_n C0 4 dX6_forged_115 rfl rfl ?_
              refine j_iconst C0 (v := 2) dX6_forged_116 (by decide) ?_
              refine j_idiv C0 dX6_forged_117 (by decide) ?_
              exact j_iretM C0 hrt hlk dX6_forged_118
            · have hq1 := isPerson_in (NKM hI hN) c_89
              refine j_aload_n C0 2 dX6_forged_92 rfl rfl ?_
              refine j_iload C0 0 dX6_forged_93 rfl ?_
              refine j_callVi C0 (c_X6_isPerson l z _ _ (NKM hI hN)) yk_X6_isPerson w_900 (fun H locs hP _ => recvW C0 hP 0 (by decide) celM_0 rfl) ⟨Nat.le_of_ble_eq_true rfl, Nat.le_of_ble_eq_true rfl⟩ rfl rfl (Nat.le_of_ble_eq_true rfl) dX6_forged_95 ?_
              refine j_if_eq C0 115 dX6_forged_98 (by decide) (fun c_98 => ?_) (fun c_98 => ?_)
              · refine j_iload_n C0 4 dX6_forged_115 rfl rfl ?_
                refine j_iconst C0 (v := 2) dX6_forged_116 (by decide) ?_
                refine j_idiv C0 dX6_forged_117 (by decide) ?_
                exact j_iretM C0 hrt hlk dX6_forged_118
              · have hq2 := isPerson_in (NKM hI hN) c_98
                refine j_aload_n C0 2 dX6_forged_101 rfl rfl ?_
                refine g_Model_m C0 w_801 dX6_forged_102 ?_
                refine j_iload C0 1 dX6_forged_105 rfl ?_
                refine j_iload C0 0 dX6_forged_107 rfl ?_
                refine j_callSi C0 (c_X6_canEat l z _ 2 rw4_2 _ _ hq1 hq2) yk_X6_canEat w_904 ⟨Nat.le_of_ble_eq_true rfl, Nat.le_of_ble_eq_true rfl⟩ rfl rfl (Nat.le_of_ble_eq_true rfl) dX6_forged_109 ?_
                refine j_if_ne C0 119 dX6_forged_112 (by decide) (fun c_112 => ?_) (fun c_112 => ?_)
                · refine j_iload_n C0 4 dX6_forged_115 rfl rfl ?_
                  refine j_iconst C0 (v := 2) dX6_forged_116 (by decide) ?_
                  refine j_idiv C0 dX6_forged_117 (by decide) ?_
                  exact j_iretM C0 hrt hlk dX6_forged_118
                · refine j_aload_n C0 2 dX6_forged_119 rfl rfl ?_
                  refine g_Model_m C0 w_801 dX6_forged_120 ?_
                  refine j_iload C0 1 dX6_forged_123 rfl ?_
                  refine j_iload C0 0 dX6_forged_125 rfl ?_
                  refine j_callSi C0 (c_X6_turn l z _ 2 rw4_2 _ _ hq1 hq2) yk_X6_turn w_910 ⟨Nat.le_of_ble_eq_true rfl, Nat.le_of_ble_eq_true rfl⟩ rfl rfl (Nat.le_of_ble_eq_true rfl) dX6_forged_127 ?_
                  refine j_istore C0 (lv' := [(6, _), (5, _), (4, _), (0, _), (1, _), (3, _)]) dX6_forged_130 (by decide) rfl ?_
                  refine j_iinc C0 (lv' := [(3, _), (6, _), (5, _), (4, _), (0, _), (1, _)]) (v := _ + (2)) 5 dX6_forged_132 rfl (by rfl) (by decide) rfl ?_
                  refine j_goto C0 45 dX6_forged_135 (by decide) ?_
                  exact j_sub [4, 5, 0] rfl (ih0 _ _ (step2 hL (hN 12 _ (by decide) ▸ c_52) (InM_len hI (vin_lt hv))) (NK_tr hN NK_turnM) (even2 hL hea))
      exact j_sub [2, 3, 0] rfl (L45 102 _ _ (by have := InM_len hI (vin_lt hv); have e0 : (0 : Int32).toInt = 0 := rfl; omega) NK_cp (by decide))
    · refine j_iload_n C0 0 dX6_forged_30 rfl rfl ?_
      exact j_iretM C0 hrt hlk dX6_forged_31
def f_X6_judge_26 (g : Mem) (p0 : Int32) : Nat → Int32 → Mem → Int32 × Mem
  | 0, _, _ => (0, g)
  | n0 + 1, a3, g_26 => if (g_26 12 (ix p0)) ≤ a3 then (((-4 : Int32), g_26)) else (if 0 ≤ (f_X6_bestIn g_26 2) then (if (g_26 13 (ix (((100 : Int32) * p0) + a3))) = (f_X6_leastOf ((m_X6_turn g_26 2 ((f_X6_bestIn g_26 2) / (10 : Int32)) ((f_X6_bestIn g_26 2) - (f_X6_bestIn g_26 2) / (10 : Int32) * (10 : Int32))) 11 (ix p0))) then (f_X6_judge_26 g p0 n0 (a3 + (1 : Int32)) (m_X6_turn g_26 2 ((f_X6_bestIn g_26 2) / (10 : Int32)) ((f_X6_bestIn g_26 2) - (f_X6_bestIn g_26 2) / (10 : Int32) * (10 : Int32)))) else (if (f_X6_bestIn g_26 2) < 0 then ((a3, (m_X6_turn g_26 2 ((f_X6_bestIn g_26 2) / (10 : Int32)) ((f_X6_bestIn g_26 2) - (f_X6_bestIn g_26 2) / (10 : Int32) * (10 : Int32))))) else (if (g_26 13 (ix (((100 : Int32) * p0) + a3))) = (r_X6_turn g_26 2 ((f_X6_bestIn g_26 2) / (10 : Int32)) ((f_X6_bestIn g_26 2) - (f_X6_bestIn g_26 2) / (10 : Int32) * (10 : Int32))) then (f_X6_judge_26 g p0 n0 (a3 + (1 : Int32)) (m_X6_turn g_26 2 ((f_X6_bestIn g_26 2) / (10 : Int32)) ((f_X6_bestIn g_26 2) - (f_X6_bestIn g_26 2) / (10 : Int32) * (10 : Int32)))) else ((a3, (m_X6_turn g_26 2 ((f_X6_bestIn g_26 2) / (10 : Int32)) ((f_X6_bestIn g_26 2) - (f_X6_bestIn g_26 2) / (10 : Int32) * (10 : Int32)))))))) else (if (g_26 13 (ix (((100 : Int32) * p0) + a3))) = (f_X6_leastOf (g_26 11 (ix p0))) then (f_X6_judge_26 g p0 n0 (a3 + (1 : Int32)) g_26) else (if (f_X6_bestIn g_26 2) < 0 then ((a3, g_26)) else (if (g_26 13 (ix (((100 : Int32) * p0) + a3))) = (0 : Int32) then (f_X6_judge_26 g p0 n0 (a3 + (1 : Int32)) g_26) else ((a3, g_26))))))
def f_X6_judge (g : Mem) (p0 : Int32) : Int32 × Mem := if (f_X6_wrongRow g p0 (-1 : Int32)) = 0 then (f_X6_judge_26 g p0 101 (0 : Int32) (f_X6_copies g 1 2)) else (((f_X6_wrongRow g p0 (-1 : Int32)), g))
def r_X6_judge (g : Mem) (p0 : Int32) : Int32 := (f_X6_judge g p0).1
def m_X6_judge (g : Mem) (p0 : Int32) : Mem := (f_X6_judge g p0).2
theorem e_X6_judge (g : Mem) (p0 : Int32) : (r_X6_judge g p0, m_X6_judge g p0) = f_X6_judge g p0 := by unfold r_X6_judge m_X6_judge; exact pmk_eta _
theorem yk_X6_judge : yokV yX6_judge RX6 cX6_judge 7 (some .int) 1 := ⟨w_1099, w_1097, w_1098, w_8, by decide +kernel⟩
set_option maxHeartbeats 4000000 in
set_option maxRecDepth 100000 in
theorem c_X6_judge (l : Launch) (z : ZM) (g : Mem) (p0 : Int32) (hI : InM g) : ctM l yX6_judge cX6_judge 7 (some .int) 5 110 z g [.ref (yad z 0), .int p0] (qIM z (r_X6_judge g p0, m_X6_judge g p0)) := by
  rw [e_X6_judge]
  refine ct_of (own := RX6) (q := fun r => qIM z r) (res := f_X6_judge g p0) (lv := [(0, .ref (yad z 0)), (1, .int p0)]) enokM rfl (by decide) (Nat.le_of_ble_eq_true rfl) rfl (fun p e s m args below meth c C0 hrt hlk => ?_)
  unfold f_X6_judge
  refine j_aload_n C0 0 dX6_judge_0 rfl rfl ?_
  refine j_iload_n C0 1 dX6_judge_1 rfl rfl ?_
  refine j_iconst C0 (v := (-1)) dX6_judge_2 (by decide) ?_
  refine j_callVi C0 (c_X6_wrongRow l z _ _ _ hI) yk_X6_wrongRow w_865 (fun H locs hP _ => recvW C0 hP 0 (by decide) celM_0 rfl) ⟨Nat.le_of_ble_eq_true rfl, Nat.le_of_ble_eq_true rfl⟩ rfl rfl (Nat.le_of_ble_eq_true rfl) dX6_judge_3 ?_
  refine j_istore_n C0 (lv' := [(2, _), (0, _), (1, _)]) dX6_judge_6 rfl (by decide) rfl ?_
  refine j_iload_n C0 0 dX6_judge_7 rfl rfl ?_
  refine j_if_eq C0 13 dX6_judge_8 (by decide) (fun c_8 => ?_) (fun c_8 => ?_)
  · have hv := wrongRow_in c_8
    refine j_aload_n C0 1 dX6_judge_13 rfl rfl ?_
    refine g_Model_s C0 w_800 dX6_judge_14 ?_
    refine j_aload_n C0 1 dX6_judge_17 rfl rfl ?_
    refine g_Model_m C0 w_801 dX6_judge_18 ?_
    refine j_callSv C0 (c_X6_copies l z _ 1 rw4_1 2 rw4_2) yk_X6_copies w_887 ⟨Nat.le_of_ble_eq_true rfl, Nat.le_of_ble_eq_true rfl⟩ rfl rfl (Nat.le_of_ble_eq_true rfl) dX6_judge_21 ?_
    refine j_iconst C0 (v := 0) dX6_judge_24 (by decide) ?_
    refine j_istore_n C0 (lv' := [(3, _), (2, _), (0, _), (1, _)]) dX6_judge_25 rfl (by decide) rfl ?_
    have L26 : ∀ (n0 : Nat) (a3 : Int32) (g_26 : Mem), lc a3 (g 12 (ix p0)) n0 → NK 2 g g_26 → (g_26 2 0).toInt ≤ 9 → jj p l e { frames := 5, cells := 0, slots := 0, locals := 110 } s m args below meth c (yA z) (yD z) 14 (yad z) (celM z) 7 (fun r => MQ below (qIM z r) args s 0 0 (yA z)) (f_X6_judge_26 g p0 n0 a3 g_26) g_26 26 [(0, .ref (yad z 0)), (1, .int p0), (3, .int a3)] [] := by
      intro n0
      induction n0 with
      | zero => intro a3 g_26 hL hN hm; exact absurd hL.2 (Nat.not_lt_zero _)
      | succ n0 ih0 =>
        intro a3 g_26 hL hN hm
        rw [f_X6_judge_26]
        refine j_iload_n C0 2 dX6_judge_26 rfl rfl ?_
        refine j_aload_n C0 0 dX6_judge_27 rfl rfl ?_
        refine g_Model_size C0 w_817 dX6_judge_28 ?_
        refine j_iload_n C0 1 dX6_judge_31 rfl rfl ?_
        refine a_M C0 (by decide) hv dX6_judge_32 ?_
        refine j_icmp_ge C0 120 dX6_judge_33 (by decide) (fun c_33 => ?_) (fun c_33 => ?_)
        · refine j_bipush C0 (v := (-4)) dX6_judge_120 (by decide) ?_
          exact j_iretM C0 hrt hlk dX6_judge_122
        · have hx : vp_in a3 100 := vin_lc hL (hN 12 _ (by decide) ▸ c_33) (InM_len hI (vin_lt hv))
          refine j_aload_n C0 0 dX6_judge_36 rfl rfl ?_
          refine g_Model_m C0 w_801 dX6_judge_37 ?_
          refine j_callSi C0 (c_X6_bestIn l z _ 2 rw4_2  hm) yk_X6_bestIn w_980 ⟨Nat.le_of_ble_eq_true rfl, Nat.le_of_ble_eq_true rfl⟩ rfl rfl (Nat.le_of_ble_eq_true rfl) dX6_judge_40 ?_
          refine j_istore C0 (lv' := [(4, _), (0, _), (1, _), (3, _)]) dX6_judge_43 (by decide) rfl ?_
          refine j_aload_n C0 1 dX6_judge_45 rfl rfl ?_
          refine g_Model_element C0 w_818 dX6_judge_46 ?_
          refine j_bipush C0 (v := 100) dX6_judge_49 (by decide) ?_
          refine j_iload_n C0 2 dX6_judge_51 rfl rfl ?_
          refine j_imul C0 dX6_judge_52 ?_
          refine j_iload_n C0 3 dX6_judge_53 rfl rfl ?_
          refine j_iadd C0 dX6_judge_54 ?_
          refine a_M C0 (by decide) (elt_in hv hx) dX6_judge_55 ?_
          refine j_istore C0 (lv' := [(5, _), (4, _), (0, _), (1, _), (3, _)]) dX6_judge_56 (by decide) rfl ?_
          refine j_iload C0 1 dX6_judge_58 rfl ?_
          refine j_if_ge C0 67 dX6_judge_60 (by decide) (fun c_60 => ?_) (fun c_60 => ?_)
          · have hbt := bestIn_in hm (x := _) rfl (nlt_of c_60)
            refine j_aload_n C0 2 dX6_judge_67 rfl rfl ?_
            refine g_Model_m C0 w_801 dX6_judge_68 ?_
            refine j_iload C0 1 dX6_judge_71 rfl ?_
            refine j_bipush C0 (v := 10) dX6_judge_73 (by decide) ?_
            refine j_idiv C0 dX6_judge_75 (by decide) ?_
            refine j_iload C0 1 dX6_judge_76 rfl ?_
            refine j_bipush C0 (v := 10) dX6_judge_78 (by decide) ?_
            refine j_irem C0 dX6_judge_80 (by decide) ?_
            refine j_callSi C0 (c_X6_turn l z _ 2 rw4_2 _ _ hbt.1 hbt.2) yk_X6_turn w_910 ⟨Nat.le_of_ble_eq_true rfl, Nat.le_of_ble_eq_true rfl⟩ rfl rfl (Nat.le_of_ble_eq_true rfl) dX6_judge_81 ?_
            refine j_istore C0 (lv' := [(6, _), (5, _), (4, _), (0, _), (1, _), (3, _)]) dX6_judge_84 (by decide) rfl ?_
            refine j_iload C0 1 dX6_judge_86 rfl ?_
            refine j_aload_n C0 3 dX6_judge_88 rfl rfl ?_
            refine g_Model_sort C0 w_816 dX6_judge_89 ?_
            refine j_iload_n C0 4 dX6_judge_92 rfl rfl ?_
            refine a_M C0 (by decide) hv dX6_judge_93 ?_
            refine j_callSi C0 (c_X6_leastOf l z _ _) yk_X6_leastOf w_1100 ⟨Nat.le_of_ble_eq_true rfl, Nat.le_of_ble_eq_true rfl⟩ rfl rfl (Nat.le_of_ble_eq_true rfl) dX6_judge_94 ?_
            refine j_icmp_eq C0 114 dX6_judge_97 (by decide) (fun c_97 => ?_) (fun c_97 => ?_)
            · refine j_iinc C0 (lv' := [(3, _), (6, _), (5, _), (4, _), (0, _), (1, _)]) (v := _ + (1)) 5 dX6_judge_114 rfl (by rfl) (by decide) rfl ?_
              refine j_goto C0 26 dX6_judge_117 (by decide) ?_
              exact j_sub [4, 5, 0] rfl (ih0 _ _ (lc_stepN hL (hN 12 _ (by decide) ▸ c_33)) (by first | with_reducible exact hN | exact NK_tr hN NK_turnM) (by first | with_reducible exact hm | (rw [turn_0 hbt.1 hbt.2]; exact hm)))
            · refine j_iload C0 2 dX6_judge_100 rfl ?_
              refine j_if_lt C0 112 dX6_judge_102 (by decide) (fun c_102 => ?_) (fun c_102 => ?_)
              · refine j_iload_n C0 5 dX6_judge_112 rfl rfl ?_
                exact j_iretM C0 hrt hlk dX6_judge_113
              · refine j_iload C0 1 dX6_judge_105 rfl ?_
                refine j_iload C0 0 dX6_judge_107 rfl ?_
                refine j_icmp_eq C0 114 dX6_judge_109 (by decide) (fun c_109 => ?_) (fun c_109 => ?_)
                · refine j_iinc C0 (lv' := [(3, _), (6, _), (5, _), (4, _), (0, _), (1, _)]) (v := _ + (1)) 5 dX6_judge_114 rfl (by rfl) (by decide) rfl ?_
                  refine j_goto C0 26 dX6_judge_117 (by decide) ?_
                  exact j_sub [4, 5, 0] rfl (ih0 _ _ (lc_stepN hL (hN 12 _ (by decide) ▸ c_33)) (by first | with_reducible exact hN | exact NK_tr hN NK_turnM) (by first | with_reducible exact hm | (rw [turn_0 hbt.1 hbt.2]; exact hm)))
                · refine j_iload_n C0 5 dX6_judge_112 rfl rfl ?_
                  exact j_iretM C0 hrt hlk dX6_judge_113
          · refine j_iconst C0 (v := 0) dX6_judge_63 (by decide) ?_
            refine j_goto C0 84 dX6_judge_64 (by decide) ?_
            refine j_istore C0 (lv' := [(6, _), (5, _), (4, _), (0, _), (1, _), (3, _)]) dX6_judge_84 (by decide) rfl ?_
            refine j_iload C0 1 dX6_judge_86 rfl ?_
            refine j_aload_n C0 3 dX6_judge_88 rfl rfl ?_
            refine g_Model_sort C0 w_816 dX6_judge_89 ?_
            refine j_iload_n C0 4 dX6_judge_92 rfl rfl ?_
            refine a_M C0 (by decide) hv dX6_judge_93 ?_
            refine j_callSi C0 (c_X6_leastOf l z _ _) yk_X6_leastOf w_1100 ⟨Nat.le_of_ble_eq_true rfl, Nat.le_of_ble_eq_true rfl⟩ rfl rfl (Nat.le_of_ble_eq_true rfl) dX6_judge_94 ?_
            refine j_icmp_eq C0 114 dX6_judge_97 (by decide) (fun c_97 => ?_) (fun c_97 => ?_)
            · refine j_iinc C0 (lv' := [(3, _), (6, _), (5, _), (4, _), (0, _), (1, _)]) (v := _ + (1)) 5 dX6_judge_114 rfl (by rfl) (by decide) rfl ?_
              refine j_goto C0 26 dX6_judge_117 (by decide) ?_
              exact j_sub [4, 5, 0] rfl (ih0 _ _ (lc_stepN hL (hN 12 _ (by decide) ▸ c_33)) (by first | with_reducible exact hN | exact NK_tr hN NK_turnM) (by first | with_reducible exact hm | (rw [turn_0 hbt.1 hbt.2]; exact hm)))
            · refine j_iload C0 2 dX6_judge_100 rfl ?_
              refine j_if_lt C0 112 dX6_judge_102 (by decide) (fun c_102 => ?_) (fun c_102 => ?_)
              · refine j_iload_n C0 5 dX6_judge_112 rfl rfl ?_
                exact j_iretM C0 hrt hlk dX6_judge_113
              · refine j_iload C0 1 dX6_judge_105 rfl ?_
                refine j_iload C0 0 dX6_judge_107 rfl ?_
                refine j_icmp_eq C0 114 dX6_judge_109 (by decide) (fun c_109 => ?_) (fun c_109 => ?_)
                · refine j_iinc C0 (lv' := [(3, _), (6, _), (5, _), (4, _), (0, _), (1, _)]) (v := _ + (1)) 5 dX6_judge_114 rfl (by rfl) (by decide) rfl ?_
                  refine j_goto C0 26 dX6_judge_117 (by decide) ?_
                  exact j_sub [4, 5, 0] rfl (ih0 _ _ (lc_stepN hL (hN 12 _ (by decide) ▸ c_33)) (by first | with_reducible exact hN | exact NK_tr hN NK_turnM) (by first | with_reducible exact hm | (rw [turn_0 hbt.1 hbt.2]; exact hm)))
                · refine j_iload_n C0 5 dX6_judge_112 rfl rfl ?_
                  exact j_iretM C0 hrt hlk dX6_judge_113
    exact j_sub [2, 3, 0] rfl (L26 101 _ _ (lc_0 (by have := InM_len hI (vin_lt hv); omega) (by decide)) NK_cp (by rw [cp_0]; exact InM_s9 hI))
  · refine j_iload_n C0 0 dX6_judge_11 rfl rfl ?_
    exact j_iretM C0 hrt hlk dX6_judge_12
def f_X6_drawn (g : Mem) (p0 : Int32) : Int32 × Mem := ((((((up g 0 12 (((g 0 12) * (1103515245 : Int32)) + (12345 : Int32))) 0 12) &&& (2147483647 : Int32)) / (65536 : Int32)) - ((((up g 0 12 (((g 0 12) * (1103515245 : Int32)) + (12345 : Int32))) 0 12) &&& (2147483647 : Int32)) / (65536 : Int32)) / p0 * p0), (up g 0 12 (((g 0 12) * (1103515245 : Int32)) + (12345 : Int32))))
def r_X6_drawn (g : Mem) (p0 : Int32) : Int32 := (f_X6_drawn g p0).1
def m_X6_drawn (g : Mem) (p0 : Int32) : Mem := (f_X6_drawn g p0).2
theorem e_X6_drawn (g : Mem) (p0 : Int32) : (r_X6_drawn g p0, m_X6_drawn g p0) = f_X6_drawn g p0 := by unfold r_X6_drawn m_X6_drawn; exact pmk_eta _
theorem yk_X6_drawn : yokV yX6_drawn RX6 cX6_drawn 2 (some .int) 1 := ⟨w_1111, w_1110, wp_40, w_8, by decide +kernel⟩
set_option maxHeartbeats 4000000 in
set_option maxRecDepth 100000 in
theorem c_X6_drawn (l : Launch) (z : ZM) (g : Mem) (p0 : Int32) (hn : ¬ p0 = 0) : ctM l yX6_drawn cX6_drawn 2 (some .int) 0 0 z g [.ref (yad z 0), .int p0] (qIM z (r_X6_drawn g p0, m_X6_drawn g p0)) := by
  rw [e_X6_drawn]
  refine ct_of (own := RX6) (q := fun r => qIM z r) (res := f_X6_drawn g p0) (lv := [(0, .ref (yad z 0)), (1, .int p0)]) enokM rfl (by decide) (Nat.le_of_ble_eq_true rfl) rfl (fun p e s m args below meth c C0 hrt hlk => ?_)
  unfold f_X6_drawn
  refine j_aload_n C0 0 dX6_drawn_0 rfl rfl ?_
  refine j_aload_n C0 0 dX6_drawn_1 rfl rfl ?_
  refine g_Model_seed C0 w_812 dX6_drawn_2 ?_
  refine j_ldc C0 dX6_drawn_5 w_1112 ?_
  refine j_imul C0 dX6_drawn_7 ?_
  refine j_sipush C0 (v := 12345) dX6_drawn_8 (by decide) ?_
  refine j_iadd C0 dX6_drawn_11 ?_
  refine p_Model_seed C0 w_812 dX6_drawn_12 ?_
  refine j_aload_n C0 0 dX6_drawn_15 rfl rfl ?_
  refine g_Model_seed C0 w_812 dX6_drawn_16 ?_
  refine j_ldc C0 dX6_drawn_19 w_1113 ?_
  refine j_iand C0 dX6_drawn_21 ?_
  refine j_ldc C0 dX6_drawn_22 w_1114 ?_
  refine j_idiv C0 dX6_drawn_24 (by decide) ?_
  refine j_iload_n C0 1 dX6_drawn_25 rfl rfl ?_
  refine j_irem C0 dX6_drawn_26 hn ?_
  exact j_iretM C0 hrt hlk dX6_drawn_27
theorem drawn_in {g : Mem} {n : Int32} (h0 : 0 ≤ n.toInt) (h : n.toInt ≤ 8) (hn : ¬ n = 0) : vp_in (r_X6_drawn g n) 9 := by
  unfold r_X6_drawn f_X6_drawn
  dsimp only
  obtain ⟨j, hj, e⟩ := pk_andE (up g 0 12 (g 0 12 * 1103515245 + 12345) 0 12) (m := 2147483647) 31 (by decide)
  have h2 : n.toInt ≠ (0 : Int32).toInt := ne_toInt hn
  have e0 : (0 : Int32).toInt = 0 := rfl
  have e6 : (65536 : Int32).toInt = 65536 := rfl
  have hj0 : 0 ≤ (nI j).toInt := by rw [nI_toInt hj]; omega
  have hd : ((up g 0 12 (g 0 12 * 1103515245 + 12345) 0 12 &&& 2147483647) / 65536).toInt = (nI j).toInt / 65536 := by rw [e, div_toInt hj0 (by omega), e6]
  have hd0 : 0 ≤ ((up g 0 12 (g 0 12 * 1103515245 + 12345) 0 12 &&& 2147483647) / 65536).toInt := by rw [hd]; omega
  have hm := mod_toInt hd0 (k := n) (by omega)
  have hm1 := Int.emod_nonneg ((up g 0 12 (g 0 12 * 1103515245 + 12345) 0 12 &&& 2147483647) / 65536).toInt h2
  have hm2 := Int.emod_lt_of_pos ((up g 0 12 (g 0 12 * 1103515245 + 12345) 0 12 &&& 2147483647) / 65536).toInt (show 0 < n.toInt by omega)
  exact vin_of (by rw [hm]; exact hm1) (by rw [hm]; omega)
theorem drawn_o {g : Mem} {n : Int32} {k f : Nat} (h : k ≠ 0) : m_X6_drawn g n k f = g k f := (up_ne (Or.inl h))
theorem fe_n0 {g g2 : Mem} (h : g2 1 0 = g 1 0) (c : ¬ g 1 0 = 0) : ¬ g2 1 0 = 0 := by rw [h]; exact c
theorem fe_n1 {g g2 : Mem} {n : Int32} (h : g2 1 0 = g 1 0) (c : ¬ g 1 0 = 0) : ¬ (m_X6_drawn g2 n) 1 0 = 0 := by rw [drawn_o (by decide), h]; exact c
theorem fe_d0 {g g2 : Mem} (hI : InM g) (h : g2 1 0 = g 1 0) (c : ¬ g 1 0 = 0) : vp_in (r_X6_drawn g2 (g2 1 0)) 9 := by
  rw [h]
  exact drawn_in (InM_s0 hI) (InM_s hI) c
theorem fe_d1 {g g2 : Mem} {n : Int32} (hI : InM g) (h : g2 1 0 = g 1 0) (c : ¬ g 1 0 = 0) : vp_in (r_X6_drawn (m_X6_drawn g2 n) ((m_X6_drawn g2 n) 1 0)) 9 := by
  rw [drawn_o (by decide), h]
  exact drawn_in (InM_s0 hI) (InM_s hI) c
theorem fe_s2 {g g2 : Mem} {n n2 : Int32} (h : g2 1 0 = g 1 0) : m_X6_drawn (m_X6_drawn g2 n) n2 1 0 = g 1 0 := by rw [drawn_o (by decide), drawn_o (by decide), h]
theorem fe_s3 {g g2 : Mem} {n n2 a b : Int32} (h : g2 1 0 = g 1 0) : m_X6_turn (m_X6_drawn (m_X6_drawn g2 n) n2) 2 a b 1 0 = g 1 0 := by rw [NK_turnM 1 0 (by decide), drawn_o (by decide), drawn_o (by decide), h]

def f_X6_fetes_67 (g : Mem) (p0 p1 p2 : Int32) (K0 : Int32 → Int32 → Int32 → Mem → Int32 × Mem) (a4 : Int32) (a5 : Int32) (a6 : Int32) (g_47 : Mem) : Nat → Int32 → Int32 → Int32 → Mem → Int32 × Mem
  | 0, _, _, _, _ => (0, g)
  | n1 + 1, b4, b5, b7, g_67 => if (10 : Int32) ≤ b7 then (K0 b4 b5 (a6 + (1 : Int32)) g_67) else (if (f_X6_canEat (m_X6_drawn (m_X6_drawn g_67 (g_67 1 0)) ((m_X6_drawn g_67 (g_67 1 0)) 1 0)) 2 (r_X6_drawn g_67 (g_67 1 0)) (r_X6_drawn (m_X6_drawn g_67 (g_67 1 0)) ((m_X6_drawn g_67 (g_67 1 0)) 1 0))) = 0 then (f_X6_fetes_67 g p0 p1 p2 K0 a4 a5 a6 g_47 n1 b4 b5 (b7 + (1 : Int32)) (m_X6_drawn (m_X6_drawn g_67 (g_67 1 0)) ((m_X6_drawn g_67 (g_67 1 0)) 1 0))) else (f_X6_fetes_67 g p0 p1 p2 K0 a4 a5 a6 g_47 n1 (b4 + (r_X6_turn (m_X6_drawn (m_X6_drawn g_67 (g_67 1 0)) ((m_X6_drawn g_67 (g_67 1 0)) 1 0)) 2 (r_X6_drawn g_67 (g_67 1 0)) (r_X6_drawn (m_X6_drawn g_67 (g_67 1 0)) ((m_X6_drawn g_67 (g_67 1 0)) 1 0)))) (b5 + (1 : Int32)) (b7 + (1 : Int32)) (m_X6_turn (m_X6_drawn (m_X6_drawn g_67 (g_67 1 0)) ((m_X6_drawn g_67 (g_67 1 0)) 1 0)) 2 (r_X6_drawn g_67 (g_67 1 0)) (r_X6_drawn (m_X6_drawn g_67 (g_67 1 0)) ((m_X6_drawn g_67 (g_67 1 0)) 1 0)))))
def f_X6_fetes_47 (g : Mem) (p0 p1 p2 : Int32) : Nat → Int32 → Int32 → Int32 → Mem → Int32 × Mem
  | 0, _, _, _, _ => (0, g)
  | n0 + 1, a4, a5, a6, g_47 => if p0 ≤ a6 then (if p2 = 0 then ((a4, g_47)) else ((a5, g_47))) else (f_X6_fetes_67 g p0 p1 p2 (fun a4' a5' a6' g_47' => f_X6_fetes_47 g p0 p1 p2 n0 a4' a5' a6' g_47') a4 a5 a6 g_47 11 a4 a5 (0 : Int32) (f_X6_copies g_47 1 2))
def f_X6_fetes (g : Mem) (p0 p1 p2 : Int32) : Int32 × Mem := if (f_X6_isIn p0 (1 : Int32) (20 : Int32)) = 0 then (((-1 : Int32), g)) else (if (f_X6_isIn p2 (0 : Int32) (1 : Int32)) = 0 then (((-1 : Int32), g)) else (if (g 1 0) = 0 then (((-3 : Int32), g)) else (f_X6_fetes_47 g p0 p1 p2 21 (0 : Int32) (0 : Int32) (0 : Int32) (up g 0 12 p1))))
def r_X6_fetes (g : Mem) (p0 p1 p2 : Int32) : Int32 := (f_X6_fetes g p0 p1 p2).1
def m_X6_fetes (g : Mem) (p0 p1 p2 : Int32) : Mem := (f_X6_fetes g p0 p1 p2).2
theorem e_X6_fetes (g : Mem) (p0 p1 p2 : Int32) : (r_X6_fetes g p0 p1 p2, m_X6_fetes g p0 p1 p2) = f_X6_fetes g p0 p1 p2 := by unfold r_X6_fetes m_X6_fetes; exact pmk_eta _
theorem yk_X6_fetes : yokV yX6_fetes RX6 cX6_fetes 10 (some .int) 3 := ⟨w_1107, w_1105, w_1106, w_8, by decide +kernel⟩
set_option maxHeartbeats 4000000 in
set_option maxRecDepth 100000 in
theorem c_X6_fetes (l : Launch) (z : ZM) (g : Mem) (p0 p1 p2 : Int32) (hI : InM g) : ctM l yX6_fetes cX6_fetes 10 (some .int) 5 109 z g [.ref (yad z 0), .int p0, .int p1, .int p2] (qIM z (r_X6_fetes g p0 p1 p2, m_X6_fetes g p0 p1 p2)) := by
  rw [e_X6_fetes]
  refine ct_of (own := RX6) (q := fun r => qIM z r) (res := f_X6_fetes g p0 p1 p2) (lv := [(0, .ref (yad z 0)), (1, .int p0), (2, .int p1), (3, .int p2)]) enokM rfl (by decide) (Nat.le_of_ble_eq_true rfl) rfl (fun p e s m args below meth c C0 hrt hlk => ?_)
  unfold f_X6_fetes
  refine j_iload_n C0 1 dX6_fetes_0 rfl rfl ?_
  refine j_iconst C0 (v := 1) dX6_fetes_1 (by decide) ?_
  refine j_bipush C0 (v := 20) dX6_fetes_2 (by decide) ?_
  refine j_callSi C0 (c_X6_isIn l z _ _ _ _) yk_X6_isIn w_872 ⟨Nat.le_of_ble_eq_true rfl, Nat.le_of_ble_eq_true rfl⟩ rfl rfl (Nat.le_of_ble_eq_true rfl) dX6_fetes_4 ?_
  refine j_if_eq C0 19 dX6_fetes_7 (by decide) (fun c_7 => ?_) (fun c_7 => ?_)
  · refine j_iconst C0 (v := (-1)) dX6_fetes_19 (by decide) ?_
    exact j_iretM C0 hrt hlk dX6_fetes_20
  · refine j_iload_n C0 3 dX6_fetes_10 rfl rfl ?_
    refine j_iconst C0 (v := 0) dX6_fetes_11 (by decide) ?_
    refine j_iconst C0 (v := 1) dX6_fetes_12 (by decide) ?_
    refine j_callSi C0 (c_X6_isIn l z _ _ _ _) yk_X6_isIn w_872 ⟨Nat.le_of_ble_eq_true rfl, Nat.le_of_ble_eq_true rfl⟩ rfl rfl (Nat.le_of_ble_eq_true rfl) dX6_fetes_13 ?_
    refine j_if_ne C0 21 dX6_fetes_16 (by decide) (fun c_16 => ?_) (fun c_16 => ?_)
    · refine j_iconst C0 (v := (-1)) dX6_fetes_19 (by decide) ?_
      exact j_iretM C0 hrt hlk dX6_fetes_20
    · refine j_aload_n C0 0 dX6_fetes_21 rfl rfl ?_
      refine g_Model_s C0 w_800 dX6_fetes_22 ?_
      refine j_iconst C0 (v := 0) dX6_fetes_25 (by decide) ?_
      refine a_Ml C0 (by decide) ixl_0 vl57_0 dX6_fetes_26 ?_
      refine j_if_ne C0 33 dX6_fetes_27 (by decide) (fun c_27 => ?_) (fun c_27 => ?_)
      · refine j_bipush C0 (v := (-3)) dX6_fetes_30 (by decide) ?_
        exact j_iretM C0 hrt hlk dX6_fetes_32
      · refine j_aload_n C0 0 dX6_fetes_33 rfl rfl ?_
        refine j_iload_n C0 2 dX6_fetes_34 rfl rfl ?_
        refine p_Model_seed C0 w_812 dX6_fetes_35 ?_
        refine j_iconst C0 (v := 0) dX6_fetes_38 (by decide) ?_
        refine j_istore C0 (lv' := [(4, _), (0, _), (1, _), (2, _), (3, _)]) dX6_fetes_39 (by decide) rfl ?_
        refine j_iconst C0 (v := 0) dX6_fetes_41 (by decide) ?_
        refine j_istore C0 (lv' := [(5, _), (4, _), (0, _), (1, _), (2, _), (3, _)]) dX6_fetes_42 (by decide) rfl ?_
        refine j_iconst C0 (v := 0) dX6_fetes_44 (by decide) ?_
        refine j_istore C0 (lv' := [(6, _), (5, _), (4, _), (0, _), (1, _), (2, _), (3, _)]) dX6_fetes_45 (by decide) rfl ?_
        have L47 : ∀ (n0 : Nat) (a4 : Int32) (a5 : Int32) (a6 : Int32) (g_47 : Mem), lc a6 p0 n0 → (g_47 1 0 = g 1 0) → jj p l e { frames := 5, cells := 0, slots := 0, locals := 109 } s m args below meth c (yA z) (yD z) 14 (yad z) (celM z) 10 (fun r => MQ below (qIM z r) args s 0 0 (yA z)) (f_X6_fetes_47 g p0 p1 p2 n0 a4 a5 a6 g_47) g_47 47 [(0, .ref (yad z 0)), (1, .int p0), (2, .int p1), (3, .int p2), (4, .int a4), (5, .int a5), (6, .int a6)] [] := by
          intro n0
          induction n0 with
          | zero => intro a4 a5 a6 g_47 hL0 hs0; exact absurd hL0.2 (Nat.not_lt_zero _)
          | succ n0 ih0 =>
            intro a4 a5 a6 g_47 hL0 hs0
            rw [f_X6_fetes_47]
            refine j_iload C0 6 dX6_fetes_47 rfl ?_
            refine j_iload_n C0 1 dX6_fetes_49 rfl rfl ?_
            refine j_icmp_ge C0 146 dX6_fetes_50 (by decide) (fun c_50 => ?_) (fun c_50 => ?_)
            · refine j_iload_n C0 3 dX6_fetes_146 rfl rfl ?_
              refine j_if_ne C0 155 dX6_fetes_147 (by decide) (fun c_147 => ?_) (fun c_147 => ?_)
              · refine j_iload C0 4 dX6_fetes_150 rfl ?_
                refine j_goto C0 157 dX6_fetes_152 (by decide) ?_
                exact j_iretM C0 hrt hlk dX6_fetes_157
              · refine j_iload C0 5 dX6_fetes_155 rfl ?_
                exact j_iretM C0 hrt hlk dX6_fetes_157
            · refine j_aload_n C0 0 dX6_fetes_53 rfl rfl ?_
              refine g_Model_s C0 w_800 dX6_fetes_54 ?_
              refine j_aload_n C0 0 dX6_fetes_57 rfl rfl ?_
              refine g_Model_m C0 w_801 dX6_fetes_58 ?_
              refine j_callSv C0 (c_X6_copies l z _ 1 rw4_1 2 rw4_2) yk_X6_copies w_887 ⟨Nat.le_of_ble_eq_true rfl, Nat.le_of_ble_eq_true rfl⟩ rfl rfl (Nat.le_of_ble_eq_true rfl) dX6_fetes_61 ?_
              refine j_iconst C0 (v := 0) dX6_fetes_64 (by decide) ?_
              refine j_istore C0 (lv' := [(7, _), (0, _), (1, _), (2, _), (3, _), (4, _), (5, _), (6, _)]) dX6_fetes_65 (by decide) rfl ?_
              have L67 : ∀ (n1 : Nat) (b4 : Int32) (b5 : Int32) (b7 : Int32) (g_67 : Mem), lc b7 10 n1 → (g_67 1 0 = g 1 0) → jj p l e { frames := 5, cells := 0, slots := 0, locals := 109 } s m args below meth c (yA z) (yD z) 14 (yad z) (celM z) 10 (fun r => MQ below (qIM z r) args s 0 0 (yA z)) (f_X6_fetes_67 g p0 p1 p2 (fun a4' a5' a6' g_47' => f_X6_fetes_47 g p0 p1 p2 n0 a4' a5' a6' g_47') a4 a5 a6 g_47 n1 b4 b5 b7 g_67) g_67 67 [(0, .ref (yad z 0)), (1, .int p0), (2, .int p1), (3, .int p2), (4, .int b4), (5, .int b5), (6, .int a6), (7, .int b7)] [] := by
                intro n1
                induction n1 with
                | zero => intro b4 b5 b7 g_67 hL1 hs1; exact absurd hL1.2 (Nat.not_lt_zero _)
                | succ n1 ih1 =>
                  intro b4 b5 b7 g_67 hL1 hs1
                  rw [f_X6_fetes_67]
                  refine j_iload C0 7 dX6_fetes_67 rfl ?_
                  refine j_bipush C0 (v := 10) dX6_fetes_69 (by decide) ?_
                  refine j_icmp_ge C0 140 dX6_fetes_71 (by decide) (fun c_71 => ?_) (fun c_71 => ?_)
                  · refine j_iinc C0 (lv' := [(6, _), (0, _), (1, _), (2, _), (3, _), (4, _), (5, _), (7, _)]) (v := _ + (1)) 6 dX6_fetes_140 rfl (by rfl) (by decide) rfl ?_
                    refine j_goto C0 47 dX6_fetes_143 (by decide) ?_
                    exact j_sub [1, 2, 3, 4, 5, 6, 0] rfl (ih0 _ _ _ _ (lc_stepN hL0 c_50) hs1)
                  · refine j_aload_n C0 0 dX6_fetes_74 rfl rfl ?_
                    refine j_aload_n C0 0 dX6_fetes_75 rfl rfl ?_
                    refine g_Model_s C0 w_800 dX6_fetes_76 ?_
                    refine j_iconst C0 (v := 0) dX6_fetes_79 (by decide) ?_
                    refine a_Ml C0 (by decide) ixl_0 vl57_0 dX6_fetes_80 ?_
                    refine j_callVi C0 (c_X6_drawn l z _ _ (by first | exact fe_n0 hs1 c_27 | exact fe_n1 hs1 c_27)) yk_X6_drawn w_1108 (fun H locs hP _ => recvW C0 hP 0 (by decide) celM_0 rfl) ⟨Nat.le_of_ble_eq_true rfl, Nat.le_of_ble_eq_true rfl⟩ rfl rfl (Nat.le_of_ble_eq_true rfl) dX6_fetes_81 ?_
                    refine j_istore C0 (lv' := [(8, _), (0, _), (1, _), (2, _), (3, _), (4, _), (5, _), (6, _), (7, _)]) dX6_fetes_84 (by decide) rfl ?_
                    refine j_aload_n C0 1 dX6_fetes_86 rfl rfl ?_
                    refine j_aload_n C0 1 dX6_fetes_87 rfl rfl ?_
                    refine g_Model_s C0 w_800 dX6_fetes_88 ?_
                    refine j_iconst C0 (v := 0) dX6_fetes_91 (by decide) ?_
                    refine a_Ml C0 (by decide) ixl_0 vl57_0 dX6_fetes_92 ?_
                    refine j_callVi C0 (c_X6_drawn l z _ _ (by first | exact fe_n0 hs1 c_27 | exact fe_n1 hs1 c_27)) yk_X6_drawn w_1108 (fun H locs hP _ => recvW C0 hP 0 (by decide) celM_0 rfl) ⟨Nat.le_of_ble_eq_true rfl, Nat.le_of_ble_eq_true rfl⟩ rfl rfl (Nat.le_of_ble_eq_true rfl) dX6_fetes_93 ?_
                    refine j_istore C0 (lv' := [(9, _), (8, _), (0, _), (1, _), (2, _), (3, _), (4, _), (5, _), (6, _), (7, _)]) dX6_fetes_96 (by decide) rfl ?_
                    refine j_aload_n C0 2 dX6_fetes_98 rfl rfl ?_
                    refine g_Model_m C0 w_801 dX6_fetes_99 ?_
                    refine j_iload C0 1 dX6_fetes_102 rfl ?_
                    refine j_iload C0 0 dX6_fetes_104 rfl ?_
                    refine j_callSi C0 (c_X6_canEat l z _ 2 rw4_2 _ _ (fe_d0 hI hs1 c_27) (fe_d1 hI hs1 c_27)) yk_X6_canEat w_904 ⟨Nat.le_of_ble_eq_true rfl, Nat.le_of_ble_eq_true rfl⟩ rfl rfl (Nat.le_of_ble_eq_true rfl) dX6_fetes_106 ?_
                    refine j_if_ne C0 115 dX6_fetes_109 (by decide) (fun c_109 => ?_) (fun c_109 => ?_)
                    · refine j_goto C0 134 dX6_fetes_112 (by decide) ?_
                      refine j_iinc C0 (lv' := [(7, _), (9, _), (8, _), (0, _), (1, _), (2, _), (3, _), (4, _), (5, _), (6, _)]) (v := _ + (1)) 9 dX6_fetes_134 rfl (by rfl) (by decide) rfl ?_
                      refine j_goto C0 67 dX6_fetes_137 (by decide) ?_
                      exact j_sub [3, 4, 5, 6, 7, 8, 9, 0] rfl (ih1 _ _ _ _ (lc_stepN hL1 c_71) (by first | exact fe_s2 hs1 | exact fe_s3 hs1))
                    · refine j_iload C0 6 dX6_fetes_115 rfl ?_
                      refine j_aload_n C0 2 dX6_fetes_117 rfl rfl ?_
                      refine g_Model_m C0 w_801 dX6_fetes_118 ?_
                      refine j_iload C0 1 dX6_fetes_121 rfl ?_
                      refine j_iload C0 0 dX6_fetes_123 rfl ?_
                      refine j_callSi C0 (c_X6_turn l z _ 2 rw4_2 _ _ (fe_d0 hI hs1 c_27) (fe_d1 hI hs1 c_27)) yk_X6_turn w_910 ⟨Nat.le_of_ble_eq_true rfl, Nat.le_of_ble_eq_true rfl⟩ rfl rfl (Nat.le_of_ble_eq_true rfl) dX6_fetes_125 ?_
                      refine j_iadd C0 dX6_fetes_128 ?_
                      refine j_istore C0 (lv' := [(4, _), (9, _), (8, _), (0, _), (1, _), (2, _), (3, _), (5, _), (6, _), (7, _)]) dX6_fetes_129 (by decide) rfl ?_
                      refine j_iinc C0 (lv' := [(5, _), (4, _), (9, _), (8, _), (0, _), (1, _), (2, _), (3, _), (6, _), (7, _)]) (v := _ + (1)) 7 dX6_fetes_131 rfl (by rfl) (by decide) rfl ?_
                      refine j_iinc C0 (lv' := [(7, _), (5, _), (4, _), (9, _), (8, _), (0, _), (1, _), (2, _), (3, _), (6, _)]) (v := _ + (1)) 9 dX6_fetes_134 rfl (by rfl) (by decide) rfl ?_
                      refine j_goto C0 67 dX6_fetes_137 (by decide) ?_
                      exact j_sub [5, 6, 7, 8, 2, 1, 9, 0] rfl (ih1 _ _ _ _ (lc_stepN hL1 c_71) (by first | exact fe_s2 hs1 | exact fe_s3 hs1))
              exact j_sub [1, 2, 3, 4, 5, 6, 7, 0] rfl (L67 11 _ _ _ _ (lc_0 (by decide) (by decide)) ((copies_o (by decide) (by decide) _).trans hs0))
        exact j_sub [3, 4, 5, 6, 2, 1, 0] rfl (L47 21 _ _ _ _ (lc_0 (by have := (isIn_in c_7).2; have e20 : (20 : Int32).toInt = 20 := rfl; omega) (by decide)) (up_ne (by decide)))
