def f_X5_joysWithASecond (g : Mem) (p0 p1 : Int32) : Int32 × Mem := if 0 ≤ (f_X0_bestTurn (m_X0_turn (f_X0_becomes g 2 0) 2 p0 p1) 2) then ((((r_X0_turn (f_X0_becomes g 2 0) 2 p0 p1) + (f_X0_joysOf (m_X0_turn (f_X0_becomes g 2 0) 2 p0 p1) 2 ((f_X0_bestTurn (m_X0_turn (f_X0_becomes g 2 0) 2 p0 p1) 2) / (10 : Int32)) ((f_X0_bestTurn (m_X0_turn (f_X0_becomes g 2 0) 2 p0 p1) 2) - (f_X0_bestTurn (m_X0_turn (f_X0_becomes g 2 0) 2 p0 p1) 2) / (10 : Int32) * (10 : Int32)))), (m_X0_turn (f_X0_becomes g 2 0) 2 p0 p1))) else (((r_X0_turn (f_X0_becomes g 2 0) 2 p0 p1), (m_X0_turn (f_X0_becomes g 2 0) 2 p0 p1)))
def r_X5_joysWithASecond (g : Mem) (p0 p1 : Int32) : Int32 := (f_X5_joysWithASecond g p0 p1).1
def m_X5_joysWithASecond (g : Mem) (p0 p1 : Int32) : Mem := (f_X5_joysWithASecond g p0 p1).2
theorem e_X5_joysWithASecond (g : Mem) (p0 p1 : Int32) : (r_X5_joysWithASecond g p0 p1, m_X5_joysWithASecond g p0 p1) = f_X5_joysWithASecond g p0 p1 := by unfold r_X5_joysWithASecond m_X5_joysWithASecond; exact pmk_eta _
theorem yk_X5_joysWithASecond : yokV yX5_joysWithASecond RX5 cX5_joysWithASecond 5 (some .int) 2 := ⟨w_401, w_400, wp_9, w_1, by decide +kernel⟩
set_option maxHeartbeats 4000000 in
set_option maxRecDepth 100000 in
theorem c_X5_joysWithASecond (l : Launch) (z : ZC) (g : Mem) (p0 p1 : Int32) (hv0 : vp_in p0 8) (hv1 : vp_in p1 8) (hI : In g) : ctC l yX5_joysWithASecond cX5_joysWithASecond 5 (some .int) 6 126 z g [.ref (zad z 46), .int p0, .int p1] (qIC z (r_X5_joysWithASecond g p0 p1, m_X5_joysWithASecond g p0 p1)) := by
  rw [e_X5_joysWithASecond]
  refine ct_of (own := RX5) (q := fun r => qIC z r) (res := f_X5_joysWithASecond g p0 p1) (lv := [(0, .ref (zad z 46)), (1, .int p0), (2, .int p1)]) (enokC z) rfl (by decide) (Nat.le_of_ble_eq_true rfl) rfl (fun p e s m args below meth c C0 hrt hlk => ?_)
  unfold f_X5_joysWithASecond
  refine j_aload_n C0 0 dX5_joysWithASecond_0 rfl rfl ?_
  refine g_Cakes_trial C0 w_159 dX5_joysWithASecond_1 ?_
  refine j_aload_n C0 0 dX5_joysWithASecond_4 rfl rfl ?_
  refine g_Cakes_now C0 w_157 dX5_joysWithASecond_5 ?_
  refine j_callVv C0 (c_X0_becomes l z _ 2 lt3_2 0 lt3_0 hI) yk_X0_becomes w_211 (fun H locs hP _ => recvW C0 hP _ (by have := lt3_2; omega) (cel_fete lt3_2) rfl) ⟨Nat.le_of_ble_eq_true rfl, Nat.le_of_ble_eq_true rfl⟩ rfl rfl (Nat.le_of_ble_eq_true rfl) dX5_joysWithASecond_8 ?_
  refine j_aload_n C0 0 dX5_joysWithASecond_11 rfl rfl ?_
  refine g_Cakes_trial C0 w_159 dX5_joysWithASecond_12 ?_
  refine j_iload_n C0 1 dX5_joysWithASecond_15 rfl rfl ?_
  refine j_iload_n C0 2 dX5_joysWithASecond_16 rfl rfl ?_
  refine j_callVi C0 (c_X0_turn l z _ 2 lt3_2 _ _ hv0 hv1 (In_becomesF hI lt3_2 lt3_0)) yk_X0_turn w_296 (fun H locs hP _ => recvW C0 hP _ (by have := lt3_2; omega) (cel_fete lt3_2) rfl) ⟨Nat.le_of_ble_eq_true rfl, Nat.le_of_ble_eq_true rfl⟩ rfl rfl (Nat.le_of_ble_eq_true rfl) dX5_joysWithASecond_17 ?_
  refine j_istore_n C0 (lv' := [(3, _), (0, _), (1, _), (2, _)]) dX5_joysWithASecond_20 rfl (by decide) rfl ?_
  refine j_aload_n C0 1 dX5_joysWithASecond_21 rfl rfl ?_
  refine g_Cakes_trial C0 w_159 dX5_joysWithASecond_22 ?_
  refine j_callVi C0 (c_X0_bestTurn l z _ 2 lt3_2 (In_turn (In_becomesF hI lt3_2 lt3_0) lt3_2 hv0 hv1)) yk_X0_bestTurn w_381 (fun H locs hP _ => recvW C0 hP _ (by have := lt3_2; omega) (cel_fete lt3_2) rfl) ⟨Nat.le_of_ble_eq_true rfl, Nat.le_of_ble_eq_true rfl⟩ rfl rfl (Nat.le_of_ble_eq_true rfl) dX5_joysWithASecond_25 ?_
  refine j_istore C0 (lv' := [(4, _), (3, _), (0, _), (1, _), (2, _)]) dX5_joysWithASecond_28 (by decide) rfl ?_
  refine j_iload C0 0 dX5_joysWithASecond_30 rfl ?_
  refine j_if_ge C0 39 dX5_joysWithASecond_32 (by decide) (fun c_32 => ?_) (fun c_32 => ?_)
  · have hbt := bestTurn_in (In_turn (In_becomesF hI lt3_2 lt3_0) lt3_2 hv0 hv1) lt3_2 (x := _) rfl (nlt_of c_32)
    refine j_iload_n C0 1 dX5_joysWithASecond_39 rfl rfl ?_
    refine j_aload_n C0 2 dX5_joysWithASecond_40 rfl rfl ?_
    refine g_Cakes_trial C0 w_159 dX5_joysWithASecond_41 ?_
    refine j_iload C0 0 dX5_joysWithASecond_44 rfl ?_
    refine j_bipush C0 (v := 10) dX5_joysWithASecond_46 (by decide) ?_
    refine j_idiv C0 dX5_joysWithASecond_48 (by decide) ?_
    refine j_iload C0 0 dX5_joysWithASecond_49 rfl ?_
    refine j_bipush C0 (v := 10) dX5_joysWithASecond_51 (by decide) ?_
    refine j_irem C0 dX5_joysWithASecond_53 (by decide) ?_
    refine j_callVi C0 (c_X0_joysOf l z _ 2 lt3_2 _ _ hbt.1 hbt.2 (In_turn (In_becomesF hI lt3_2 lt3_0) lt3_2 hv0 hv1)) yk_X0_joysOf w_370 (fun H locs hP _ => recvW C0 hP _ (by have := lt3_2; omega) (cel_fete lt3_2) rfl) ⟨Nat.le_of_ble_eq_true rfl, Nat.le_of_ble_eq_true rfl⟩ rfl rfl (Nat.le_of_ble_eq_true rfl) dX5_joysWithASecond_54 ?_
    refine j_iadd C0 dX5_joysWithASecond_57 ?_
    exact j_iretM C0 hrt hlk dX5_joysWithASecond_58
  · refine j_iload_n C0 1 dX5_joysWithASecond_35 rfl rfl ?_
    refine j_goto C0 58 dX5_joysWithASecond_36 (by decide) ?_
    exact j_iretM C0 hrt hlk dX5_joysWithASecond_58
theorem jws_m {g : Mem} {p0 p1 : Int32} : m_X5_joysWithASecond g p0 p1 = m_X0_turn (f_X0_becomes g 2 0) 2 p0 p1 := by
  unfold m_X5_joysWithASecond f_X5_joysWithASecond
  split <;> rfl
theorem In_jws {g : Mem} (hI : In g) {p0 p1 : Int32} (h0 : vp_in p0 8) (h1 : vp_in p1 8) : In (m_X5_joysWithASecond g p0 p1) := by
  rw [jws_m]
  exact In_turn (In_becomesF hI lt3_2 lt3_0) lt3_2 h0 h1
theorem NX_jws {g : Mem} (hI : In g) {p0 p1 : Int32} (h0 : vp_in p0 8) (h1 : vp_in p1 8) : NX g (m_X5_joysWithASecond g p0 p1) := by
  rw [jws_m]
  exact (NX_becomes hI).tr (NX_turn h0 h1)

def f_X5_twoTurns_32 (g : Mem) (p0 : Int32) (K0 : Int32 → Int32 → Int32 → Mem → Int32 × Mem) (a2 : Int32) (a3 : Int32) (a4 : Int32) (g_17 : Mem) : Nat → Int32 → Int32 → Int32 → Mem → Int32 × Mem
  | 0, _, _, _, _ => (0, g)
  | n1 + 1, b2, b3, b5, g_32 => if (g_32 40 1) ≤ b5 then (K0 b2 b3 (a4 + (1 : Int32)) g_32) else (if (f_X0_canEat g_32 0 a4 b5) = 0 then (f_X5_twoTurns_32 g p0 K0 a2 a3 a4 g_17 n1 b2 b3 (b5 + (1 : Int32)) g_32) else (if b3 < 0 then (f_X5_twoTurns_32 g p0 K0 a2 a3 a4 g_17 n1 (r_X5_joysWithASecond g_32 a4 b5) (((10 : Int32) * a4) + b5) (b5 + (1 : Int32)) (m_X5_joysWithASecond g_32 a4 b5)) else (if (r_X5_joysWithASecond g_32 a4 b5) ≤ b2 then (f_X5_twoTurns_32 g p0 K0 a2 a3 a4 g_17 n1 b2 b3 (b5 + (1 : Int32)) (m_X5_joysWithASecond g_32 a4 b5)) else (f_X5_twoTurns_32 g p0 K0 a2 a3 a4 g_17 n1 (r_X5_joysWithASecond g_32 a4 b5) (((10 : Int32) * a4) + b5) (b5 + (1 : Int32)) (m_X5_joysWithASecond g_32 a4 b5)))))
def f_X5_twoTurns_17 (g : Mem) (p0 : Int32) : Nat → Int32 → Int32 → Int32 → Mem → Int32 × Mem
  | 0, _, _, _, _ => (0, g)
  | n0 + 1, a2, a3, a4, g_17 => if (g_17 40 1) ≤ a4 then (if p0 = 0 then ((a2, g_17)) else ((a3, g_17))) else (f_X5_twoTurns_32 g p0 (fun a2' a3' a4' g_17' => f_X5_twoTurns_17 g p0 n0 a2' a3' a4' g_17') a2 a3 a4 g_17 9 a2 a3 (0 : Int32) g_17)
def f_X5_twoTurns (g : Mem) (p0 : Int32) : Int32 × Mem := if (f_X5_isOneOfTwo p0) = 0 then (((-1 : Int32), g)) else (f_X5_twoTurns_17 g p0 9 (0 : Int32) (-4 : Int32) (0 : Int32) g)
def r_X5_twoTurns (g : Mem) (p0 : Int32) : Int32 := (f_X5_twoTurns g p0).1
def m_X5_twoTurns (g : Mem) (p0 : Int32) : Mem := (f_X5_twoTurns g p0).2
theorem e_X5_twoTurns (g : Mem) (p0 : Int32) : (r_X5_twoTurns g p0, m_X5_twoTurns g p0) = f_X5_twoTurns g p0 := by unfold r_X5_twoTurns m_X5_twoTurns; exact pmk_eta _
theorem yk_X5_twoTurns : yokV yX5_twoTurns RX5 cX5_twoTurns 7 (some .int) 1 := ⟨w_397, w_395, w_396, w_1, by decide +kernel⟩
set_option maxHeartbeats 4000000 in
set_option maxRecDepth 100000 in
theorem c_X5_twoTurns (l : Launch) (z : ZC) (g : Mem) (p0 : Int32) (hI : In g) : ctC l yX5_twoTurns cX5_twoTurns 7 (some .int) 7 150 z g [.ref (zad z 46), .int p0] (qIC z (r_X5_twoTurns g p0, m_X5_twoTurns g p0)) := by
  rw [e_X5_twoTurns]
  refine ct_of (own := RX5) (q := fun r => qIC z r) (res := f_X5_twoTurns g p0) (lv := [(0, .ref (zad z 46)), (1, .int p0)]) (enokC z) rfl (by decide) (Nat.le_of_ble_eq_true rfl) rfl (fun p e s m args below meth c C0 hrt hlk => ?_)
  unfold f_X5_twoTurns
  refine j_iload_n C0 1 dX5_twoTurns_0 rfl rfl ?_
  refine j_callSi C0 (c_X5_isOneOfTwo l z _ _) yk_X5_isOneOfTwo w_353 ⟨Nat.le_of_ble_eq_true rfl, Nat.le_of_ble_eq_true rfl⟩ rfl rfl (Nat.le_of_ble_eq_true rfl) dX5_twoTurns_1 ?_
  refine j_if_ne C0 9 dX5_twoTurns_4 (by decide) (fun c_4 => ?_) (fun c_4 => ?_)
  · refine j_iconst C0 (v := (-1)) dX5_twoTurns_7 (by decide) ?_
    exact j_iretM C0 hrt hlk dX5_twoTurns_8
  · refine j_iconst C0 (v := 0) dX5_twoTurns_9 (by decide) ?_
    refine j_istore_n C0 (lv' := [(2, _), (0, _), (1, _)]) dX5_twoTurns_10 rfl (by decide) rfl ?_
    refine j_bipush C0 (v := (-4)) dX5_twoTurns_11 (by decide) ?_
    refine j_istore_n C0 (lv' := [(3, _), (2, _), (0, _), (1, _)]) dX5_twoTurns_13 rfl (by decide) rfl ?_
    refine j_iconst C0 (v := 0) dX5_twoTurns_14 (by decide) ?_
    refine j_istore C0 (lv' := [(4, _), (3, _), (2, _), (0, _), (1, _)]) dX5_twoTurns_15 (by decide) rfl ?_
    have L17 : ∀ (n0 : Nat) (a2 : Int32) (a3 : Int32) (a4 : Int32) (g_17 : Mem), lc a4 (g 40 1) n0 → NX g g_17 → In g_17 → jj p l e { frames := 7, cells := 0, slots := 0, locals := 150 } s m args below meth c (zA z) (zD z) 52 (zad z) (celC z) 7 (fun r => MQ below (qIC z r) args s 0 0 (zA z)) (f_X5_twoTurns_17 g p0 n0 a2 a3 a4 g_17) g_17 17 [(0, .ref (zad z 46)), (1, .int p0), (2, .int a2), (3, .int a3), (4, .int a4)] [] := by
      intro n0
      induction n0 with
      | zero => intro a2 a3 a4 g_17 hL0 hN0 hI0; exact absurd hL0.2 (Nat.not_lt_zero _)
      | succ n0 ih0 =>
        intro a2 a3 a4 g_17 hL0 hN0 hI0
        rw [f_X5_twoTurns_17]
        refine j_iload C0 4 dX5_twoTurns_17 rfl ?_
        refine j_aload_n C0 0 dX5_twoTurns_19 rfl rfl ?_
        refine g_Cakes_now C0 w_157 dX5_twoTurns_20 ?_
        refine g_Fete_size C0 lt3_0 w_85 dX5_twoTurns_23 ?_
        refine j_icmp_ge C0 102 dX5_twoTurns_26 (by decide) (fun c_26 => ?_) (fun c_26 => ?_)
        · refine j_iload_n C0 1 dX5_twoTurns_102 rfl rfl ?_
          refine j_if_ne C0 110 dX5_twoTurns_103 (by decide) (fun c_103 => ?_) (fun c_103 => ?_)
          · refine j_iload_n C0 2 dX5_twoTurns_106 rfl rfl ?_
            refine j_goto C0 111 dX5_twoTurns_107 (by decide) ?_
            exact j_iretM C0 hrt hlk dX5_twoTurns_111
          · refine j_iload_n C0 3 dX5_twoTurns_110 rfl rfl ?_
            exact j_iretM C0 hrt hlk dX5_twoTurns_111
        · refine j_iconst C0 (v := 0) dX5_twoTurns_29 (by decide) ?_
          refine j_istore C0 (lv' := [(5, _), (0, _), (1, _), (2, _), (3, _), (4, _)]) dX5_twoTurns_30 (by decide) rfl ?_
          have L32 : ∀ (n1 : Nat) (b2 : Int32) (b3 : Int32) (b5 : Int32) (g_32 : Mem), lc b5 (g 40 1) n1 → NX g g_32 → In g_32 → jj p l e { frames := 7, cells := 0, slots := 0, locals := 150 } s m args below meth c (zA z) (zD z) 52 (zad z) (celC z) 7 (fun r => MQ below (qIC z r) args s 0 0 (zA z)) (f_X5_twoTurns_32 g p0 (fun a2' a3' a4' g_17' => f_X5_twoTurns_17 g p0 n0 a2' a3' a4' g_17') a2 a3 a4 g_17 n1 b2 b3 b5 g_32) g_32 32 [(0, .ref (zad z 46)), (1, .int p0), (2, .int b2), (3, .int b3), (4, .int a4), (5, .int b5)] [] := by
            intro n1
            induction n1 with
            | zero => intro b2 b3 b5 g_32 hL1 hN1 hI1; exact absurd hL1.2 (Nat.not_lt_zero _)
            | succ n1 ih1 =>
              intro b2 b3 b5 g_32 hL1 hN1 hI1
              rw [f_X5_twoTurns_32]
              refine j_iload C0 5 dX5_twoTurns_32 rfl ?_
              refine j_aload_n C0 0 dX5_twoTurns_34 rfl rfl ?_
              refine g_Cakes_now C0 w_157 dX5_twoTurns_35 ?_
              refine g_Fete_size C0 lt3_0 w_85 dX5_twoTurns_38 ?_
              refine j_icmp_ge C0 96 dX5_twoTurns_41 (by decide) (fun c_41 => ?_) (fun c_41 => ?_)
              · refine j_iinc C0 (lv' := [(4, _), (0, _), (1, _), (2, _), (3, _), (5, _)]) (v := _ + (1)) 4 dX5_twoTurns_96 rfl (by rfl) (by decide) rfl ?_
                refine j_goto C0 17 dX5_twoTurns_99 (by decide) ?_
                exact j_sub [1, 2, 3, 4, 0] rfl (ih0 _ _ _ _ (lc_stepN hL0 ((hN0 40 1 nx_40) ▸ c_26)) hN1 hI1)
              · refine j_aload_n C0 0 dX5_twoTurns_44 rfl rfl ?_
                refine g_Cakes_now C0 w_157 dX5_twoTurns_45 ?_
                refine j_iload C0 4 dX5_twoTurns_48 rfl ?_
                refine j_iload C0 5 dX5_twoTurns_50 rfl ?_
                refine j_callVi C0 (c_X0_canEat l z _ 0 lt3_0 _ _ hI1) yk_X0_canEat w_369 (fun H locs hP _ => recvW C0 hP _ (by have := lt3_0; omega) (cel_fete lt3_0) rfl) ⟨Nat.le_of_ble_eq_true rfl, Nat.le_of_ble_eq_true rfl⟩ rfl rfl (Nat.le_of_ble_eq_true rfl) dX5_twoTurns_52 ?_
                refine j_if_eq C0 90 dX5_twoTurns_55 (by decide) (fun c_55 => ?_) (fun c_55 => ?_)
                · refine j_iinc C0 (lv' := [(5, _), (0, _), (1, _), (2, _), (3, _), (4, _)]) (v := _ + (1)) 5 dX5_twoTurns_90 rfl (by rfl) (by decide) rfl ?_
                  refine j_goto C0 32 dX5_twoTurns_93 (by decide) ?_
                  exact j_sub [1, 2, 3, 4, 5, 0] rfl (ih1 _ _ _ _ (lc_stepN hL1 ((hN1 40 1 nx_40) ▸ c_41)) hN1 hI1)
                · have hv1 := canEat_in hI1 lt3_0 c_55
                  refine j_aload_n C0 0 dX5_twoTurns_58 rfl rfl ?_
                  refine j_iload C0 4 dX5_twoTurns_59 rfl ?_
                  refine j_iload C0 5 dX5_twoTurns_61 rfl ?_
                  refine j_callVi C0 (c_X5_joysWithASecond l z _ _ _ hv1.1 hv1.2 hI1) yk_X5_joysWithASecond w_398 (fun H locs hP _ => recvW C0 hP _ (by decide) cel_main rfl) ⟨Nat.le_of_ble_eq_true rfl, Nat.le_of_ble_eq_true rfl⟩ rfl rfl (Nat.le_of_ble_eq_true rfl) dX5_twoTurns_63 ?_
                  refine j_istore C0 (lv' := [(6, _), (0, _), (1, _), (2, _), (3, _), (4, _), (5, _)]) dX5_twoTurns_66 (by decide) rfl ?_
                  refine j_iload_n C0 4 dX5_twoTurns_68 rfl rfl ?_
                  refine j_if_lt C0 78 dX5_twoTurns_69 (by decide) (fun c_69 => ?_) (fun c_69 => ?_)
                  · refine j_iload C0 0 dX5_twoTurns_78 rfl ?_
                    refine j_istore_n C0 (lv' := [(2, _), (6, _), (0, _), (1, _), (3, _), (4, _), (5, _)]) dX5_twoTurns_80 rfl (by decide) rfl ?_
                    refine j_bipush C0 (v := 10) dX5_twoTurns_81 (by decide) ?_
                    refine j_iload C0 5 dX5_twoTurns_83 rfl ?_
                    refine j_imul C0 dX5_twoTurns_85 ?_
                    refine j_iload C0 6 dX5_twoTurns_86 rfl ?_
                    refine j_iadd C0 dX5_twoTurns_88 ?_
                    refine j_istore_n C0 (lv' := [(3, _), (2, _), (6, _), (0, _), (1, _), (4, _), (5, _)]) dX5_twoTurns_89 rfl (by decide) rfl ?_
                    refine j_iinc C0 (lv' := [(5, _), (3, _), (2, _), (6, _), (0, _), (1, _), (4, _)]) (v := _ + (1)) 6 dX5_twoTurns_90 rfl (by rfl) (by decide) rfl ?_
                    refine j_goto C0 32 dX5_twoTurns_93 (by decide) ?_
                    exact j_sub [4, 5, 2, 1, 6, 0] rfl (ih1 _ _ _ _ (lc_stepN hL1 ((hN1 40 1 nx_40) ▸ c_41)) (hN1.tr (NX_jws hI1 hv1.1 hv1.2)) (In_jws hI1 hv1.1 hv1.2))
                  · refine j_iload C0 0 dX5_twoTurns_72 rfl ?_
                    refine j_iload_n C0 3 dX5_twoTurns_74 rfl rfl ?_
                    refine j_icmp_le C0 90 dX5_twoTurns_75 (by decide) (fun c_75 => ?_) (fun c_75 => ?_)
                    · refine j_iinc C0 (lv' := [(5, _), (6, _), (0, _), (1, _), (2, _), (3, _), (4, _)]) (v := _ + (1)) 6 dX5_twoTurns_90 rfl (by rfl) (by decide) rfl ?_
                      refine j_goto C0 32 dX5_twoTurns_93 (by decide) ?_
                      exact j_sub [2, 3, 4, 5, 6, 0] rfl (ih1 _ _ _ _ (lc_stepN hL1 ((hN1 40 1 nx_40) ▸ c_41)) (hN1.tr (NX_jws hI1 hv1.1 hv1.2)) (In_jws hI1 hv1.1 hv1.2))
                    · refine j_iload C0 0 dX5_twoTurns_78 rfl ?_
                      refine j_istore_n C0 (lv' := [(2, _), (6, _), (0, _), (1, _), (3, _), (4, _), (5, _)]) dX5_twoTurns_80 rfl (by decide) rfl ?_
                      refine j_bipush C0 (v := 10) dX5_twoTurns_81 (by decide) ?_
                      refine j_iload C0 5 dX5_twoTurns_83 rfl ?_
                      refine j_imul C0 dX5_twoTurns_85 ?_
                      refine j_iload C0 6 dX5_twoTurns_86 rfl ?_
                      refine j_iadd C0 dX5_twoTurns_88 ?_
                      refine j_istore_n C0 (lv' := [(3, _), (2, _), (6, _), (0, _), (1, _), (4, _), (5, _)]) dX5_twoTurns_89 rfl (by decide) rfl ?_
                      refine j_iinc C0 (lv' := [(5, _), (3, _), (2, _), (6, _), (0, _), (1, _), (4, _)]) (v := _ + (1)) 6 dX5_twoTurns_90 rfl (by rfl) (by decide) rfl ?_
                      refine j_goto C0 32 dX5_twoTurns_93 (by decide) ?_
                      exact j_sub [4, 5, 2, 1, 6, 0] rfl (ih1 _ _ _ _ (lc_stepN hL1 ((hN1 40 1 nx_40) ▸ c_41)) (hN1.tr (NX_jws hI1 hv1.1 hv1.2)) (In_jws hI1 hv1.1 hv1.2))
          exact j_sub [1, 2, 3, 4, 5, 0] rfl (L32 9 _ _ _ _ (lc_0 (by have := In_sz40 hI; omega) (by decide)) hN0 hI0)
    exact j_sub [3, 4, 2, 1, 0] rfl (L17 9 _ _ _ _ (lc_0 (by have := In_sz40 hI; omega) (by decide)) NX.rf hI)
def f_X5_greedily_44 (g : Mem) (p0 p1 : Int32) : Nat → Int32 → Int32 → Int32 → Mem → Int32 × Mem
  | 0, _, _, _, _ => (0, g)
  | n0 + 1, a3, a4, a5, g_44 => if p0 ≤ a4 then (if p1 = 0 then ((a3, g_44)) else ((a4, g_44))) else (if a5 < 0 then (if p1 = 0 then ((a3, g_44)) else ((a4, g_44))) else (f_X5_greedily_44 g p0 p1 n0 (a3 + (r_X0_turn g_44 2 (a5 / (10 : Int32)) (a5 - a5 / (10 : Int32) * (10 : Int32)))) (a4 + (1 : Int32)) (f_X0_bestTurn (m_X0_turn g_44 2 (a5 / (10 : Int32)) (a5 - a5 / (10 : Int32) * (10 : Int32))) 2) (m_X0_turn g_44 2 (a5 / (10 : Int32)) (a5 - a5 / (10 : Int32) * (10 : Int32)))))
def f_X5_greedily (g : Mem) (p0 p1 : Int32) : Int32 × Mem := if (f_X5_isWithin p0 (0 : Int32) (30 : Int32)) = 0 then (((-1 : Int32), g)) else (if (f_X5_isOneOfTwo p1) = 0 then (((-1 : Int32), g)) else (f_X5_greedily_44 g p0 p1 31 (0 : Int32) (0 : Int32) (f_X0_bestTurn (f_X0_becomes g 2 0) 2) (f_X0_becomes g 2 0)))
def r_X5_greedily (g : Mem) (p0 p1 : Int32) : Int32 := (f_X5_greedily g p0 p1).1
def m_X5_greedily (g : Mem) (p0 p1 : Int32) : Mem := (f_X5_greedily g p0 p1).2
theorem e_X5_greedily (g : Mem) (p0 p1 : Int32) : (r_X5_greedily g p0 p1, m_X5_greedily g p0 p1) = f_X5_greedily g p0 p1 := by unfold r_X5_greedily m_X5_greedily; exact pmk_eta _
theorem yk_X5_greedily : yokV yX5_greedily RX5 cX5_greedily 6 (some .int) 2 := ⟨w_441, w_439, w_440, w_1, by decide +kernel⟩
set_option maxHeartbeats 4000000 in
set_option maxRecDepth 100000 in
theorem c_X5_greedily (l : Launch) (z : ZC) (g : Mem) (p0 p1 : Int32) (hI : In g) : ctC l yX5_greedily cX5_greedily 6 (some .int) 6 126 z g [.ref (zad z 46), .int p0, .int p1] (qIC z (r_X5_greedily g p0 p1, m_X5_greedily g p0 p1)) := by
  rw [e_X5_greedily]
  refine ct_of (own := RX5) (q := fun r => qIC z r) (res := f_X5_greedily g p0 p1) (lv := [(0, .ref (zad z 46)), (1, .int p0), (2, .int p1)]) (enokC z) rfl (by decide) (Nat.le_of_ble_eq_true rfl) rfl (fun p e s m args below meth c C0 hrt hlk => ?_)
  unfold f_X5_greedily
  refine j_iload_n C0 1 dX5_greedily_0 rfl rfl ?_
  refine j_iconst C0 (v := 0) dX5_greedily_1 (by decide) ?_
  refine j_bipush C0 (v := 30) dX5_greedily_2 (by decide) ?_
  refine j_callSi C0 (c_X5_isWithin l z _ _ _ _) yk_X5_isWithin w_190 ⟨Nat.le_of_ble_eq_true rfl, Nat.le_of_ble_eq_true rfl⟩ rfl rfl (Nat.le_of_ble_eq_true rfl) dX5_greedily_4 ?_
  refine j_if_eq C0 17 dX5_greedily_7 (by decide) (fun c_7 => ?_) (fun c_7 => ?_)
  · refine j_iconst C0 (v := (-1)) dX5_greedily_17 (by decide) ?_
    exact j_iretM C0 hrt hlk dX5_greedily_18
  · refine j_iload_n C0 2 dX5_greedily_10 rfl rfl ?_
    refine j_callSi C0 (c_X5_isOneOfTwo l z _ _) yk_X5_isOneOfTwo w_353 ⟨Nat.le_of_ble_eq_true rfl, Nat.le_of_ble_eq_true rfl⟩ rfl rfl (Nat.le_of_ble_eq_true rfl) dX5_greedily_11 ?_
    refine j_if_ne C0 19 dX5_greedily_14 (by decide) (fun c_14 => ?_) (fun c_14 => ?_)
    · refine j_iconst C0 (v := (-1)) dX5_greedily_17 (by decide) ?_
      exact j_iretM C0 hrt hlk dX5_greedily_18
    · refine j_aload_n C0 0 dX5_greedily_19 rfl rfl ?_
      refine g_Cakes_trial C0 w_159 dX5_greedily_20 ?_
      refine j_aload_n C0 0 dX5_greedily_23 rfl rfl ?_
      refine g_Cakes_now C0 w_157 dX5_greedily_24 ?_
      refine j_callVv C0 (c_X0_becomes l z _ 2 lt3_2 0 lt3_0 hI) yk_X0_becomes w_211 (fun H locs hP _ => recvW C0 hP _ (by have := lt3_2; omega) (cel_fete lt3_2) rfl) ⟨Nat.le_of_ble_eq_true rfl, Nat.le_of_ble_eq_true rfl⟩ rfl rfl (Nat.le_of_ble_eq_true rfl) dX5_greedily_27 ?_
      refine j_iconst C0 (v := 0) dX5_greedily_30 (by decide) ?_
      refine j_istore_n C0 (lv' := [(3, _), (0, _), (1, _), (2, _)]) dX5_greedily_31 rfl (by decide) rfl ?_
      refine j_iconst C0 (v := 0) dX5_greedily_32 (by decide) ?_
      refine j_istore C0 (lv' := [(4, _), (3, _), (0, _), (1, _), (2, _)]) dX5_greedily_33 (by decide) rfl ?_
      refine j_aload_n C0 2 dX5_greedily_35 rfl rfl ?_
      refine g_Cakes_trial C0 w_159 dX5_greedily_36 ?_
      refine j_callVi C0 (c_X0_bestTurn l z _ 2 lt3_2 (In_becomesF hI lt3_2 lt3_0)) yk_X0_bestTurn w_381 (fun H locs hP _ => recvW C0 hP _ (by have := lt3_2; omega) (cel_fete lt3_2) rfl) ⟨Nat.le_of_ble_eq_true rfl, Nat.le_of_ble_eq_true rfl⟩ rfl rfl (Nat.le_of_ble_eq_true rfl) dX5_greedily_39 ?_
      refine j_istore C0 (lv' := [(5, _), (4, _), (3, _), (0, _), (1, _), (2, _)]) dX5_greedily_42 (by decide) rfl ?_
      have L44 : ∀ (n0 : Nat) (a3 : Int32) (a4 : Int32) (a5 : Int32) (g_44 : Mem), lc a4 p0 n0 → In g_44 → a5 = f_X0_bestTurn g_44 2 → jj p l e { frames := 6, cells := 0, slots := 0, locals := 126 } s m args below meth c (zA z) (zD z) 52 (zad z) (celC z) 6 (fun r => MQ below (qIC z r) args s 0 0 (zA z)) (f_X5_greedily_44 g p0 p1 n0 a3 a4 a5 g_44) g_44 44 [(0, .ref (zad z 46)), (1, .int p0), (2, .int p1), (3, .int a3), (4, .int a4), (5, .int a5)] [] := by
        intro n0
        induction n0 with
        | zero => intro a3 a4 a5 g_44 hL hIm hb; exact absurd hL.2 (Nat.not_lt_zero _)
        | succ n0 ih0 =>
          intro a3 a4 a5 g_44 hL hIm hb
          rw [f_X5_greedily_44]
          refine j_iload C0 4 dX5_greedily_44 rfl ?_
          refine j_iload_n C0 1 dX5_greedily_46 rfl rfl ?_
          refine j_icmp_ge C0 90 dX5_greedily_47 (by decide) (fun c_47 => ?_) (fun c_47 => ?_)
          · refine j_iload_n C0 2 dX5_greedily_90 rfl rfl ?_
            refine j_if_ne C0 98 dX5_greedily_91 (by decide) (fun c_91 => ?_) (fun c_91 => ?_)
            · refine j_iload_n C0 3 dX5_greedily_94 rfl rfl ?_
              refine j_goto C0 100 dX5_greedily_95 (by decide) ?_
              exact j_iretM C0 hrt hlk dX5_greedily_100
            · refine j_iload C0 4 dX5_greedily_98 rfl ?_
              exact j_iretM C0 hrt hlk dX5_greedily_100
          · refine j_iload C0 5 dX5_greedily_50 rfl ?_
            refine j_if_lt C0 90 dX5_greedily_52 (by decide) (fun c_52 => ?_) (fun c_52 => ?_)
            · refine j_iload_n C0 2 dX5_greedily_90 rfl rfl ?_
              refine j_if_ne C0 98 dX5_greedily_91 (by decide) (fun c_91 => ?_) (fun c_91 => ?_)
              · refine j_iload_n C0 3 dX5_greedily_94 rfl rfl ?_
                refine j_goto C0 100 dX5_greedily_95 (by decide) ?_
                exact j_iretM C0 hrt hlk dX5_greedily_100
              · refine j_iload C0 4 dX5_greedily_98 rfl ?_
                exact j_iretM C0 hrt hlk dX5_greedily_100
            · have hbt := bestTurn_in hIm lt3_2 (x := a5) hb c_52
              refine j_iload_n C0 3 dX5_greedily_55 rfl rfl ?_
              refine j_aload_n C0 0 dX5_greedily_56 rfl rfl ?_
              refine g_Cakes_trial C0 w_159 dX5_greedily_57 ?_
              refine j_iload C0 5 dX5_greedily_60 rfl ?_
              refine j_bipush C0 (v := 10) dX5_greedily_62 (by decide) ?_
              refine j_idiv C0 dX5_greedily_64 (by decide) ?_
              refine j_iload C0 5 dX5_greedily_65 rfl ?_
              refine j_bipush C0 (v := 10) dX5_greedily_67 (by decide) ?_
              refine j_irem C0 dX5_greedily_69 (by decide) ?_
              refine j_callVi C0 (c_X0_turn l z _ 2 lt3_2 _ _ hbt.1 hbt.2 hIm) yk_X0_turn w_296 (fun H locs hP _ => recvW C0 hP _ (by have := lt3_2; omega) (cel_fete lt3_2) rfl) ⟨Nat.le_of_ble_eq_true rfl, Nat.le_of_ble_eq_true rfl⟩ rfl rfl (Nat.le_of_ble_eq_true rfl) dX5_greedily_70 ?_
              refine j_iadd C0 dX5_greedily_73 ?_
              refine j_istore_n C0 (lv' := [(3, _), (0, _), (1, _), (2, _), (4, _), (5, _)]) dX5_greedily_74 rfl (by decide) rfl ?_
              refine j_iinc C0 (lv' := [(4, _), (3, _), (0, _), (1, _), (2, _), (5, _)]) (v := _ + (1)) 4 dX5_greedily_75 rfl (by rfl) (by decide) rfl ?_
              refine j_aload_n C0 2 dX5_greedily_78 rfl rfl ?_
              refine g_Cakes_trial C0 w_159 dX5_greedily_79 ?_
              refine j_callVi C0 (c_X0_bestTurn l z _ 2 lt3_2 (In_turn hIm lt3_2 hbt.1 hbt.2)) yk_X0_bestTurn w_381 (fun H locs hP _ => recvW C0 hP _ (by have := lt3_2; omega) (cel_fete lt3_2) rfl) ⟨Nat.le_of_ble_eq_true rfl, Nat.le_of_ble_eq_true rfl⟩ rfl rfl (Nat.le_of_ble_eq_true rfl) dX5_greedily_82 ?_
              refine j_istore C0 (lv' := [(5, _), (4, _), (3, _), (0, _), (1, _), (2, _)]) dX5_greedily_85 (by decide) rfl ?_
              refine j_goto C0 44 dX5_greedily_87 (by decide) ?_
              exact j_sub [3, 4, 5, 2, 1, 0] rfl (ih0 _ _ _ _ (lc_stepN hL c_47) (In_turn hIm lt3_2 hbt.1 hbt.2) rfl)
      exact j_sub [3, 4, 5, 2, 1, 0] rfl (L44 31 _ _ _ _ (lc_0 (by have := (isWithin_in c_7).2; have e30 : (30 : Int32).toInt = 30 := rfl; omega) (by decide)) (In_becomesF hI lt3_2 lt3_0) rfl)
def f_X5_forged_45 (g : Mem) (p0 : Int32) : Nat → Int32 → Mem → Int32 × Mem
  | 0, _, _ => (0, g)
  | n0 + 1, a4, g_45 => if ((g_45 (24 + ix p0) 5) / (2 : Int32)) ≤ a4 then (((-4 : Int32), g_45)) else (if (f_X0_canEat g_45 2 (f_X4_at g_45 (ix p0) ((2 : Int32) * a4)) (f_X4_at g_45 (ix p0) (((2 : Int32) * a4) + (1 : Int32)))) = 0 then ((a4, g_45)) else (f_X5_forged_45 g p0 n0 (a4 + (1 : Int32)) (m_X0_turn g_45 2 (f_X4_at g_45 (ix p0) ((2 : Int32) * a4)) (f_X4_at g_45 (ix p0) (((2 : Int32) * a4) + (1 : Int32))))))
def f_X5_forged (g : Mem) (p0 : Int32) : Int32 × Mem := if (f_X5_refusalOfRow g p0) = 0 then (if ((g (24 + ix p0) 5) - (g (24 + ix p0) 5) / (2 : Int32) * (2 : Int32)) = 0 then (f_X5_forged_45 g p0 51 (0 : Int32) (f_X0_becomes g 2 0)) else (((-13 : Int32), g))) else (((f_X5_refusalOfRow g p0), g))
def r_X5_forged (g : Mem) (p0 : Int32) : Int32 := (f_X5_forged g p0).1
def m_X5_forged (g : Mem) (p0 : Int32) : Mem := (f_X5_forged g p0).2
theorem e_X5_forged (g : Mem) (p0 : Int32) : (r_X5_forged g p0, m_X5_forged g p0) = f_X5_forged g p0 := by unfold r_X5_forged m_X5_forged; exact pmk_eta _
theorem yk_X5_forged : yokV yX5_forged RX5 cX5_forged 7 (some .int) 1 := ⟨w_576, w_574, w_575, w_1, by decide +kernel⟩
set_option maxHeartbeats 4000000 in
set_option maxRecDepth 100000 in
theorem c_X5_forged (l : Launch) (z : ZC) (g : Mem) (p0 : Int32) (hI : In g) : ctC l yX5_forged cX5_forged 7 (some .int) 5 103 z g [.ref (zad z 46), .int p0] (qIC z (r_X5_forged g p0, m_X5_forged g p0)) := by
  rw [e_X5_forged]
  refine ct_of (own := RX5) (q := fun r => qIC z r) (res := f_X5_forged g p0) (lv := [(0, .ref (zad z 46)), (1, .int p0)]) (enokC z) rfl (by decide) (Nat.le_of_ble_eq_true rfl) rfl (fun p e s m args below meth c C0 hrt hlk => ?_)
  unfold f_X5_forged
  refine j_aload_n C0 0 dX5_forged_0 rfl rfl ?_
  refine j_iload_n C0 1 dX5_forged_1 rfl rfl ?_
  refine j_callVi C0 (c_X5_refusalOfRow l z _ _ hI) yk_X5_refusalOfRow w_179 (fun H locs hP _ => recvW C0 hP _ (by decide) cel_main rfl) ⟨Nat.le_of_ble_eq_true rfl, Nat.le_of_ble_eq_true rfl⟩ rfl rfl (Nat.le_of_ble_eq_true rfl) dX5_forged_2 ?_
  refine j_istore_n C0 (lv' := [(2, _), (0, _), (1, _)]) dX5_forged_5 rfl (by decide) rfl ?_
  refine j_iload_n C0 0 dX5_forged_6 rfl rfl ?_
  refine j_if_eq C0 12 dX5_forged_7 (by decide) (fun c_7 => ?_) (fun c_7 => ?_)
  · have hv := refusalR_in c_7
    refine j_aload_n C0 1 dX5_forged_12 rfl rfl ?_
    refine g_Cakes_shelves C0 w_156 dX5_forged_13 ?_
    refine j_iload_n C0 2 dX5_forged_16 rfl rfl ?_
    refine a_shelves C0 hv dX5_forged_17 ?_
    refine j_astore_n C0 (lv' := [(3, _), (2, _), (0, _), (1, _)]) dX5_forged_18 rfl (by decide) rfl ?_
    refine j_aload_n C0 0 dX5_forged_19 rfl rfl ?_
    refine g_Shelf_length C0 (vin_lt hv) w_142 dX5_forged_20 ?_
    refine j_iconst C0 (v := 2) dX5_forged_23 (by decide) ?_
    refine j_irem C0 dX5_forged_24 (by decide) ?_
    refine j_if_eq C0 31 dX5_forged_25 (by decide) (fun c_25 => ?_) (fun c_25 => ?_)
    · refine j_aload_n C0 2 dX5_forged_31 rfl rfl ?_
      refine g_Cakes_trial C0 w_159 dX5_forged_32 ?_
      refine j_aload_n C0 2 dX5_forged_35 rfl rfl ?_
      refine g_Cakes_now C0 w_157 dX5_forged_36 ?_
      refine j_callVv C0 (c_X0_becomes l z _ 2 lt3_2 0 lt3_0 hI) yk_X0_becomes w_211 (fun H locs hP _ => recvW C0 hP _ (by have := lt3_2; omega) (cel_fete lt3_2) rfl) ⟨Nat.le_of_ble_eq_true rfl, Nat.le_of_ble_eq_true rfl⟩ rfl rfl (Nat.le_of_ble_eq_true rfl) dX5_forged_39 ?_
      refine j_iconst C0 (v := 0) dX5_forged_42 (by decide) ?_
      refine j_istore C0 (lv' := [(4, _), (3, _), (2, _), (0, _), (1, _)]) dX5_forged_43 (by decide) rfl ?_
      have L45 : ∀ (n0 : Nat) (a4 : Int32) (g_45 : Mem), lc a4 ((g (24 + (ix p0)) 5) / (2 : Int32)) n0 → NX g g_45 → In g_45 → jj p l e { frames := 5, cells := 0, slots := 0, locals := 103 } s m args below meth c (zA z) (zD z) 52 (zad z) (celC z) 7 (fun r => MQ below (qIC z r) args s 0 0 (zA z)) (f_X5_forged_45 g p0 n0 a4 g_45) g_45 45 [(0, .ref (zad z 46)), (1, .int p0), (3, .ref (zad z (24 + ix p0))), (4, .int a4)] [] := by
        intro n0
        induction n0 with
        | zero => intro a4 g_45 hL hN hIm; exact absurd hL.2 (Nat.not_lt_zero _)
        | succ n0 ih0 =>
          intro a4 g_45 hL hN hIm
          rw [f_X5_forged_45]
          refine j_iload C0 3 dX5_forged_45 rfl ?_
          refine j_aload_n C0 2 dX5_forged_47 rfl rfl ?_
          refine g_Shelf_length C0 (vin_lt hv) w_142 dX5_forged_48 ?_
          refine j_iconst C0 (v := 2) dX5_forged_51 (by decide) ?_
          refine j_idiv C0 dX5_forged_52 (by decide) ?_
          refine j_icmp_ge C0 113 dX5_forged_53 (by decide) (fun c_53 => ?_) (fun c_53 => ?_)
          · refine j_bipush C0 (v := (-4)) dX5_forged_113 (by decide) ?_
            exact j_iretM C0 hrt hlk dX5_forged_115
          · refine j_aload_n C0 2 dX5_forged_56 rfl rfl ?_
            refine j_iconst C0 (v := 2) dX5_forged_57 (by decide) ?_
            refine j_iload C0 3 dX5_forged_58 rfl ?_
            refine j_imul C0 dX5_forged_60 ?_
            refine j_callVi C0 (c_X4_at l z _ (ix p0) (vin_lt hv) _ hIm) yk_X4_at w_196 (fun H locs hP _ => recvW C0 hP _ (by have := (vin_lt hv); omega) (cel_shelf (vin_lt hv)) rfl) ⟨Nat.le_of_ble_eq_true rfl, Nat.le_of_ble_eq_true rfl⟩ rfl rfl (Nat.le_of_ble_eq_true rfl) dX5_forged_61 ?_
            refine j_istore C0 (lv' := [(5, _), (0, _), (1, _), (3, _), (4, _)]) dX5_forged_64 (by decide) rfl ?_
            refine j_aload_n C0 3 dX5_forged_66 rfl rfl ?_
            refine j_iconst C0 (v := 2) dX5_forged_67 (by decide) ?_
            refine j_iload C0 4 dX5_forged_68 rfl ?_
            refine j_imul C0 dX5_forged_70 ?_
            refine j_iconst C0 (v := 1) dX5_forged_71 (by decide) ?_
            refine j_iadd C0 dX5_forged_72 ?_
            refine j_callVi C0 (c_X4_at l z _ (ix p0) (vin_lt hv) _ hIm) yk_X4_at w_196 (fun H locs hP _ => recvW C0 hP _ (by have := (vin_lt hv); omega) (cel_shelf (vin_lt hv)) rfl) ⟨Nat.le_of_ble_eq_true rfl, Nat.le_of_ble_eq_true rfl⟩ rfl rfl (Nat.le_of_ble_eq_true rfl) dX5_forged_73 ?_
            refine j_istore C0 (lv' := [(6, _), (5, _), (0, _), (1, _), (3, _), (4, _)]) dX5_forged_76 (by decide) rfl ?_
            refine j_aload_n C0 2 dX5_forged_78 rfl rfl ?_
            refine g_Cakes_trial C0 w_159 dX5_forged_79 ?_
            refine j_iload C0 1 dX5_forged_82 rfl ?_
            refine j_iload C0 0 dX5_forged_84 rfl ?_
            refine j_callVi C0 (c_X0_canEat l z _ 2 lt3_2 _ _ hIm) yk_X0_canEat w_369 (fun H locs hP _ => recvW C0 hP _ (by have := lt3_2; omega) (cel_fete lt3_2) rfl) ⟨Nat.le_of_ble_eq_true rfl, Nat.le_of_ble_eq_true rfl⟩ rfl rfl (Nat.le_of_ble_eq_true rfl) dX5_forged_86 ?_
            refine j_if_ne C0 95 dX5_forged_89 (by decide) (fun c_89 => ?_) (fun c_89 => ?_)
            · refine j_iload C0 5 dX5_forged_92 rfl ?_
              exact j_iretM C0 hrt hlk dX5_forged_94
            · have hv1 := canEat_in hIm lt3_2 c_89
              refine j_aload_n C0 2 dX5_forged_95 rfl rfl ?_
              refine g_Cakes_trial C0 w_159 dX5_forged_96 ?_
              refine j_iload C0 1 dX5_forged_99 rfl ?_
              refine j_iload C0 0 dX5_forged_101 rfl ?_
              refine j_callVi C0 (c_X0_turn l z _ 2 lt3_2 _ _ hv1.1 hv1.2 hIm) yk_X0_turn w_296 (fun H locs hP _ => recvW C0 hP _ (by have := lt3_2; omega) (cel_fete lt3_2) rfl) ⟨Nat.le_of_ble_eq_true rfl, Nat.le_of_ble_eq_true rfl⟩ rfl rfl (Nat.le_of_ble_eq_true rfl) dX5_forged_103 ?_
              refine j_pop C0 dX5_forged_106 rfl ?_
              refine j_iinc C0 (lv' := [(4, _), (6, _), (5, _), (0, _), (1, _), (3, _)]) (v := _ + (1)) 5 dX5_forged_107 rfl (by rfl) (by decide) rfl ?_
              refine j_goto C0 45 dX5_forged_110 (by decide) ?_
              exact j_sub [3, 4, 5, 0] rfl (ih0 _ _ (lc_stepN hL ((hN (24 + ix p0) 5 (nx_sh (vin_lt hv))) ▸ c_53)) (hN.tr (NX_turn hv1.1 hv1.2)) (In_turn hIm lt3_2 hv1.1 hv1.2))
      exact j_sub [3, 4, 1, 0] rfl (L45 51 _ _ (lc_0 (by have := (half_le (In_len0 hI (vin_lt hv)) (In_len hI (vin_lt hv))); omega) (by decide)) (NX_becomes hI) (In_becomesF hI lt3_2 lt3_0))
    · refine j_bipush C0 (v := (-13)) dX5_forged_28 (by decide) ?_
      exact j_iretM C0 hrt hlk dX5_forged_30
  · refine j_iload_n C0 0 dX5_forged_10 rfl rfl ?_
    exact j_iretM C0 hrt hlk dX5_forged_11
def f_X5_judge_39 (g : Mem) (p0 : Int32) : Nat → Int32 → Mem → Int32 × Mem
  | 0, _, _ => (0, g)
  | n0 + 1, a5, g_39 => if (g_39 (24 + ix p0) 5) ≤ a5 then (((-4 : Int32), g_39)) else (if 0 ≤ (f_X0_bestTurn g_39 2) then (if (f_X0_bestTurn g_39 2) < 0 then (if (f_X4_at (m_X0_turn g_39 2 ((f_X0_bestTurn g_39 2) / (10 : Int32)) ((f_X0_bestTurn g_39 2) - (f_X0_bestTurn g_39 2) / (10 : Int32) * (10 : Int32))) (ix p0) a5) = (f_X4_leastNumber g (ix p0)) then (f_X5_judge_39 g p0 n0 (a5 + (1 : Int32)) (m_X0_turn g_39 2 ((f_X0_bestTurn g_39 2) / (10 : Int32)) ((f_X0_bestTurn g_39 2) - (f_X0_bestTurn g_39 2) / (10 : Int32) * (10 : Int32)))) else ((a5, (m_X0_turn g_39 2 ((f_X0_bestTurn g_39 2) / (10 : Int32)) ((f_X0_bestTurn g_39 2) - (f_X0_bestTurn g_39 2) / (10 : Int32) * (10 : Int32)))))) else (if (r_X0_turn g_39 2 ((f_X0_bestTurn g_39 2) / (10 : Int32)) ((f_X0_bestTurn g_39 2) - (f_X0_bestTurn g_39 2) / (10 : Int32) * (10 : Int32))) = (f_X4_at (m_X0_turn g_39 2 ((f_X0_bestTurn g_39 2) / (10 : Int32)) ((f_X0_bestTurn g_39 2) - (f_X0_bestTurn g_39 2) / (10 : Int32) * (10 : Int32))) (ix p0) a5) then (f_X5_judge_39 g p0 n0 (a5 + (1 : Int32)) (m_X0_turn g_39 2 ((f_X0_bestTurn g_39 2) / (10 : Int32)) ((f_X0_bestTurn g_39 2) - (f_X0_bestTurn g_39 2) / (10 : Int32) * (10 : Int32)))) else (if (f_X4_at (m_X0_turn g_39 2 ((f_X0_bestTurn g_39 2) / (10 : Int32)) ((f_X0_bestTurn g_39 2) - (f_X0_bestTurn g_39 2) / (10 : Int32) * (10 : Int32))) (ix p0) a5) = (f_X4_leastNumber g (ix p0)) then (f_X5_judge_39 g p0 n0 (a5 + (1 : Int32)) (m_X0_turn g_39 2 ((f_X0_bestTurn g_39 2) / (10 : Int32)) ((f_X0_bestTurn g_39 2) - (f_X0_bestTurn g_39 2) / (10 : Int32) * (10 : Int32)))) else ((a5, (m_X0_turn g_39 2 ((f_X0_bestTurn g_39 2) / (10 : Int32)) ((f_X0_bestTurn g_39 2) - (f_X0_bestTurn g_39 2) / (10 : Int32) * (10 : Int32)))))))) else (if (f_X0_bestTurn g_39 2) < 0 then (if (f_X4_at g_39 (ix p0) a5) = (f_X4_leastNumber g (ix p0)) then (f_X5_judge_39 g p0 n0 (a5 + (1 : Int32)) g_39) else ((a5, g_39))) else (if (-4 : Int32) = (f_X4_at g_39 (ix p0) a5) then (f_X5_judge_39 g p0 n0 (a5 + (1 : Int32)) g_39) else (if (f_X4_at g_39 (ix p0) a5) = (f_X4_leastNumber g (ix p0)) then (f_X5_judge_39 g p0 n0 (a5 + (1 : Int32)) g_39) else ((a5, g_39))))))
def f_X5_judge (g : Mem) (p0 : Int32) : Int32 × Mem := if (f_X5_refusalOfRow g p0) = 0 then (f_X5_judge_39 g p0 101 (0 : Int32) (f_X0_becomes g 2 0)) else (((f_X5_refusalOfRow g p0), g))
def r_X5_judge (g : Mem) (p0 : Int32) : Int32 := (f_X5_judge g p0).1
def m_X5_judge (g : Mem) (p0 : Int32) : Mem := (f_X5_judge g p0).2
theorem e_X5_judge (g : Mem) (p0 : Int32) : (r_X5_judge g p0, m_X5_judge g p0) = f_X5_judge g p0 := by unfold r_X5_judge m_X5_judge; exact pmk_eta _
theorem yk_X5_judge : yokV yX5_judge RX5 cX5_judge 9 (some .int) 1 := ⟨w_580, w_578, w_579, w_1, by decide +kernel⟩
set_option maxHeartbeats 4000000 in
set_option maxRecDepth 100000 in
theorem c_X5_judge (l : Launch) (z : ZC) (g : Mem) (p0 : Int32) (hI : In g) : ctC l yX5_judge cX5_judge 9 (some .int) 6 126 z g [.ref (zad z 46), .int p0] (qIC z (r_X5_judge g p0, m_X5_judge g p0)) := by
  rw [e_X5_judge]
  refine ct_of (own := RX5) (q := fun r => qIC z r) (res := f_X5_judge g p0) (lv := [(0, .ref (zad z 46)), (1, .int p0)]) (enokC z) rfl (by decide) (Nat.le_of_ble_eq_true rfl) rfl (fun p e s m args below meth c C0 hrt hlk => ?_)
  unfold f_X5_judge
  refine j_aload_n C0 0 dX5_judge_0 rfl rfl ?_
  refine j_iload_n C0 1 dX5_judge_1 rfl rfl ?_
  refine j_callVi C0 (c_X5_refusalOfRow l z _ _ hI) yk_X5_refusalOfRow w_179 (fun H locs hP _ => recvW C0 hP _ (by decide) cel_main rfl) ⟨Nat.le_of_ble_eq_true rfl, Nat.le_of_ble_eq_true rfl⟩ rfl rfl (Nat.le_of_ble_eq_true rfl) dX5_judge_2 ?_
  refine j_istore_n C0 (lv' := [(2, _), (0, _), (1, _)]) dX5_judge_5 rfl (by decide) rfl ?_
  refine j_iload_n C0 0 dX5_judge_6 rfl rfl ?_
  refine j_if_eq C0 12 dX5_judge_7 (by decide) (fun c_7 => ?_) (fun c_7 => ?_)
  · have hv := refusalR_in c_7
    refine j_aload_n C0 1 dX5_judge_12 rfl rfl ?_
    refine g_Cakes_shelves C0 w_156 dX5_judge_13 ?_
    refine j_iload_n C0 2 dX5_judge_16 rfl rfl ?_
    refine a_shelves C0 hv dX5_judge_17 ?_
    refine j_astore_n C0 (lv' := [(3, _), (2, _), (0, _), (1, _)]) dX5_judge_18 rfl (by decide) rfl ?_
    refine j_aload_n C0 0 dX5_judge_19 rfl rfl ?_
    refine j_callVi C0 (c_X4_leastNumber l z _ (ix p0) (vin_lt hv)) yk_X4_leastNumber w_581 (fun H locs hP _ => recvW C0 hP _ (by have := (vin_lt hv); omega) (cel_shelf (vin_lt hv)) rfl) ⟨Nat.le_of_ble_eq_true rfl, Nat.le_of_ble_eq_true rfl⟩ rfl rfl (Nat.le_of_ble_eq_true rfl) dX5_judge_20 ?_
    refine j_istore C0 (lv' := [(4, _), (3, _), (2, _), (0, _), (1, _)]) dX5_judge_23 (by decide) rfl ?_
    refine j_aload_n C0 3 dX5_judge_25 rfl rfl ?_
    refine g_Cakes_trial C0 w_159 dX5_judge_26 ?_
    refine j_aload_n C0 3 dX5_judge_29 rfl rfl ?_
    refine g_Cakes_now C0 w_157 dX5_judge_30 ?_
    refine j_callVv C0 (c_X0_becomes l z _ 2 lt3_2 0 lt3_0 hI) yk_X0_becomes w_211 (fun H locs hP _ => recvW C0 hP _ (by have := lt3_2; omega) (cel_fete lt3_2) rfl) ⟨Nat.le_of_ble_eq_true rfl, Nat.le_of_ble_eq_true rfl⟩ rfl rfl (Nat.le_of_ble_eq_true rfl) dX5_judge_33 ?_
    refine j_iconst C0 (v := 0) dX5_judge_36 (by decide) ?_
    refine j_istore C0 (lv' := [(5, _), (4, _), (3, _), (2, _), (0, _), (1, _)]) dX5_judge_37 (by decide) rfl ?_
    have L39 : ∀ (n0 : Nat) (a5 : Int32) (g_39 : Mem), lc a5 (g (24 + (ix p0)) 5) n0 → NX g g_39 → In g_39 → jj p l e { frames := 6, cells := 0, slots := 0, locals := 126 } s m args below meth c (zA z) (zD z) 52 (zad z) (celC z) 9 (fun r => MQ below (qIC z r) args s 0 0 (zA z)) (f_X5_judge_39 g p0 n0 a5 g_39) g_39 39 [(0, .ref (zad z 46)), (1, .int p0), (3, .ref (zad z (24 + ix p0))), (4, .int (f_X4_leastNumber g (ix p0))), (5, .int a5)] [] := by
      intro n0
      induction n0 with
      | zero => intro a5 g_39 hL hN hIm; exact absurd hL.2 (Nat.not_lt_zero _)
      | succ n0 ih0 =>
        intro a5 g_39 hL hN hIm
        rw [f_X5_judge_39]
        refine j_iload C0 4 dX5_judge_39 rfl ?_
        refine j_aload_n C0 2 dX5_judge_41 rfl rfl ?_
        refine g_Shelf_length C0 (vin_lt hv) w_142 dX5_judge_42 ?_
        refine j_icmp_ge C0 134 dX5_judge_45 (by decide) (fun c_45 => ?_) (fun c_45 => ?_)
        · refine j_bipush C0 (v := (-4)) dX5_judge_134 (by decide) ?_
          exact j_iretM C0 hrt hlk dX5_judge_136
        · refine j_aload_n C0 0 dX5_judge_48 rfl rfl ?_
          refine g_Cakes_trial C0 w_159 dX5_judge_49 ?_
          refine j_callVi C0 (c_X0_bestTurn l z _ 2 lt3_2 hIm) yk_X0_bestTurn w_381 (fun H locs hP _ => recvW C0 hP _ (by have := lt3_2; omega) (cel_fete lt3_2) rfl) ⟨Nat.le_of_ble_eq_true rfl, Nat.le_of_ble_eq_true rfl⟩ rfl rfl (Nat.le_of_ble_eq_true rfl) dX5_judge_52 ?_
          refine j_istore C0 (lv' := [(6, _), (0, _), (1, _), (3, _), (4, _), (5, _)]) dX5_judge_55 (by decide) rfl ?_
          refine j_iload C0 0 dX5_judge_57 rfl ?_
          refine j_if_ge C0 67 dX5_judge_59 (by decide) (fun c_59 => ?_) (fun c_59 => ?_)
          · have hbt := bestTurn_in hIm lt3_2 (x := _) rfl (nlt_of c_59)
            refine j_aload_n C0 1 dX5_judge_67 rfl rfl ?_
            refine g_Cakes_trial C0 w_159 dX5_judge_68 ?_
            refine j_iload C0 0 dX5_judge_71 rfl ?_
            refine j_bipush C0 (v := 10) dX5_judge_73 (by decide) ?_
            refine j_idiv C0 dX5_judge_75 (by decide) ?_
            refine j_iload C0 0 dX5_judge_76 rfl ?_
            refine j_bipush C0 (v := 10) dX5_judge_78 (by decide) ?_
            refine j_irem C0 dX5_judge_80 (by decide) ?_
            refine j_callVi C0 (c_X0_turn l z _ 2 lt3_2 _ _ hbt.1 hbt.2 hIm) yk_X0_turn w_296 (fun H locs hP _ => recvW C0 hP _ (by have := lt3_2; omega) (cel_fete lt3_2) rfl) ⟨Nat.le_of_ble_eq_true rfl, Nat.le_of_ble_eq_true rfl⟩ rfl rfl (Nat.le_of_ble_eq_true rfl) dX5_judge_81 ?_
            refine j_istore C0 (lv' := [(7, _), (6, _), (0, _), (1, _), (3, _), (4, _), (5, _)]) dX5_judge_84 (by decide) rfl ?_
            refine j_iload C0 1 dX5_judge_86 rfl ?_
            refine j_if_lt C0 106 dX5_judge_88 (by decide) (fun c_88 => ?_) (fun c_88 => ?_)
            · refine j_iconst C0 (v := 0) dX5_judge_106 (by decide) ?_
              refine j_istore C0 (lv' := [(8, _), (7, _), (6, _), (0, _), (1, _), (3, _), (4, _), (5, _)]) dX5_judge_107 (by decide) rfl ?_
              refine j_iload C0 0 dX5_judge_109 rfl ?_
              refine j_if_neF C0 128 dX5_judge_111 (by decide) (by decide) ?_
              refine j_aload_n C0 5 dX5_judge_114 rfl rfl ?_
              refine j_iload C0 7 dX5_judge_115 rfl ?_
              refine j_callVi C0 (c_X4_at l z _ (ix p0) (vin_lt hv) _ (In_turn hIm lt3_2 hbt.1 hbt.2)) yk_X4_at w_196 (fun H locs hP _ => recvW C0 hP _ (by have := (vin_lt hv); omega) (cel_shelf (vin_lt hv)) rfl) ⟨Nat.le_of_ble_eq_true rfl, Nat.le_of_ble_eq_true rfl⟩ rfl rfl (Nat.le_of_ble_eq_true rfl) dX5_judge_117 ?_
              refine j_iload C0 6 dX5_judge_120 rfl ?_
              refine j_icmp_eq C0 128 dX5_judge_122 (by decide) (fun c_122 => ?_) (fun c_122 => ?_)
              · refine j_iinc C0 (lv' := [(5, _), (8, _), (7, _), (6, _), (0, _), (1, _), (3, _), (4, _)]) (v := _ + (1)) 7 dX5_judge_128 rfl (by rfl) (by decide) rfl ?_
                refine j_goto C0 39 dX5_judge_131 (by decide) ?_
                exact j_sub [4, 5, 6, 7, 0] rfl (ih0 _ _ (lc_stepN hL ((hN (24 + ix p0) 5 (nx_sh (vin_lt hv))) ▸ c_45)) (hN.tr (NX_turn hbt.1 hbt.2)) (In_turn hIm lt3_2 hbt.1 hbt.2))
              · refine j_iload C0 7 dX5_judge_125 rfl ?_
                exact j_iretM C0 hrt hlk dX5_judge_127
            · refine j_iload C0 0 dX5_judge_91 rfl ?_
              refine j_aload_n C0 4 dX5_judge_93 rfl rfl ?_
              refine j_iload C0 6 dX5_judge_94 rfl ?_
              refine j_callVi C0 (c_X4_at l z _ (ix p0) (vin_lt hv) _ (In_turn hIm lt3_2 hbt.1 hbt.2)) yk_X4_at w_196 (fun H locs hP _ => recvW C0 hP _ (by have := (vin_lt hv); omega) (cel_shelf (vin_lt hv)) rfl) ⟨Nat.le_of_ble_eq_true rfl, Nat.le_of_ble_eq_true rfl⟩ rfl rfl (Nat.le_of_ble_eq_true rfl) dX5_judge_96 ?_
              refine j_icmp_ne C0 106 dX5_judge_99 (by decide) (fun c_99 => ?_) (fun c_99 => ?_)
              · refine j_iconst C0 (v := 1) dX5_judge_102 (by decide) ?_
                refine j_goto C0 107 dX5_judge_103 (by decide) ?_
                refine j_istore C0 (lv' := [(8, _), (7, _), (6, _), (0, _), (1, _), (3, _), (4, _), (5, _)]) dX5_judge_107 (by decide) rfl ?_
                refine j_iload C0 0 dX5_judge_109 rfl ?_
                refine j_if_neT C0 128 dX5_judge_111 (by decide) (by decide) ?_
                refine j_iinc C0 (lv' := [(5, _), (8, _), (7, _), (6, _), (0, _), (1, _), (3, _), (4, _)]) (v := _ + (1)) 7 dX5_judge_128 rfl (by rfl) (by decide) rfl ?_
                refine j_goto C0 39 dX5_judge_131 (by decide) ?_
                exact j_sub [4, 5, 6, 7, 0] rfl (ih0 _ _ (lc_stepN hL ((hN (24 + ix p0) 5 (nx_sh (vin_lt hv))) ▸ c_45)) (hN.tr (NX_turn hbt.1 hbt.2)) (In_turn hIm lt3_2 hbt.1 hbt.2))
              · refine j_iconst C0 (v := 0) dX5_judge_106 (by decide) ?_
                refine j_istore C0 (lv' := [(8, _), (7, _), (6, _), (0, _), (1, _), (3, _), (4, _), (5, _)]) dX5_judge_107 (by decide) rfl ?_
                refine j_iload C0 0 dX5_judge_109 rfl ?_
                refine j_if_neF C0 128 dX5_judge_111 (by decide) (by decide) ?_
                refine j_aload_n C0 5 dX5_judge_114 rfl rfl ?_
                refine j_iload C0 7 dX5_judge_115 rfl ?_
                refine j_callVi C0 (c_X4_at l z _ (ix p0) (vin_lt hv) _ (In_turn hIm lt3_2 hbt.1 hbt.2)) yk_X4_at w_196 (fun H locs hP _ => recvW C0 hP _ (by have := (vin_lt hv); omega) (cel_shelf (vin_lt hv)) rfl) ⟨Nat.le_of_ble_eq_true rfl, Nat.le_of_ble_eq_true rfl⟩ rfl rfl (Nat.le_of_ble_eq_true rfl) dX5_judge_117 ?_
                refine j_iload C0 6 dX5_judge_120 rfl ?_
                refine j_icmp_eq C0 128 dX5_judge_122 (by decide) (fun c_122 => ?_) (fun c_122 => ?_)
                · refine j_iinc C0 (lv' := [(5, _), (8, _), (7, _), (6, _), (0, _), (1, _), (3, _), (4, _)]) (v := _ + (1)) 7 dX5_judge_128 rfl (by rfl) (by decide) rfl ?_
                  refine j_goto C0 39 dX5_judge_131 (by decide) ?_
                  exact j_sub [4, 5, 6, 7, 0] rfl (ih0 _ _ (lc_stepN hL ((hN (24 + ix p0) 5 (nx_sh (vin_lt hv))) ▸ c_45)) (hN.tr (NX_turn hbt.1 hbt.2)) (In_turn hIm lt3_2 hbt.1 hbt.2))
                · refine j_iload C0 7 dX5_judge_125 rfl ?_
                  exact j_iretM C0 hrt hlk dX5_judge_127
          · refine j_bipush C0 (v := (-4)) dX5_judge_62 (by decide) ?_
            refine j_goto C0 84 dX5_judge_64 (by decide) ?_
            refine j_istore C0 (lv' := [(7, _), (6, _), (0, _), (1, _), (3, _), (4, _), (5, _)]) dX5_judge_84 (by decide) rfl ?_
            refine j_iload C0 1 dX5_judge_86 rfl ?_
            refine j_if_lt C0 106 dX5_judge_88 (by decide) (fun c_88 => ?_) (fun c_88 => ?_)
            · refine j_iconst C0 (v := 0) dX5_judge_106 (by decide) ?_
              refine j_istore C0 (lv' := [(8, _), (7, _), (6, _), (0, _), (1, _), (3, _), (4, _), (5, _)]) dX5_judge_107 (by decide) rfl ?_
              refine j_iload C0 0 dX5_judge_109 rfl ?_
              refine j_if_neF C0 128 dX5_judge_111 (by decide) (by decide) ?_
              refine j_aload_n C0 5 dX5_judge_114 rfl rfl ?_
              refine j_iload C0 7 dX5_judge_115 rfl ?_
              refine j_callVi C0 (c_X4_at l z _ (ix p0) (vin_lt hv) _ hIm) yk_X4_at w_196 (fun H locs hP _ => recvW C0 hP _ (by have := (vin_lt hv); omega) (cel_shelf (vin_lt hv)) rfl) ⟨Nat.le_of_ble_eq_true rfl, Nat.le_of_ble_eq_true rfl⟩ rfl rfl (Nat.le_of_ble_eq_true rfl) dX5_judge_117 ?_
              refine j_iload C0 6 dX5_judge_120 rfl ?_
              refine j_icmp_eq C0 128 dX5_judge_122 (by decide) (fun c_122 => ?_) (fun c_122 => ?_)
              · refine j_iinc C0 (lv' := [(5, _), (8, _), (7, _), (6, _), (0, _), (1, _), (3, _), (4, _)]) (v := _ + (1)) 7 dX5_judge_128 rfl (by rfl) (by decide) rfl ?_
                refine j_goto C0 39 dX5_judge_131 (by decide) ?_
                exact j_sub [4, 5, 6, 7, 0] rfl (ih0 _ _ (lc_stepN hL ((hN (24 + ix p0) 5 (nx_sh (vin_lt hv))) ▸ c_45)) hN hIm)
              · refine j_iload C0 7 dX5_judge_125 rfl ?_
                exact j_iretM C0 hrt hlk dX5_judge_127
            · refine j_iload C0 0 dX5_judge_91 rfl ?_
              refine j_aload_n C0 4 dX5_judge_93 rfl rfl ?_
              refine j_iload C0 6 dX5_judge_94 rfl ?_
              refine j_callVi C0 (c_X4_at l z _ (ix p0) (vin_lt hv) _ hIm) yk_X4_at w_196 (fun H locs hP _ => recvW C0 hP _ (by have := (vin_lt hv); omega) (cel_shelf (vin_lt hv)) rfl) ⟨Nat.le_of_ble_eq_true rfl, Nat.le_of_ble_eq_true rfl⟩ rfl rfl (Nat.le_of_ble_eq_true rfl) dX5_judge_96 ?_
              refine j_icmp_ne C0 106 dX5_judge_99 (by decide) (fun c_99 => ?_) (fun c_99 => ?_)
              · refine j_iconst C0 (v := 1) dX5_judge_102 (by decide) ?_
                refine j_goto C0 107 dX5_judge_103 (by decide) ?_
                refine j_istore C0 (lv' := [(8, _), (7, _), (6, _), (0, _), (1, _), (3, _), (4, _), (5, _)]) dX5_judge_107 (by decide) rfl ?_
                refine j_iload C0 0 dX5_judge_109 rfl ?_
                refine j_if_neT C0 128 dX5_judge_111 (by decide) (by decide) ?_
                refine j_iinc C0 (lv' := [(5, _), (8, _), (7, _), (6, _), (0, _), (1, _), (3, _), (4, _)]) (v := _ + (1)) 7 dX5_judge_128 rfl (by rfl) (by decide) rfl ?_
                refine j_goto C0 39 dX5_judge_131 (by decide) ?_
                exact j_sub [4, 5, 6, 7, 0] rfl (ih0 _ _ (lc_stepN hL ((hN (24 + ix p0) 5 (nx_sh (vin_lt hv))) ▸ c_45)) hN hIm)
              · refine j_iconst C0 (v := 0) dX5_judge_106 (by decide) ?_
                refine j_istore C0 (lv' := [(8, _), (7, _), (6, _), (0, _), (1, _), (3, _), (4, _), (5, _)]) dX5_judge_107 (by decide) rfl ?_
                refine j_iload C0 0 dX5_judge_109 rfl ?_
                refine j_if_neF C0 128 dX5_judge_111 (by decide) (by decide) ?_
                refine j_aload_n C0 5 dX5_judge_114 rfl rfl ?_
                refine j_iload C0 7 dX5_judge_115 rfl ?_
                refine j_callVi C0 (c_X4_at l z _ (ix p0) (vin_lt hv) _ hIm) yk_X4_at w_196 (fun H locs hP _ => recvW C0 hP _ (by have := (vin_lt hv); omega) (cel_shelf (vin_lt hv)) rfl) ⟨Nat.le_of_ble_eq_true rfl, Nat.le_of_ble_eq_true rfl⟩ rfl rfl (Nat.le_of_ble_eq_true rfl) dX5_judge_117 ?_
                refine j_iload C0 6 dX5_judge_120 rfl ?_
                refine j_icmp_eq C0 128 dX5_judge_122 (by decide) (fun c_122 => ?_) (fun c_122 => ?_)
                · refine j_iinc C0 (lv' := [(5, _), (8, _), (7, _), (6, _), (0, _), (1, _), (3, _), (4, _)]) (v := _ + (1)) 7 dX5_judge_128 rfl (by rfl) (by decide) rfl ?_
                  refine j_goto C0 39 dX5_judge_131 (by decide) ?_
                  exact j_sub [4, 5, 6, 7, 0] rfl (ih0 _ _ (lc_stepN hL ((hN (24 + ix p0) 5 (nx_sh (vin_lt hv))) ▸ c_45)) hN hIm)
                · refine j_iload C0 7 dX5_judge_125 rfl ?_
                  exact j_iretM C0 hrt hlk dX5_judge_127
    exact j_sub [4, 5, 2, 1, 0] rfl (L39 101 _ _ (lc_0 (by have := In_len hI (vin_lt hv); omega) (by decide)) (NX_becomes hI) (In_becomesF hI lt3_2 lt3_0))
  · refine j_iload_n C0 0 dX5_judge_10 rfl rfl ?_
    exact j_iretM C0 hrt hlk dX5_judge_11
def f_X5_fetes_64 (g : Mem) (p0 p1 p2 : Int32) (K0 : Int32 → Int32 → Int32 → Int32 → Mem → Int32 × Mem) (a4 : Int32) (a5 : Int32) (a6 : Int32) (a7 : Int32) (g_44 : Mem) : Nat → Int32 → Int32 → Int32 → Int32 → Mem → Int32 × Mem
  | 0, _, _, _, _, _ => (0, g)
  | n1 + 1, b4, b5, b6, b8, g_64 => if (10 : Int32) ≤ b8 then (K0 b4 b5 b6 (a7 + (1 : Int32)) g_64) else (if (f_X0_canEat g_64 2 (f_X5_drawn (f_X5_nextSeed b4) (g_64 40 1)) (f_X5_drawn (f_X5_nextSeed (f_X5_nextSeed b4)) (g_64 40 1))) = 0 then (f_X5_fetes_64 g p0 p1 p2 K0 a4 a5 a6 a7 g_44 n1 (f_X5_nextSeed (f_X5_nextSeed b4)) b5 b6 (b8 + (1 : Int32)) g_64) else (f_X5_fetes_64 g p0 p1 p2 K0 a4 a5 a6 a7 g_44 n1 (f_X5_nextSeed (f_X5_nextSeed b4)) (b5 + (r_X0_turn g_64 2 (f_X5_drawn (f_X5_nextSeed b4) (g_64 40 1)) (f_X5_drawn (f_X5_nextSeed (f_X5_nextSeed b4)) (g_64 40 1)))) (b6 + (1 : Int32)) (b8 + (1 : Int32)) (m_X0_turn g_64 2 (f_X5_drawn (f_X5_nextSeed b4) (g_64 40 1)) (f_X5_drawn (f_X5_nextSeed (f_X5_nextSeed b4)) (g_64 40 1)))))
def f_X5_fetes_44 (g : Mem) (p0 p1 p2 : Int32) : Nat → Int32 → Int32 → Int32 → Int32 → Mem → Int32 × Mem
  | 0, _, _, _, _, _ => (0, g)
  | n0 + 1, a4, a5, a6, a7, g_44 => if p0 ≤ a7 then (if p2 = 0 then ((a5, g_44)) else ((a6, g_44))) else (f_X5_fetes_64 g p0 p1 p2 (fun a4' a5' a6' a7' g_44' => f_X5_fetes_44 g p0 p1 p2 n0 a4' a5' a6' a7' g_44') a4 a5 a6 a7 g_44 11 a4 a5 a6 (0 : Int32) (f_X0_becomes g_44 2 0))
def f_X5_fetes (g : Mem) (p0 p1 p2 : Int32) : Int32 × Mem := if (f_X5_isWithin p0 (1 : Int32) (20 : Int32)) = 0 then (((-1 : Int32), g)) else (if (f_X5_isOneOfTwo p2) = 0 then (((-1 : Int32), g)) else (if (g 40 1) = 0 then (((-3 : Int32), g)) else (f_X5_fetes_44 g p0 p1 p2 21 p1 (0 : Int32) (0 : Int32) (0 : Int32) g)))
def r_X5_fetes (g : Mem) (p0 p1 p2 : Int32) : Int32 := (f_X5_fetes g p0 p1 p2).1
def m_X5_fetes (g : Mem) (p0 p1 p2 : Int32) : Mem := (f_X5_fetes g p0 p1 p2).2
theorem e_X5_fetes (g : Mem) (p0 p1 p2 : Int32) : (r_X5_fetes g p0 p1 p2, m_X5_fetes g p0 p1 p2) = f_X5_fetes g p0 p1 p2 := by unfold r_X5_fetes m_X5_fetes; exact pmk_eta _
theorem yk_X5_fetes : yokV yX5_fetes RX5 cX5_fetes 11 (some .int) 3 := ⟨w_589, w_587, w_588, w_1, by decide +kernel⟩
set_option maxHeartbeats 4000000 in
set_option maxRecDepth 100000 in
theorem c_X5_fetes (l : Launch) (z : ZC) (g : Mem) (p0 p1 p2 : Int32) (hI : In g) : ctC l yX5_fetes cX5_fetes 11 (some .int) 5 103 z g [.ref (zad z 46), .int p0, .int p1, .int p2] (qIC z (r_X5_fetes g p0 p1 p2, m_X5_fetes g p0 p1 p2)) := by
  rw [e_X5_fetes]
  refine ct_of (own := RX5) (q := fun r => qIC z r) (res := f_X5_fetes g p0 p1 p2) (lv := [(0, .ref (zad z 46)), (1, .int p0), (2, .int p1), (3, .int p2)]) (enokC z) rfl (by decide) (Nat.le_of_ble_eq_true rfl) rfl (fun p e s m args below meth c C0 hrt hlk => ?_)
  unfold f_X5_fetes
  refine j_iload_n C0 1 dX5_fetes_0 rfl rfl ?_
  refine j_iconst C0 (v := 1) dX5_fetes_1 (by decide) ?_
  refine j_bipush C0 (v := 20) dX5_fetes_2 (by decide) ?_
  refine j_callSi C0 (c_X5_isWithin l z _ _ _ _) yk_X5_isWithin w_190 ⟨Nat.le_of_ble_eq_true rfl, Nat.le_of_ble_eq_true rfl⟩ rfl rfl (Nat.le_of_ble_eq_true rfl) dX5_fetes_4 ?_
  refine j_if_eq C0 17 dX5_fetes_7 (by decide) (fun c_7 => ?_) (fun c_7 => ?_)
  · refine j_iconst C0 (v := (-1)) dX5_fetes_17 (by decide) ?_
    exact j_iretM C0 hrt hlk dX5_fetes_18
  · refine j_iload_n C0 3 dX5_fetes_10 rfl rfl ?_
    refine j_callSi C0 (c_X5_isOneOfTwo l z _ _) yk_X5_isOneOfTwo w_353 ⟨Nat.le_of_ble_eq_true rfl, Nat.le_of_ble_eq_true rfl⟩ rfl rfl (Nat.le_of_ble_eq_true rfl) dX5_fetes_11 ?_
    refine j_if_ne C0 19 dX5_fetes_14 (by decide) (fun c_14 => ?_) (fun c_14 => ?_)
    · refine j_iconst C0 (v := (-1)) dX5_fetes_17 (by decide) ?_
      exact j_iretM C0 hrt hlk dX5_fetes_18
    · refine j_aload_n C0 0 dX5_fetes_19 rfl rfl ?_
      refine g_Cakes_now C0 w_157 dX5_fetes_20 ?_
      refine g_Fete_size C0 lt3_0 w_85 dX5_fetes_23 ?_
      refine j_if_ne C0 32 dX5_fetes_26 (by decide) (fun c_26 => ?_) (fun c_26 => ?_)
      · refine j_bipush C0 (v := (-3)) dX5_fetes_29 (by decide) ?_
        exact j_iretM C0 hrt hlk dX5_fetes_31
      · refine j_iload_n C0 2 dX5_fetes_32 rfl rfl ?_
        refine j_istore C0 (lv' := [(4, _), (0, _), (1, _), (2, _), (3, _)]) dX5_fetes_33 (by decide) rfl ?_
        refine j_iconst C0 (v := 0) dX5_fetes_35 (by decide) ?_
        refine j_istore C0 (lv' := [(5, _), (4, _), (0, _), (1, _), (2, _), (3, _)]) dX5_fetes_36 (by decide) rfl ?_
        refine j_iconst C0 (v := 0) dX5_fetes_38 (by decide) ?_
        refine j_istore C0 (lv' := [(6, _), (5, _), (4, _), (0, _), (1, _), (2, _), (3, _)]) dX5_fetes_39 (by decide) rfl ?_
        refine j_iconst C0 (v := 0) dX5_fetes_41 (by decide) ?_
        refine j_istore C0 (lv' := [(7, _), (6, _), (5, _), (4, _), (0, _), (1, _), (2, _), (3, _)]) dX5_fetes_42 (by decide) rfl ?_
        have L44 : ∀ (n0 : Nat) (a4 : Int32) (a5 : Int32) (a6 : Int32) (a7 : Int32) (g_44 : Mem), lc a7 p0 n0 → In g_44 → jj p l e { frames := 5, cells := 0, slots := 0, locals := 103 } s m args below meth c (zA z) (zD z) 52 (zad z) (celC z) 11 (fun r => MQ below (qIC z r) args s 0 0 (zA z)) (f_X5_fetes_44 g p0 p1 p2 n0 a4 a5 a6 a7 g_44) g_44 44 [(0, .ref (zad z 46)), (1, .int p0), (2, .int p1), (3, .int p2), (4, .int a4), (5, .int a5), (6, .int a6), (7, .int a7)] [] := by
          intro n0
          induction n0 with
          | zero => intro a4 a5 a6 a7 g_44 hL0 hI0; exact absurd hL0.2 (Nat.not_lt_zero _)
          | succ n0 ih0 =>
            intro a4 a5 a6 a7 g_44 hL0 hI0
            rw [f_X5_fetes_44]
            refine j_iload C0 7 dX5_fetes_44 rfl ?_
            refine j_iload_n C0 1 dX5_fetes_46 rfl rfl ?_
            refine j_icmp_ge C0 158 dX5_fetes_47 (by decide) (fun c_47 => ?_) (fun c_47 => ?_)
            · refine j_iload_n C0 3 dX5_fetes_158 rfl rfl ?_
              refine j_if_ne C0 167 dX5_fetes_159 (by decide) (fun c_159 => ?_) (fun c_159 => ?_)
              · refine j_iload C0 5 dX5_fetes_162 rfl ?_
                refine j_goto C0 169 dX5_fetes_164 (by decide) ?_
                exact j_iretM C0 hrt hlk dX5_fetes_169
              · refine j_iload C0 6 dX5_fetes_167 rfl ?_
                exact j_iretM C0 hrt hlk dX5_fetes_169
            · refine j_aload_n C0 0 dX5_fetes_50 rfl rfl ?_
              refine g_Cakes_trial C0 w_159 dX5_fetes_51 ?_
              refine j_aload_n C0 0 dX5_fetes_54 rfl rfl ?_
              refine g_Cakes_now C0 w_157 dX5_fetes_55 ?_
              refine j_callVv C0 (c_X0_becomes l z _ 2 lt3_2 0 lt3_0 hI0) yk_X0_becomes w_211 (fun H locs hP _ => recvW C0 hP _ (by have := lt3_2; omega) (cel_fete lt3_2) rfl) ⟨Nat.le_of_ble_eq_true rfl, Nat.le_of_ble_eq_true rfl⟩ rfl rfl (Nat.le_of_ble_eq_true rfl) dX5_fetes_58 ?_
              refine j_iconst C0 (v := 0) dX5_fetes_61 (by decide) ?_
              refine j_istore C0 (lv' := [(8, _), (0, _), (1, _), (2, _), (3, _), (4, _), (5, _), (6, _), (7, _)]) dX5_fetes_62 (by decide) rfl ?_
              have L64 : ∀ (n1 : Nat) (b4 : Int32) (b5 : Int32) (b6 : Int32) (b8 : Int32) (g_64 : Mem), lc b8 10 n1 → In g_64 → jj p l e { frames := 5, cells := 0, slots := 0, locals := 103 } s m args below meth c (zA z) (zD z) 52 (zad z) (celC z) 11 (fun r => MQ below (qIC z r) args s 0 0 (zA z)) (f_X5_fetes_64 g p0 p1 p2 (fun a4' a5' a6' a7' g_44' => f_X5_fetes_44 g p0 p1 p2 n0 a4' a5' a6' a7' g_44') a4 a5 a6 a7 g_44 n1 b4 b5 b6 b8 g_64) g_64 64 [(0, .ref (zad z 46)), (1, .int p0), (2, .int p1), (3, .int p2), (4, .int b4), (5, .int b5), (6, .int b6), (7, .int a7), (8, .int b8)] [] := by
                intro n1
                induction n1 with
                | zero => intro b4 b5 b6 b8 g_64 hL1 hI1; exact absurd hL1.2 (Nat.not_lt_zero _)
                | succ n1 ih1 =>
                  intro b4 b5 b6 b8 g_64 hL1 hI1
                  rw [f_X5_fetes_64]
                  refine j_iload C0 8 dX5_fetes_64 rfl ?_
                  refine j_bipush C0 (v := 10) dX5_fetes_66 (by decide) ?_
                  refine j_icmp_ge C0 152 dX5_fetes_68 (by decide) (fun c_68 => ?_) (fun c_68 => ?_)
                  · refine j_iinc C0 (lv' := [(7, _), (0, _), (1, _), (2, _), (3, _), (4, _), (5, _), (6, _), (8, _)]) (v := _ + (1)) 7 dX5_fetes_152 rfl (by rfl) (by decide) rfl ?_
                    refine j_goto C0 44 dX5_fetes_155 (by decide) ?_
                    exact j_sub [1, 2, 3, 4, 5, 6, 7, 0] rfl (ih0 _ _ _ _ _ (lc_stepN hL0 c_47) hI1)
                  · refine j_iload C0 4 dX5_fetes_71 rfl ?_
                    refine j_callSi C0 (c_X5_nextSeed l z _ _) yk_X5_nextSeed w_590 ⟨Nat.le_of_ble_eq_true rfl, Nat.le_of_ble_eq_true rfl⟩ rfl rfl (Nat.le_of_ble_eq_true rfl) dX5_fetes_73 ?_
                    refine j_istore C0 (lv' := [(4, _), (0, _), (1, _), (2, _), (3, _), (5, _), (6, _), (7, _), (8, _)]) dX5_fetes_76 (by decide) rfl ?_
                    refine j_iload C0 0 dX5_fetes_78 rfl ?_
                    refine j_aload_n C0 1 dX5_fetes_80 rfl rfl ?_
                    refine g_Cakes_now C0 w_157 dX5_fetes_81 ?_
                    refine g_Fete_size C0 lt3_0 w_85 dX5_fetes_84 ?_
                    refine j_callSi C0 (c_X5_drawn l z _ _ _) yk_X5_drawn w_594 ⟨Nat.le_of_ble_eq_true rfl, Nat.le_of_ble_eq_true rfl⟩ rfl rfl (Nat.le_of_ble_eq_true rfl) dX5_fetes_87 ?_
                    refine j_istore C0 (lv' := [(9, _), (4, _), (0, _), (1, _), (2, _), (3, _), (5, _), (6, _), (7, _), (8, _)]) dX5_fetes_90 (by decide) rfl ?_
                    refine j_iload C0 1 dX5_fetes_92 rfl ?_
                    refine j_callSi C0 (c_X5_nextSeed l z _ _) yk_X5_nextSeed w_590 ⟨Nat.le_of_ble_eq_true rfl, Nat.le_of_ble_eq_true rfl⟩ rfl rfl (Nat.le_of_ble_eq_true rfl) dX5_fetes_94 ?_
                    refine j_istore C0 (lv' := [(4, _), (9, _), (0, _), (1, _), (2, _), (3, _), (5, _), (6, _), (7, _), (8, _)]) dX5_fetes_97 (by decide) rfl ?_
                    refine j_iload C0 0 dX5_fetes_99 rfl ?_
                    refine j_aload_n C0 2 dX5_fetes_101 rfl rfl ?_
                    refine g_Cakes_now C0 w_157 dX5_fetes_102 ?_
                    refine g_Fete_size C0 lt3_0 w_85 dX5_fetes_105 ?_
                    refine j_callSi C0 (c_X5_drawn l z _ _ _) yk_X5_drawn w_594 ⟨Nat.le_of_ble_eq_true rfl, Nat.le_of_ble_eq_true rfl⟩ rfl rfl (Nat.le_of_ble_eq_true rfl) dX5_fetes_108 ?_
                    refine j_istore C0 (lv' := [(10, _), (4, _), (9, _), (0, _), (1, _), (2, _), (3, _), (5, _), (6, _), (7, _), (8, _)]) dX5_fetes_111 (by decide) rfl ?_
                    refine j_aload_n C0 3 dX5_fetes_113 rfl rfl ?_
                    refine g_Cakes_trial C0 w_159 dX5_fetes_114 ?_
                    refine j_iload C0 2 dX5_fetes_117 rfl ?_
                    refine j_iload C0 0 dX5_fetes_119 rfl ?_
                    refine j_callVi C0 (c_X0_canEat l z _ 2 lt3_2 _ _ hI1) yk_X0_canEat w_369 (fun H locs hP _ => recvW C0 hP _ (by have := lt3_2; omega) (cel_fete lt3_2) rfl) ⟨Nat.le_of_ble_eq_true rfl, Nat.le_of_ble_eq_true rfl⟩ rfl rfl (Nat.le_of_ble_eq_true rfl) dX5_fetes_121 ?_
                    refine j_if_eq C0 146 dX5_fetes_124 (by decide) (fun c_124 => ?_) (fun c_124 => ?_)
                    · refine j_iinc C0 (lv' := [(8, _), (10, _), (4, _), (9, _), (0, _), (1, _), (2, _), (3, _), (5, _), (6, _), (7, _)]) (v := _ + (1)) 10 dX5_fetes_146 rfl (by rfl) (by decide) rfl ?_
                      refine j_goto C0 64 dX5_fetes_149 (by decide) ?_
                      exact j_sub [4, 5, 6, 7, 2, 8, 9, 10, 0] rfl (ih1 _ _ _ _ _ (lc_stepN hL1 c_68) hI1)
                    · have hv1 := canEat_in hI1 lt3_2 c_124
                      refine j_iload C0 7 dX5_fetes_127 rfl ?_
                      refine j_aload_n C0 3 dX5_fetes_129 rfl rfl ?_
                      refine g_Cakes_trial C0 w_159 dX5_fetes_130 ?_
                      refine j_iload C0 2 dX5_fetes_133 rfl ?_
                      refine j_iload C0 0 dX5_fetes_135 rfl ?_
                      refine j_callVi C0 (c_X0_turn l z _ 2 lt3_2 _ _ hv1.1 hv1.2 hI1) yk_X0_turn w_296 (fun H locs hP _ => recvW C0 hP _ (by have := lt3_2; omega) (cel_fete lt3_2) rfl) ⟨Nat.le_of_ble_eq_true rfl, Nat.le_of_ble_eq_true rfl⟩ rfl rfl (Nat.le_of_ble_eq_true rfl) dX5_fetes_137 ?_
                      refine j_iadd C0 dX5_fetes_140 ?_
                      refine j_istore C0 (lv' := [(5, _), (10, _), (4, _), (9, _), (0, _), (1, _), (2, _), (3, _), (6, _), (7, _), (8, _)]) dX5_fetes_141 (by decide) rfl ?_
                      refine j_iinc C0 (lv' := [(6, _), (5, _), (10, _), (4, _), (9, _), (0, _), (1, _), (2, _), (3, _), (7, _), (8, _)]) (v := _ + (1)) 8 dX5_fetes_143 rfl (by rfl) (by decide) rfl ?_
                      refine j_iinc C0 (lv' := [(8, _), (6, _), (5, _), (10, _), (4, _), (9, _), (0, _), (1, _), (2, _), (3, _), (7, _)]) (v := _ + (1)) 10 dX5_fetes_146 rfl (by rfl) (by decide) rfl ?_
                      refine j_goto C0 64 dX5_fetes_149 (by decide) ?_
                      exact j_sub [6, 7, 8, 9, 4, 2, 1, 10, 0] rfl (ih1 _ _ _ _ _ (lc_stepN hL1 c_68) (In_turn hI1 lt3_2 hv1.1 hv1.2))
              exact j_sub [1, 2, 3, 4, 5, 6, 7, 8, 0] rfl (L64 11 _ _ _ _ _ (lc_0 (by decide) (by decide)) (In_becomesF hI0 lt3_2 lt3_0))
        exact j_sub [4, 5, 6, 7, 3, 2, 1, 0] rfl (L44 21 _ _ _ _ _ (lc_0 (by have := (isWithin_in c_7).2; have e20 : (20 : Int32).toInt = 20 := rfl; omega) (by decide)) hI)
