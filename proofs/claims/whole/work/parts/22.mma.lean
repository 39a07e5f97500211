def f_X6_here (g : Mem)  : Int32 := if (g 0 7) ≤ (g 0 5) then ((-1 : Int32)) else (((g 13 (ix ((g 0 6) + (g 0 5)))) &&& (255 : Int32)))
theorem yk_X6_here : yokV yX6_here RX6 cX6_here 1 (some .int) 0 := ⟨w_882, w_881, wp_28, w_8, by decide +kernel⟩
set_option maxHeartbeats 4000000 in
set_option maxRecDepth 100000 in
theorem c_X6_here (l : Launch) (z : ZM) (g : Mem) (hw : WP g 600) : ctM l yX6_here cX6_here 1 (some .int) 0 0 z g [.ref (yad z 0)] (qIM z (f_X6_here g, g)) := by
  refine ct_of (own := RX6) (q := fun r => qIM z (r, g)) (res := f_X6_here g) (lv := [(0, .ref (yad z 0))]) enokM rfl (by decide) (Nat.le_of_ble_eq_true rfl) rfl (fun p e s m args below meth c C0 hrt hlk => ?_)
  unfold f_X6_here
  refine j_aload_n C0 0 dX6_here_0 rfl rfl ?_
  refine g_Model_place C0 w_805 dX6_here_1 ?_
  refine j_aload_n C0 0 dX6_here_4 rfl rfl ?_
  refine g_Model_rowEnd C0 w_807 dX6_here_5 ?_
  refine j_icmp_ge C0 32 dX6_here_8 (by decide) (fun c_8 => ?_) (fun c_8 => ?_)
  · refine j_iconst C0 (v := (-1)) dX6_here_32 (by decide) ?_
    exact j_iretP C0 hrt hlk dX6_here_33
  · refine j_aload_n C0 0 dX6_here_11 rfl rfl ?_
    refine g_Model_element C0 w_818 dX6_here_12 ?_
    refine j_aload_n C0 0 dX6_here_15 rfl rfl ?_
    refine g_Model_rowAt C0 w_806 dX6_here_16 ?_
    refine j_aload_n C0 0 dX6_here_19 rfl rfl ?_
    refine g_Model_place C0 w_805 dX6_here_20 ?_
    refine j_iadd C0 dX6_here_23 ?_
    refine a_M C0 (by decide) (here_in hw c_8) dX6_here_24 ?_
    refine j_sipush C0 (v := 255) dX6_here_25 (by decide) ?_
    refine j_iand C0 dX6_here_28 ?_
    refine j_goto C0 33 dX6_here_29 (by decide) ?_
    exact j_iretP C0 hrt hlk dX6_here_33
theorem here_lt {g : Mem} (c : ¬ f_X6_isIn (f_X6_here g) 48 57 = 0) : (g 0 5).toInt < (g 0 7).toInt := by
  have h := isIn_in c
  unfold f_X6_here at h
  split at h
  · exact absurd h.1 (by decide)
  · exact lt_of_nle (by assumption)

def f_X6_readsNumber_m1 (g : Mem) (p0 p1 : Int32) : Mem := up g 5 (ix p0) (0 : Int32)
def f_X6_readsNumber_m2 (g : Mem) (p0 p1 : Int32) (g_9 : Mem) : Mem := up g_9 5 (ix p0) ((((10 : Int32) * (g_9 5 (ix p0))) + (f_X6_here g_9)) - (48 : Int32))
def f_X6_readsNumber_m3 (g : Mem) (p0 p1 : Int32) (g_9 : Mem) : Mem := up (f_X6_readsNumber_m2 g p0 p1 g_9) 0 5 (((f_X6_readsNumber_m2 g p0 p1 g_9) 0 5) + (1 : Int32))
def f_X6_readsNumber_9 (g : Mem) (p0 p1 : Int32) : Nat → Int32 → Mem → Int32 × Mem
  | 0, _, _ => (0, g)
  | n0 + 1, a3, g_9 => if p1 ≤ a3 then (((1 : Int32), g_9)) else (if (f_X6_isIn (f_X6_here g_9) (48 : Int32) (57 : Int32)) = 0 then (((0 : Int32), g_9)) else (f_X6_readsNumber_9 g p0 p1 n0 (a3 + (1 : Int32)) (f_X6_readsNumber_m3 g p0 p1 g_9)))
def f_X6_readsNumber (g : Mem) (p0 p1 : Int32) : Int32 × Mem := f_X6_readsNumber_9 g p0 p1 3 (0 : Int32) (f_X6_readsNumber_m1 g p0 p1)
def r_X6_readsNumber (g : Mem) (p0 p1 : Int32) : Int32 := (f_X6_readsNumber g p0 p1).1
def m_X6_readsNumber (g : Mem) (p0 p1 : Int32) : Mem := (f_X6_readsNumber g p0 p1).2
theorem e_X6_readsNumber (g : Mem) (p0 p1 : Int32) : (r_X6_readsNumber g p0 p1, m_X6_readsNumber g p0 p1) = f_X6_readsNumber g p0 p1 := by unfold r_X6_readsNumber m_X6_readsNumber; exact pmk_eta _
theorem yk_X6_readsNumber : yokV yX6_readsNumber RX6 cX6_readsNumber 4 (some .boolean) 2 := ⟨w_886, w_885, wp_29, w_8, by decide +kernel⟩
set_option maxHeartbeats 4000000 in
set_option maxRecDepth 100000 in
theorem c_X6_readsNumber (l : Launch) (z : ZM) (g : Mem) (p0 p1 : Int32) (hv0 : vp_in p0 4) (hd : p1.toInt ≤ 2) (hw : WP g 600) : ctM l yX6_readsNumber cX6_readsNumber 4 (some .boolean) 1 22 z g [.ref (yad z 0), .int p0, .int p1] (qIM z (r_X6_readsNumber g p0 p1, m_X6_readsNumber g p0 p1)) := by
  rw [e_X6_readsNumber]
  refine ct_of (own := RX6) (q := fun r => qIM z r) (res := f_X6_readsNumber g p0 p1) (lv := [(0, .ref (yad z 0)), (1, .int p0), (2, .int p1)]) enokM rfl (by decide) (Nat.le_of_ble_eq_true rfl) rfl (fun p e s m args below meth c C0 hrt hlk => ?_)
  unfold f_X6_readsNumber
  refine j_aload_n C0 0 dX6_readsNumber_0 rfl rfl ?_
  refine g_Model_numbers C0 w_808 dX6_readsNumber_1 ?_
  refine j_iload_n C0 1 dX6_readsNumber_4 rfl rfl ?_
  refine j_iconst C0 (v := 0) dX6_readsNumber_5 (by decide) ?_
  refine s_M C0 (by decide) hv0 dX6_readsNumber_6 ?_
  refine j_iconst C0 (v := 0) dX6_readsNumber_7 (by decide) ?_
  refine j_istore_n C0 (lv' := [(3, _), (0, _), (1, _), (2, _)]) dX6_readsNumber_8 rfl (by decide) rfl ?_
  have L9 : ∀ (n0 : Nat) (a3 : Int32) (g_9 : Mem), lc a3 p1 n0 → WP g_9 600 → jj p l e { frames := 1, cells := 0, slots := 0, locals := 22 } s m args below meth c (yA z) (yD z) 14 (yad z) (celM z) 4 (fun r => MQ below (qIM z r) args s 0 0 (yA z)) (f_X6_readsNumber_9 g p0 p1 n0 a3 g_9) g_9 9 [(0, .ref (yad z 0)), (1, .int p0), (2, .int p1), (3, .int a3)] [] := by
    intro n0
    induction n0 with
    | zero => intro a3 g_9 hL hw2; exact absurd hL.2 (Nat.not_lt_zero _)
    | succ n0 ih0 =>
      intro a3 g_9 hL hw2
      rw [f_X6_readsNumber_9]
      refine j_iload_n C0 3 dX6_readsNumber_9 rfl rfl ?_
      refine j_iload_n C0 2 dX6_readsNumber_10 rfl rfl ?_
      refine j_icmp_ge C0 69 dX6_readsNumber_11 (by decide) (fun c_11 => ?_) (fun c_11 => ?_)
      · refine j_iconst C0 (v := 1) dX6_readsNumber_69 (by decide) ?_
        exact j_zretM C0 hrt hlk (Or.inr rfl) dX6_readsNumber_70
      · refine j_aload_n C0 0 dX6_readsNumber_14 rfl rfl ?_
        refine j_callVi C0 (c_X6_here l z _ (WP_up hw2 (by decide))) yk_X6_here w_879 (fun H locs hP _ => recvW C0 hP 0 (by decide) celM_0 rfl) ⟨Nat.le_of_ble_eq_true rfl, Nat.le_of_ble_eq_true rfl⟩ rfl rfl (Nat.le_of_ble_eq_true rfl) dX6_readsNumber_15 ?_
        refine j_bipush C0 (v := 48) dX6_readsNumber_18 (by decide) ?_
        refine j_bipush C0 (v := 57) dX6_readsNumber_20 (by decide) ?_
        refine j_callSi C0 (c_X6_isIn l z _ _ _ _) yk_X6_isIn w_872 ⟨Nat.le_of_ble_eq_true rfl, Nat.le_of_ble_eq_true rfl⟩ rfl rfl (Nat.le_of_ble_eq_true rfl) dX6_readsNumber_22 ?_
        refine j_if_ne C0 30 dX6_readsNumber_25 (by decide) (fun c_25 => ?_) (fun c_25 => ?_)
        · refine j_iconst C0 (v := 0) dX6_readsNumber_28 (by decide) ?_
          exact j_zretM C0 hrt hlk (Or.inl rfl) dX6_readsNumber_29
        · refine j_aload_n C0 0 dX6_readsNumber_30 rfl rfl ?_
          refine g_Model_numbers C0 w_808 dX6_readsNumber_31 ?_
          refine j_iload_n C0 1 dX6_readsNumber_34 rfl rfl ?_
          refine j_bipush C0 (v := 10) dX6_readsNumber_35 (by decide) ?_
          refine j_aload_n C0 0 dX6_readsNumber_37 rfl rfl ?_
          refine g_Model_numbers C0 w_808 dX6_readsNumber_38 ?_
          refine j_iload_n C0 1 dX6_readsNumber_41 rfl rfl ?_
          refine a_M C0 (by decide) hv0 dX6_readsNumber_42 ?_
          refine j_imul C0 dX6_readsNumber_43 ?_
          refine j_aload_n C0 0 dX6_readsNumber_44 rfl rfl ?_
          refine j_callVi C0 (c_X6_here l z _ (WP_up hw2 (by decide))) yk_X6_here w_879 (fun H locs hP _ => recvW C0 hP 0 (by decide) celM_0 rfl) ⟨Nat.le_of_ble_eq_true rfl, Nat.le_of_ble_eq_true rfl⟩ rfl rfl (Nat.le_of_ble_eq_true rfl) dX6_readsNumber_45 ?_
          refine j_iadd C0 dX6_readsNumber_48 ?_
          refine j_bipush C0 (v := 48) dX6_readsNumber_49 (by decide) ?_
          refine j_isub C0 dX6_readsNumber_51 ?_
          refine s_M C0 (by decide) hv0 dX6_readsNumber_52 ?_
          refine j_aload_n C0 0 dX6_readsNumber_53 rfl rfl ?_
          refine j_dup C0 dX6_readsNumber_54 rfl ?_
          refine g_Model_place C0 w_805 dX6_readsNumber_55 ?_
          refine j_iconst C0 (v := 1) dX6_readsNumber_58 (by decide) ?_
          refine j_iadd C0 dX6_readsNumber_59 ?_
          refine p_Model_place C0 w_805 dX6_readsNumber_60 ?_
          refine j_iinc C0 (lv' := [(3, _), (0, _), (1, _), (2, _)]) (v := _ + (1)) 3 dX6_readsNumber_63 rfl (by rfl) (by decide) rfl ?_
          refine j_goto C0 9 dX6_readsNumber_66 (by decide) ?_
          exact j_sub [1, 2, 3, 0] rfl (ih0 _ _ (lc_stepN hL c_11) (WP_pl (WP_num hw2) (here_lt c_25)))
  exact j_sub [1, 2, 3, 0] rfl (L9 3 _ _ (lc_0 (by omega) (by decide)) (WP_num hw))
theorem rn_L {g : Mem} {p0 p1 : Int32} : ∀ (n : Nat) (a3 : Int32) (g2 : Mem), WP g2 600 → WP g 600 → WP (f_X6_readsNumber_9 g p0 p1 n a3 g2).2 600 := by
  intro n
  induction n with
  | zero => intro a3 g2 h hg; exact hg
  | succ n ih =>
    intro a3 g2 h hg
    rw [f_X6_readsNumber_9]
    split
    · exact h
    · split
      · exact h
      · exact ih _ _ (WP_pl (WP_num h) (here_lt (by assumption))) hg
theorem WP_rn {g : Mem} {p0 p1 : Int32} (h : WP g 600) : WP (m_X6_readsNumber g p0 p1) 600 := rn_L 3 0 _ (WP_num h) h

def f_X6_readsStatement_m1 (g : Mem)  : Mem := up g 0 5 ((g 0 5) + (1 : Int32))
def f_X6_readsStatement_m2 (g : Mem)  : Mem := up (m_X6_readsNumber (f_X6_readsStatement_m1 g) (0 : Int32) (2 : Int32)) 0 5 (((m_X6_readsNumber (f_X6_readsStatement_m1 g) (0 : Int32) (2 : Int32)) 0 5) + (1 : Int32))
def f_X6_readsStatement_m3 (g : Mem)  : Mem := up (m_X6_readsNumber (m_X6_readsNumber (f_X6_readsStatement_m1 g) (0 : Int32) (1 : Int32)) (1 : Int32) (2 : Int32)) 0 5 (((m_X6_readsNumber (m_X6_readsNumber (f_X6_readsStatement_m1 g) (0 : Int32) (1 : Int32)) (1 : Int32) (2 : Int32)) 0 5) + (1 : Int32))
def f_X6_readsStatement_m4 (g : Mem)  : Mem := up (m_X6_readsNumber (m_X6_readsNumber (f_X6_readsStatement_m1 g) (0 : Int32) (1 : Int32)) (1 : Int32) (2 : Int32)) 0 5 (((m_X6_readsNumber (m_X6_readsNumber (f_X6_readsStatement_m1 g) (0 : Int32) (1 : Int32)) (1 : Int32) (2 : Int32)) 0 5) + (1 : Int32))
def f_X6_readsStatement_m5 (g : Mem)  : Mem := up (m_X6_readsNumber (m_X6_readsNumber (m_X6_readsNumber (m_X6_readsNumber (f_X6_readsStatement_m1 g) (0 : Int32) (1 : Int32)) (1 : Int32) (1 : Int32)) (2 : Int32) (2 : Int32)) (3 : Int32) (2 : Int32)) 0 5 (((m_X6_readsNumber (m_X6_readsNumber (m_X6_readsNumber (m_X6_readsNumber (f_X6_readsStatement_m1 g) (0 : Int32) (1 : Int32)) (1 : Int32) (1 : Int32)) (2 : Int32) (2 : Int32)) (3 : Int32) (2 : Int32)) 0 5) + (1 : Int32))
def f_X6_readsStatement_m6 (g : Mem)  : Mem := up (m_X6_readsNumber (m_X6_readsNumber (f_X6_readsStatement_m1 g) (0 : Int32) (1 : Int32)) (1 : Int32) (1 : Int32)) 0 5 (((m_X6_readsNumber (m_X6_readsNumber (f_X6_readsStatement_m1 g) (0 : Int32) (1 : Int32)) (1 : Int32) (1 : Int32)) 0 5) + (1 : Int32))
def f_X6_readsStatement_m7 (g : Mem)  : Mem := up (f_X6_readsStatement_m1 g) 0 5 (((f_X6_readsStatement_m1 g) 0 5) - (1 : Int32))
def f_X6_readsStatement (g : Mem)  : Int32 × Mem := if (f_X6_here g) = 99 then (if (r_X6_readsNumber (f_X6_readsStatement_m1 g) (0 : Int32) (2 : Int32)) = 0 then (((0 : Int32), (m_X6_readsNumber (f_X6_readsStatement_m1 g) (0 : Int32) (2 : Int32)))) else (if (f_X6_here (m_X6_readsNumber (f_X6_readsStatement_m1 g) (0 : Int32) (2 : Int32))) = (59 : Int32) then (((1 : Int32), (f_X6_readsStatement_m2 g))) else (((0 : Int32), (m_X6_readsNumber (f_X6_readsStatement_m1 g) (0 : Int32) (2 : Int32)))))) else (if (f_X6_here g) = 104 then (if (r_X6_readsNumber (f_X6_readsStatement_m1 g) (0 : Int32) (1 : Int32)) = 0 then (((0 : Int32), (m_X6_readsNumber (f_X6_readsStatement_m1 g) (0 : Int32) (1 : Int32)))) else (if (r_X6_readsNumber (m_X6_readsNumber (f_X6_readsStatement_m1 g) (0 : Int32) (1 : Int32)) (1 : Int32) (2 : Int32)) = 0 then (((0 : Int32), (m_X6_readsNumber (m_X6_readsNumber (f_X6_readsStatement_m1 g) (0 : Int32) (1 : Int32)) (1 : Int32) (2 : Int32)))) else (if (f_X6_here (m_X6_readsNumber (m_X6_readsNumber (f_X6_readsStatement_m1 g) (0 : Int32) (1 : Int32)) (1 : Int32) (2 : Int32))) = (59 : Int32) then (((1 : Int32), (f_X6_readsStatement_m3 g))) else (((0 : Int32), (m_X6_readsNumber (m_X6_readsNumber (f_X6_readsStatement_m1 g) (0 : Int32) (1 : Int32)) (1 : Int32) (2 : Int32))))))) else (if (f_X6_here g) = 108 then (if (r_X6_readsNumber (f_X6_readsStatement_m1 g) (0 : Int32) (1 : Int32)) = 0 then (((0 : Int32), (m_X6_readsNumber (f_X6_readsStatement_m1 g) (0 : Int32) (1 : Int32)))) else (if (r_X6_readsNumber (m_X6_readsNumber (f_X6_readsStatement_m1 g) (0 : Int32) (1 : Int32)) (1 : Int32) (2 : Int32)) = 0 then (((0 : Int32), (m_X6_readsNumber (m_X6_readsNumber (f_X6_readsStatement_m1 g) (0 : Int32) (1 : Int32)) (1 : Int32) (2 : Int32)))) else (if (f_X6_here (m_X6_readsNumber (m_X6_readsNumber (f_X6_readsStatement_m1 g) (0 : Int32) (1 : Int32)) (1 : Int32) (2 : Int32))) = (59 : Int32) then (((1 : Int32), (f_X6_readsStatement_m4 g))) else (((0 : Int32), (m_X6_readsNumber (m_X6_readsNumber (f_X6_readsStatement_m1 g) (0 : Int32) (1 : Int32)) (1 : Int32) (2 : Int32))))))) else (if (f_X6_here g) = 112 then (if (r_X6_readsNumber (f_X6_readsStatement_m1 g) (0 : Int32) (1 : Int32)) = 0 then (((0 : Int32), (m_X6_readsNumber (f_X6_readsStatement_m1 g) (0 : Int32) (1 : Int32)))) else (if (r_X6_readsNumber (m_X6_readsNumber (f_X6_readsStatement_m1 g) (0 : Int32) (1 : Int32)) (1 : Int32) (1 : Int32)) = 0 then (((0 : Int32), (m_X6_readsNumber (m_X6_readsNumber (f_X6_readsStatement_m1 g) (0 : Int32) (1 : Int32)) (1 : Int32) (1 : Int32)))) else (if (r_X6_readsNumber (m_X6_readsNumber (m_X6_readsNumber (f_X6_readsStatement_m1 g) (0 : Int32) (1 : Int32)) (1 : Int32) (1 : Int32)) (2 : Int32) (2 : Int32)) = 0 then (((0 : Int32), (m_X6_readsNumber (m_X6_readsNumber (m_X6_readsNumber (f_X6_readsStatement_m1 g) (0 : Int32) (1 : Int32)) (1 : Int32) (1 : Int32)) (2 : Int32) (2 : Int32)))) else (if (r_X6_readsNumber (m_X6_readsNumber (m_X6_readsNumber (m_X6_readsNumber (f_X6_readsStatement_m1 g) (0 : Int32) (1 : Int32)) (1 : Int32) (1 : Int32)) (2 : Int32) (2 : Int32)) (3 : Int32) (2 : Int32)) = 0 then (((0 : Int32), (m_X6_readsNumber (m_X6_readsNumber (m_X6_readsNumber (m_X6_readsNumber (f_X6_readsStatement_m1 g) (0 : Int32) (1 : Int32)) (1 : Int32) (1 : Int32)) (2 : Int32) (2 : Int32)) (3 : Int32) (2 : Int32)))) else (if (f_X6_here (m_X6_readsNumber (m_X6_readsNumber (m_X6_readsNumber (m_X6_readsNumber (f_X6_readsStatement_m1 g) (0 : Int32) (1 : Int32)) (1 : Int32) (1 : Int32)) (2 : Int32) (2 : Int32)) (3 : Int32) (2 : Int32))) = (59 : Int32) then (((1 : Int32), (f_X6_readsStatement_m5 g))) else (((0 : Int32), (m_X6_readsNumber (m_X6_readsNumber (m_X6_readsNumber (m_X6_readsNumber (f_X6_readsStatement_m1 g) (0 : Int32) (1 : Int32)) (1 : Int32) (1 : Int32)) (2 : Int32) (2 : Int32)) (3 : Int32) (2 : Int32))))))))) else (if (f_X6_here g) = 116 then (if (r_X6_readsNumber (f_X6_readsStatement_m1 g) (0 : Int32) (1 : Int32)) = 0 then (((0 : Int32), (m_X6_readsNumber (f_X6_readsStatement_m1 g) (0 : Int32) (1 : Int32)))) else (if (r_X6_readsNumber (m_X6_readsNumber (f_X6_readsStatement_m1 g) (0 : Int32) (1 : Int32)) (1 : Int32) (1 : Int32)) = 0 then (((0 : Int32), (m_X6_readsNumber (m_X6_readsNumber (f_X6_readsStatement_m1 g) (0 : Int32) (1 : Int32)) (1 : Int32) (1 : Int32)))) else (if (f_X6_here (m_X6_readsNumber (m_X6_readsNumber (f_X6_readsStatement_m1 g) (0 : Int32) (1 : Int32)) (1 : Int32) (1 : Int32))) = (59 : Int32) then (((1 : Int32), (f_X6_readsStatement_m6 g))) else (((0 : Int32), (m_X6_readsNumber (m_X6_readsNumber (f_X6_readsStatement_m1 g) (0 : Int32) (1 : Int32)) (1 : Int32) (1 : Int32))))))) else (((0 : Int32), (f_X6_readsStatement_m7 g)))))))
def r_X6_readsStatement (g : Mem)  : Int32 := (f_X6_readsStatement g).1
def m_X6_readsStatement (g : Mem)  : Mem := (f_X6_readsStatement g).2
theorem e_X6_readsStatement (g : Mem)  : (r_X6_readsStatement g, m_X6_readsStatement g) = f_X6_readsStatement g := by unfold r_X6_readsStatement m_X6_readsStatement; exact pmk_eta _
theorem yk_X6_readsStatement : yokV yX6_readsStatement RX6 cX6_readsStatement 3 (some .boolean) 0 := ⟨w_878, w_877, wp_27, w_8, by decide +kernel⟩
set_option maxHeartbeats 4000000 in
set_option maxRecDepth 100000 in
theorem c_X6_readsStatement (l : Launch) (z : ZM) (g : Mem) (hw : WP g 500) : ctM l yX6_readsStatement cX6_readsStatement 3 (some .boolean) 2 45 z g [.ref (yad z 0)] (qIM z (r_X6_readsStatement g, m_X6_readsStatement g)) := by
  rw [e_X6_readsStatement]
  refine ct_of (own := RX6) (q := fun r => qIM z r) (res := f_X6_readsStatement g) (lv := [(0, .ref (yad z 0))]) enokM rfl (by decide) (Nat.le_of_ble_eq_true rfl) rfl (fun p e s m args below meth c C0 hrt hlk => ?_)
  unfold f_X6_readsStatement
  refine j_aload_n C0 0 dX6_readsStatement_0 rfl rfl ?_
  refine j_callVi C0 (c_X6_here l z _ (WP_up hw (by decide))) yk_X6_here w_879 (fun H locs hP _ => recvW C0 hP 0 (by decide) celM_0 rfl) ⟨Nat.le_of_ble_eq_true rfl, Nat.le_of_ble_eq_true rfl⟩ rfl rfl (Nat.le_of_ble_eq_true rfl) dX6_readsStatement_1 ?_
  refine j_istore_n C0 (lv' := [(1, _), (0, _)]) dX6_readsStatement_4 rfl (by decide) rfl ?_
  refine j_aload_n C0 1 dX6_readsStatement_5 rfl rfl ?_
  refine j_dup C0 dX6_readsStatement_6 rfl ?_
  refine g_Model_place C0 w_805 dX6_readsStatement_7 ?_
  refine j_iconst C0 (v := 1) dX6_readsStatement_10 (by decide) ?_
  refine j_iadd C0 dX6_readsStatement_11 ?_
  refine p_Model_place C0 w_805 dX6_readsStatement_12 ?_
  refine j_iload_n C0 0 dX6_readsStatement_15 rfl rfl ?_
  refine j_case (cnd := (f_X6_here g) = 99) (fun c_16_99 => ?_) (fun c_16_99 => ?_)
  · have c_16_99x : ((f_X6_here g)).toInt = 99 := by rw [c_16_99]; rfl
    refine j_lookup C0 113 dX6_readsStatement_16 (by decide) (by rw [c_16_99x]) (by decide) ?_
    refine j_aload_n C0 1 dX6_readsStatement_113 rfl rfl ?_
    refine j_iconst C0 (v := 0) dX6_readsStatement_114 (by decide) ?_
    refine j_iconst C0 (v := 2) dX6_readsStatement_115 (by decide) ?_
    refine j_callVi C0 (c_X6_readsNumber l z _ _ _ vl4_0 (by decide) (WP_inc hw)) yk_X6_readsNumber w_883 (fun H locs hP _ => recvW C0 hP 0 (by decide) celM_0 rfl) ⟨Nat.le_of_ble_eq_true rfl, Nat.le_of_ble_eq_true rfl⟩ rfl rfl (Nat.le_of_ble_eq_true rfl) dX6_readsStatement_116 ?_
    refine j_istore_n C0 (lv' := [(2, _), (1, _), (0, _)]) dX6_readsStatement_119 rfl (by decide) rfl ?_
    refine j_goto C0 189 dX6_readsStatement_120 (by decide) ?_
    refine j_iload_n C0 0 dX6_readsStatement_189 rfl rfl ?_
    refine j_if_eq C0 202 dX6_readsStatement_190 (by decide) (fun c_190 => ?_) (fun c_190 => ?_)
    · refine j_iconst C0 (v := 0) dX6_readsStatement_202 (by decide) ?_
      exact j_zretM C0 hrt hlk (Or.inl rfl) dX6_readsStatement_203
    · refine j_aload_n C0 2 dX6_readsStatement_193 rfl rfl ?_
      refine j_callVi C0 (c_X6_here l z _ (WP_up (WP_rn (WP_inc hw)) (by decide))) yk_X6_here w_879 (fun H locs hP _ => recvW C0 hP 0 (by decide) celM_0 rfl) ⟨Nat.le_of_ble_eq_true rfl, Nat.le_of_ble_eq_true rfl⟩ rfl rfl (Nat.le_of_ble_eq_true rfl) dX6_readsStatement_194 ?_
      refine j_bipush C0 (v := 59) dX6_readsStatement_197 (by decide) ?_
      refine j_icmp_eq C0 204 dX6_readsStatement_199 (by decide) (fun c_199 => ?_) (fun c_199 => ?_)
      · refine j_aload_n C0 2 dX6_readsStatement_204 rfl rfl ?_
        refine j_dup C0 dX6_readsStatement_205 rfl ?_
        refine g_Model_place C0 w_805 dX6_readsStatement_206 ?_
        refine j_iconst C0 (v := 1) dX6_readsStatement_209 (by decide) ?_
        refine j_iadd C0 dX6_readsStatement_210 ?_
        refine p_Model_place C0 w_805 dX6_readsStatement_211 ?_
        refine j_iconst C0 (v := 1) dX6_readsStatement_214 (by decide) ?_
        exact j_zretM C0 hrt hlk (Or.inr rfl) dX6_readsStatement_215
      · refine j_iconst C0 (v := 0) dX6_readsStatement_202 (by decide) ?_
        exact j_zretM C0 hrt hlk (Or.inl rfl) dX6_readsStatement_203
  · skip
    refine j_case (cnd := (f_X6_here g) = 104) (fun c_16_104 => ?_) (fun c_16_104 => ?_)
    · have c_16_104x : ((f_X6_here g)).toInt = 104 := by rw [c_16_104]; rfl
      refine j_lookup C0 150 dX6_readsStatement_16 (by decide) (by rw [c_16_104x]) (by decide) ?_
      refine j_aload_n C0 1 dX6_readsStatement_150 rfl rfl ?_
      refine j_iconst C0 (v := 0) dX6_readsStatement_151 (by decide) ?_
      refine j_iconst C0 (v := 1) dX6_readsStatement_152 (by decide) ?_
      refine j_callVi C0 (c_X6_readsNumber l z _ _ _ vl4_0 (by decide) (WP_inc hw)) yk_X6_readsNumber w_883 (fun H locs hP _ => recvW C0 hP 0 (by decide) celM_0 rfl) ⟨Nat.le_of_ble_eq_true rfl, Nat.le_of_ble_eq_true rfl⟩ rfl rfl (Nat.le_of_ble_eq_true rfl) dX6_readsStatement_153 ?_
      refine j_if_eq C0 172 dX6_readsStatement_156 (by decide) (fun c_156 => ?_) (fun c_156 => ?_)
      · refine j_iconst C0 (v := 0) dX6_readsStatement_172 (by decide) ?_
        refine j_istore_n C0 (lv' := [(2, _), (1, _), (0, _)]) dX6_readsStatement_173 rfl (by decide) rfl ?_
        refine j_goto C0 189 dX6_readsStatement_174 (by decide) ?_
        refine j_iload_n C0 0 dX6_readsStatement_189 rfl rfl ?_
        refine j_if_eqT C0 202 dX6_readsStatement_190 (by decide) (by decide) ?_
        refine j_iconst C0 (v := 0) dX6_readsStatement_202 (by decide) ?_
        exact j_zretM C0 hrt hlk (Or.inl rfl) dX6_readsStatement_203
      · refine j_aload_n C0 1 dX6_readsStatement_159 rfl rfl ?_
        refine j_iconst C0 (v := 1) dX6_readsStatement_160 (by decide) ?_
        refine j_iconst C0 (v := 2) dX6_readsStatement_161 (by decide) ?_
        refine j_callVi C0 (c_X6_readsNumber l z _ _ _ vl4_1 (by decide) (WP_rn (WP_inc hw))) yk_X6_readsNumber w_883 (fun H locs hP _ => recvW C0 hP 0 (by decide) celM_0 rfl) ⟨Nat.le_of_ble_eq_true rfl, Nat.le_of_ble_eq_true rfl⟩ rfl rfl (Nat.le_of_ble_eq_true rfl) dX6_readsStatement_162 ?_
        refine j_if_eq C0 172 dX6_readsStatement_165 (by decide) (fun c_165 => ?_) (fun c_165 => ?_)
        · refine j_iconst C0 (v := 0) dX6_readsStatement_172 (by decide) ?_
          refine j_istore_n C0 (lv' := [(2, _), (1, _), (0, _)]) dX6_readsStatement_173 rfl (by decide) rfl ?_
          refine j_goto C0 189 dX6_readsStatement_174 (by decide) ?_
          refine j_iload_n C0 0 dX6_readsStatement_189 rfl rfl ?_
          refine j_if_eqT C0 202 dX6_readsStatement_190 (by decide) (by decide) ?_
          refine j_iconst C0 (v := 0) dX6_readsStatement_202 (by decide) ?_
          exact j_zretM C0 hrt hlk (Or.inl rfl) dX6_readsStatement_203
        · refine j_iconst C0 (v := 1) dX6_readsStatement_168 (by decide) ?_
          refine j_goto C0 173 dX6_readsStatement_169 (by decide) ?_
          refine j_istore_n C0 (lv' := [(2, _), (1, _), (0, _)]) dX6_readsStatement_173 rfl (by decide) rfl ?_
          refine j_goto C0 189 dX6_readsStatement_174 (by decide) ?_
          refine j_iload_n C0 0 dX6_readsStatement_189 rfl rfl ?_
          refine j_if_eqF C0 202 dX6_readsStatement_190 (by decide) (by decide) ?_
          refine j_aload_n C0 2 dX6_readsStatement_193 rfl rfl ?_
          refine j_callVi C0 (c_X6_here l z _ (WP_up (WP_rn (WP_rn (WP_inc hw))) (by decide))) yk_X6_here w_879 (fun H locs hP _ => recvW C0 hP 0 (by decide) celM_0 rfl) ⟨Nat.le_of_ble_eq_true rfl, Nat.le_of_ble_eq_true rfl⟩ rfl rfl (Nat.le_of_ble_eq_true rfl) dX6_readsStatement_194 ?_
          refine j_bipush C0 (v := 59) dX6_readsStatement_197 (by decide) ?_
          refine j_icmp_eq C0 204 dX6_readsStatement_199 (by decide) (fun c_199 => ?_) (fun c_199 => ?_)
          · refine j_aload_n C0 2 dX6_readsStatement_204 rfl rfl ?_
            refine j_dup C0 dX6_readsStatement_205 rfl ?_
            refine g_Model_place C0 w_805 dX6_readsStatement_206 ?_
            refine j_iconst C0 (v := 1) dX6_readsStatement_209 (by decide) ?_
            refine j_iadd C0 dX6_readsStatement_210 ?_
            refine p_Model_place C0 w_805 dX6_readsStatement_211 ?_
            refine j_iconst C0 (v := 1) dX6_readsStatement_214 (by decide) ?_
            exact j_zretM C0 hrt hlk (Or.inr rfl) dX6_readsStatement_215
          · refine j_iconst C0 (v := 0) dX6_readsStatement_202 (by decide) ?_
            exact j_zretM C0 hrt hlk (Or.inl rfl) dX6_readsStatement_203
    · skip
      refine j_case (cnd := (f_X6_here g) = 108) (fun c_16_108 => ?_) (fun c_16_108 => ?_)
      · have c_16_108x : ((f_X6_here g)).toInt = 108 := by rw [c_16_108]; rfl
        refine j_lookup C0 150 dX6_readsStatement_16 (by decide) (by rw [c_16_108x]) (by decide) ?_
        refine j_aload_n C0 1 dX6_readsStatement_150 rfl rfl ?_
        refine j_iconst C0 (v := 0) dX6_readsStatement_151 (by decide) ?_
        refine j_iconst C0 (v := 1) dX6_readsStatement_152 (by decide) ?_
        refine j_callVi C0 (c_X6_readsNumber l z _ _ _ vl4_0 (by decide) (WP_inc hw)) yk_X6_readsNumber w_883 (fun H locs hP _ => recvW C0 hP 0 (by decide) celM_0 rfl) ⟨Nat.le_of_ble_eq_true rfl, Nat.le_of_ble_eq_true rfl⟩ rfl rfl (Nat.le_of_ble_eq_true rfl) dX6_readsStatement_153 ?_
        refine j_if_eq C0 172 dX6_readsStatement_156 (by decide) (fun c_156 => ?_) (fun c_156 => ?_)
        · refine j_iconst C0 (v := 0) dX6_readsStatement_172 (by decide) ?_
          refine j_istore_n C0 (lv' := [(2, _), (1, _), (0, _)]) dX6_readsStatement_173 rfl (by decide) rfl ?_
          refine j_goto C0 189 dX6_readsStatement_174 (by decide) ?_
          refine j_iload_n C0 0 dX6_readsStatement_189 rfl rfl ?_
          refine j_if_eqT C0 202 dX6_readsStatement_190 (by decide) (by decide) ?_
          refine j_iconst C0 (v := 0) dX6_readsStatement_202 (by decide) ?_
          exact j_zretM C0 hrt hlk (Or.inl rfl) dX6_readsStatement_203
        · refine j_aload_n C0 1 dX6_readsStatement_159 rfl rfl ?_
          refine j_iconst C0 (v := 1) dX6_readsStatement_160 (by decide) ?_
          refine j_iconst C0 (v := 2) dX6_readsStatement_161 (by decide) ?_
          refine j_callVi C0 (c_X6_readsNumber l z _ _ _ vl4_1 (by decide) (WP_rn (WP_inc hw))) yk_X6_readsNumber w_883 (fun H locs hP _ => recvW C0 hP 0 (by decide) celM_0 rfl) ⟨Nat.le_of_ble_eq_true rfl, Nat.le_of_ble_eq_true rfl⟩ rfl rfl (Nat.le_of_ble_eq_true rfl) dX6_readsStatement_162 ?_
          refine j_if_eq C0 172 dX6_readsStatement_165 (by decide) (fun c_165 => ?_) (fun c_165 => ?_)
          · refine j_iconst C0 (v := 0) dX6_readsStatement_172 (by decide) ?_
            refine j_istore_n C0 (lv' := [(2, _), (1, _), (0, _)]) dX6_readsStatement_173 rfl (by decide) rfl ?_
            refine j_goto C0 189 dX6_readsStatement_174 (by decide) ?_
            refine j_iload_n C0 0 dX6_readsStatement_189 rfl rfl ?_
            refine j_if_eqT C0 202 dX6_readsStatement_190 (by decide) (by decide) ?_
            refine j_iconst C0 (v := 0) dX6_readsStatement_202 (by decide) ?_
            exact j_zretM C0 hrt hlk (Or.inl rfl) dX6_readsStatement_203
          · refine j_iconst C0 (v := 1) dX6_readsStatement_168 (by decide) ?_
            refine j_goto C0 173 dX6_readsStatement_169 (by decide) ?_
            refine j_istore_n C0 (lv' := [(2, _), (1, _), (0, _)]) dX6_readsStatement_173 rfl (by decide) rfl ?_
            refine j_goto C0 189 dX6_readsStatement_174 (by decide) ?_
            refine j_iload_n C0 0 dX6_readsStatement_189 rfl rfl ?_
            refine j_if_eqF C0 202 dX6_readsStatement_190 (by decide) (by decide) ?_
            refine j_aload_n C0 2 dX6_readsStatement_193 rfl rfl ?_
            refine j_callVi C0 (c_X6_here l z _ (WP_up (WP_rn (WP_rn (WP_inc hw))) (by decide))) yk_X6_here w_879 (fun H locs hP _ => recvW C0 hP 0 (by decide) celM_0 rfl) ⟨Nat.le_of_ble_eq_true rfl, Nat.le_of_ble_eq_true rfl⟩ rfl rfl (Nat.le_of_ble_eq_true rfl) dX6_readsStatement_194 ?_
            refine j_bipush C0 (v := 59) dX6_readsStatement_197 (by decide) ?_
            refine j_icmp_eq C0 204 dX6_readsStatement_199 (by decide) (fun c_199 => ?_) (fun c_199 => ?_)
            · refine j_aload_n C0 2 dX6_readsStatement_204 rfl rfl ?_
              refine j_dup C0 dX6_readsStatement_205 rfl ?_
              refine g_Model_place C0 w_805 dX6_readsStatement_206 ?_
              refine j_iconst C0 (v := 1) dX6_readsStatement_209 (by decide) ?_
              refine j_iadd C0 dX6_readsStatement_210 ?_
              refine p_Model_place C0 w_805 dX6_readsStatement_211 ?_
              refine j_iconst C0 (v := 1) dX6_readsStatement_214 (by decide) ?_
              exact j_zretM C0 hrt hlk (Or.inr rfl) dX6_readsStatement_215
            · refine j_iconst C0 (v := 0) dX6_readsStatement_202 (by decide) ?_
              exact j_zretM C0 hrt hlk (Or.inl rfl) dX6_readsStatement_203
      · skip
        refine j_case (cnd := (f_X6_here g) = 112) (fun c_16_112 => ?_) (fun c_16_112 => ?_)
        · have c_16_112x : ((f_X6_here g)).toInt = 112 := by rw [c_16_112]; rfl
          refine j_lookup C0 68 dX6_readsStatement_16 (by decide) (by rw [c_16_112x]) (by decide) ?_
          refine j_aload_n C0 1 dX6_readsStatement_68 rfl rfl ?_
          refine j_iconst C0 (v := 0) dX6_readsStatement_69 (by decide) ?_
          refine j_iconst C0 (v := 1) dX6_readsStatement_70 (by decide) ?_
          refine j_callVi C0 (c_X6_readsNumber l z _ _ _ vl4_0 (by decide) (WP_inc hw)) yk_X6_readsNumber w_883 (fun H locs hP _ => recvW C0 hP 0 (by decide) celM_0 rfl) ⟨Nat.le_of_ble_eq_true rfl, Nat.le_of_ble_eq_true rfl⟩ rfl rfl (Nat.le_of_ble_eq_true rfl) dX6_readsStatement_71 ?_
          refine j_if_eq C0 108 dX6_readsStatement_74 (by decide) (fun c_74 => ?_) (fun c_74 => ?_)
          · refine j_iconst C0 (v := 0) dX6_readsStatement_108 (by decide) ?_
            refine j_istore_n C0 (lv' := [(2, _), (1, _), (0, _)]) dX6_readsStatement_109 rfl (by decide) rfl ?_
            refine j_goto C0 189 dX6_readsStatement_110 (by decide) ?_
            refine j_iload_n C0 0 dX6_readsStatement_189 rfl rfl ?_
            refine j_if_eqT C0 202 dX6_readsStatement_190 (by decide) (by decide) ?_
            refine j_iconst C0 (v := 0) dX6_readsStatement_202 (by decide) ?_
            exact j_zretM C0 hrt hlk (Or.inl rfl) dX6_readsStatement_203
          · refine j_aload_n C0 1 dX6_readsStatement_77 rfl rfl ?_
            refine j_iconst C0 (v := 1) dX6_readsStatement_78 (by decide) ?_
            refine j_iconst C0 (v := 1) dX6_readsStatement_79 (by decide) ?_
            refine j_callVi C0 (c_X6_readsNumber l z _ _ _ vl4_1 (by decide) (WP_rn (WP_inc hw))) yk_X6_readsNumber w_883 (fun H locs hP _ => recvW C0 hP 0 (by decide) celM_0 rfl) ⟨Nat.le_of_ble_eq_true rfl, Nat.le_of_ble_eq_true rfl⟩ rfl rfl (Nat.le_of_ble_eq_true rfl) dX6_readsStatement_80 ?_
            refine j_if_eq C0 108 dX6_readsStatement_83 (by decide) (fun c_83 => ?_) (fun c_83 => ?_)
            · refine j_iconst C0 (v := 0) dX6_readsStatement_108 (by decide) ?_
              refine j_istore_n C0 (lv' := [(2, _), (1, _), (0, _)]) dX6_readsStatement_109 rfl (by decide) rfl ?_
              refine j_goto C0 189 dX6_readsStatement_110 (by decide) ?_
              refine j_iload_n C0 0 dX6_readsStatement_189 rfl rfl ?_
              refine j_if_eqT C0 202 dX6_readsStatement_190 (by decide) (by decide) ?_
              refine j_iconst C0 (v := 0) dX6_readsStatement_202 (by decide) ?_
              exact j_zretM C0 hrt hlk (Or.inl rfl) dX6_readsStatement_203
            · refine j_aload_n C0 1 dX6_readsStatement_86 rfl rfl ?_
              refine j_iconst C0 (v := 2) dX6_readsStatement_87 (by decide) ?_
              refine j_iconst C0 (v := 2) dX6_readsStatement_88 (by decide) ?_
              refine j_callVi C0 (c_X6_readsNumber l z _ _ _ vl4_2 (by decide) (WP_rn (WP_rn (WP_inc hw)))) yk_X6_readsNumber w_883 (fun H locs hP _ => recvW C0 hP 0 (by decide) celM_0 rfl) ⟨Nat.le_of_ble_eq_true rfl, Nat.le_of_ble_eq_true rfl⟩ rfl rfl (Nat.le_of_ble_eq_true rfl) dX6_readsStatement_89 ?_
              refine j_if_eq C0 108 dX6_readsStatement_92 (by decide) (fun c_92 => ?_) (fun c_92 => ?_)
              · refine j_iconst C0 (v := 0) dX6_readsStatement_108 (by decide) ?_
                refine j_istore_n C0 (lv' := [(2, _), (1, _), (0, _)]) dX6_readsStatement_109 rfl (by decide) rfl ?_
                refine j_goto C0 189 dX6_readsStatement_110 (by decide) ?_
                refine j_iload_n C0 0 dX6_readsStatement_189 rfl rfl ?_
                refine j_if_eqT C0 202 dX6_readsStatement_190 (by decide) (by decide) ?_
                refine j_iconst C0 (v := 0) dX6_readsStatement_202 (by decide) ?_
                exact j_zretM C0 hrt hlk (Or.inl rfl) dX6_readsStatement_203
              · refine j_aload_n C0 1 dX6_readsStatement_95 rfl rfl ?_
                refine j_iconst C0 (v := 3) dX6_readsStatement_96 (by decide) ?_
                refine j_iconst C0 (v := 2) dX6_readsStatement_97 (by decide) ?_
                refine j_callVi C0 (c_X6_readsNumber l z _ _ _ vl4_3 (by decide) (WP_rn (WP_rn (WP_rn (WP_inc hw))))) yk_X6_readsNumber w_883 (fun H locs hP _ => recvW C0 hP 0 (by decide) celM_0 rfl) ⟨Nat.le_of_ble_eq_true rfl, Nat.le_of_ble_eq_true rfl⟩ rfl rfl (Nat.le_of_ble_eq_true rfl) dX6_readsStatement_98 ?_
                refine j_if_eq C0 108 dX6_readsStatement_101 (by decide) (fun c_101 => ?_) (fun c_101 => ?_)
                · refine j_iconst C0 (v := 0) dX6_readsStatement_108 (by decide) ?_
                  refine j_istore_n C0 (lv' := [(2, _), (1, _), (0, _)]) dX6_readsStatement_109 rfl (by decide) rfl ?_
                  refine j_goto C0 189 dX6_readsStatement_110 (by decide) ?_
                  refine j_iload_n C0 0 dX6_readsStatement_189 rfl rfl ?_
                  refine j_if_eqT C0 202 dX6_readsStatement_190 (by decide) (by decide) ?_
                  refine j_iconst C0 (v := 0) dX6_readsStatement_202 (by decide) ?_
                  exact j_zretM C0 hrt hlk (Or.inl rfl) dX6_readsStatement_203
                · refine j_iconst C0 (v := 1) dX6_readsStatement_104 (by decide) ?_
                  refine j_goto C0 109 dX6_readsStatement_105 (by decide) ?_
                  refine j_istore_n C0 (lv' := [(2, _), (1, _), (0, _)]) dX6_readsStatement_109 rfl (by decide) rfl ?_
                  refine j_goto C0 189 dX6_readsStatement_110 (by decide) ?_
                  refine j_iload_n C0 0 dX6_readsStatement_189 rfl rfl ?_
                  refine j_if_eqF C0 202 dX6_readsStatement_190 (by decide) (by decide) ?_
                  refine j_aload_n C0 2 dX6_readsStatement_193 rfl rfl ?_
                  refine j_callVi C0 (c_X6_here l z _ (WP_up (WP_rn (WP_rn (WP_rn (WP_rn (WP_inc hw))))) (by decide))) yk_X6_here w_879 (fun H locs hP _ => recvW C0 hP 0 (by decide) celM_0 rfl) ⟨Nat.le_of_ble_eq_true rfl, Nat.le_of_ble_eq_true rfl⟩ rfl rfl (Nat.le_of_ble_eq_true rfl) dX6_readsStatement_194 ?_
                  refine j_bipush C0 (v := 59) dX6_readsStatement_197 (by decide) ?_
                  refine j_icmp_eq C0 204 dX6_readsStatement_199 (by decide) (fun c_199 => ?_) (fun c_199 => ?_)
                  · refine j_aload_n C0 2 dX6_readsStatement_204 rfl rfl ?_
                    refine j_dup C0 dX6_readsStatement_205 rfl ?_
                    refine g_Model_place C0 w_805 dX6_readsStatement_206 ?_
                    refine j_iconst C0 (v := 1) dX6_readsStatement_209 (by decide) ?_
                    refine j_iadd C0 dX6_readsStatement_210 ?_
                    refine p_Model_place C0 w_805 dX6_readsStatement_211 ?_
                    refine j_iconst C0 (v := 1) dX6_readsStatement_214 (by decide) ?_
                    exact j_zretM C0 hrt hlk (Or.inr rfl) dX6_readsStatement_215
                  · refine j_iconst C0 (v := 0) dX6_readsStatement_202 (by decide) ?_
                    exact j_zretM C0 hrt hlk (Or.inl rfl) dX6_readsStatement_203
        · skip
          refine j_case (cnd := (f_X6_here g) = 116) (fun c_16_116 => ?_) (fun c_16_116 => ?_)
          · have c_16_116x : ((f_X6_here g)).toInt = 116 := by rw [c_16_116]; rfl
            refine j_lookup C0 123 dX6_readsStatement_16 (by decide) (by rw [c_16_116x]) (by decide) ?_
            refine j_aload_n C0 1 dX6_readsStatement_123 rfl rfl ?_
            refine j_iconst C0 (v := 0) dX6_readsStatement_124 (by decide) ?_
            refine j_iconst C0 (v := 1) dX6_readsStatement_125 (by decide) ?_
            refine j_callVi C0 (c_X6_readsNumber l z _ _ _ vl4_0 (by decide) (WP_inc hw)) yk_X6_readsNumber w_883 (fun H locs hP _ => recvW C0 hP 0 (by decide) celM_0 rfl) ⟨Nat.le_of_ble_eq_true rfl, Nat.le_of_ble_eq_true rfl⟩ rfl rfl (Nat.le_of_ble_eq_true rfl) dX6_readsStatement_126 ?_
            refine j_if_eq C0 145 dX6_readsStatement_129 (by decide) (fun c_129 => ?_) (fun c_129 => ?_)
            · refine j_iconst C0 (v := 0) dX6_readsStatement_145 (by decide) ?_
              refine j_istore_n C0 (lv' := [(2, _), (1, _), (0, _)]) dX6_readsStatement_146 rfl (by decide) rfl ?_
              refine j_goto C0 189 dX6_readsStatement_147 (by decide) ?_
              refine j_iload_n C0 0 dX6_readsStatement_189 rfl rfl ?_
              refine j_if_eqT C0 202 dX6_readsStatement_190 (by decide) (by decide) ?_
              refine j_iconst C0 (v := 0) dX6_readsStatement_202 (by decide) ?_
              exact j_zretM C0 hrt hlk (Or.inl rfl) dX6_readsStatement_203
            · refine j_aload_n C0 1 dX6_readsStatement_132 rfl rfl ?_
              refine j_iconst C0 (v := 1) dX6_readsStatement_133 (by decide) ?_
              refine j_iconst C0 (v := 1) dX6_readsStatement_134 (by decide) ?_
              refine j_callVi C0 (c_X6_readsNumber l z _ _ _ vl4_1 (by decide) (WP_rn (WP_inc hw))) yk_X6_readsNumber w_883 (fun H locs hP _ => recvW C0 hP 0 (by decide) celM_0 rfl) ⟨Nat.le_of_ble_eq_true rfl, Nat.le_of_ble_eq_true rfl⟩ rfl rfl (Nat.le_of_ble_eq_true rfl) dX6_readsStatement_135 ?_
              refine j_if_eq C0 145 dX6_readsStatement_138 (by decide) (fun c_138 => ?_) (fun c_138 => ?_)
              · refine j_iconst C0 (v := 0) dX6_readsStatement_145 (by decide) ?_
                refine j_istore_n C0 (lv' := [(2, _), (1, _), (0, _)]) dX6_readsStatement_146 rfl (by decide) rfl ?_
                refine j_goto C0 189 dX6_readsStatement_147 (by decide) ?_
                refine j_iload_n C0 0 dX6_readsStatement_189 rfl rfl ?_
                refine j_if_eqT C0 202 dX6_readsStatement_190 (by decide) (by decide) ?_
                refine j_iconst C0 (v := 0) dX6_readsStatement_202 (by decide) ?_
                exact j_zretM C0 hrt hlk (Or.inl rfl) dX6_readsStatement_203
              · refine j_iconst C0 (v := 1) dX6_readsStatement_141 (by decide) ?_
                refine j_goto C0 146 dX6_readsStatement_142 (by decide) ?_
                refine j_istore_n C0 (lv' := [(2, _), (1, _), (0, _)]) dX6_readsStatement_146 rfl (by decide) rfl ?_
                refine j_goto C0 189 dX6_readsStatement_147 (by decide) ?_
                refine j_iload_n C0 0 dX6_readsStatement_189 rfl rfl ?_
                refine j_if_eqF C0 202 dX6_readsStatement_190 (by decide) (by decide) ?_
                refine j_aload_n C0 2 dX6_readsStatement_193 rfl rfl ?_
                refine j_callVi C0 (c_X6_here l z _ (WP_up (WP_rn (WP_rn (WP_inc hw))) (by decide))) yk_X6_here w_879 (fun H locs hP _ => recvW C0 hP 0 (by decide) celM_0 rfl) ⟨Nat.le_of_ble_eq_true rfl, Nat.le_of_ble_eq_true rfl⟩ rfl rfl (Nat.le_of_ble_eq_true rfl) dX6_readsStatement_194 ?_
                refine j_bipush C0 (v := 59) dX6_readsStatement_197 (by decide) ?_
                refine j_icmp_eq C0 204 dX6_readsStatement_199 (by decide) (fun c_199 => ?_) (fun c_199 => ?_)
                · refine j_aload_n C0 2 dX6_readsStatement_204 rfl rfl ?_
                  refine j_dup C0 dX6_readsStatement_205 rfl ?_
                  refine g_Model_place C0 w_805 dX6_readsStatement_206 ?_
                  refine j_iconst C0 (v := 1) dX6_readsStatement_209 (by decide) ?_
                  refine j_iadd C0 dX6_readsStatement_210 ?_
                  refine p_Model_place C0 w_805 dX6_readsStatement_211 ?_
                  refine j_iconst C0 (v := 1) dX6_readsStatement_214 (by decide) ?_
                  exact j_zretM C0 hrt hlk (Or.inr rfl) dX6_readsStatement_215
                · refine j_iconst C0 (v := 0) dX6_readsStatement_202 (by decide) ?_
                  exact j_zretM C0 hrt hlk (Or.inl rfl) dX6_readsStatement_203
          · skip
            refine j_lookup C0 (off := 161) 177 dX6_readsStatement_16 (by decide) (by have c_16_99x : 99 ≠ ((f_X6_here g)).toInt := Ne.symm (ne_toInt c_16_99); have c_16_104x : 104 ≠ ((f_X6_here g)).toInt := Ne.symm (ne_toInt c_16_104); have c_16_108x : 108 ≠ ((f_X6_here g)).toInt := Ne.symm (ne_toInt c_16_108); have c_16_112x : 112 ≠ ((f_X6_here g)).toInt := Ne.symm (ne_toInt c_16_112); have c_16_116x : 116 ≠ ((f_X6_here g)).toInt := Ne.symm (ne_toInt c_16_116); simp [Op.lookupswitch.offset, *]) (by decide) ?_
            refine j_aload_n C0 1 dX6_readsStatement_177 rfl rfl ?_
            refine j_dup C0 dX6_readsStatement_178 rfl ?_
            refine g_Model_place C0 w_805 dX6_readsStatement_179 ?_
            refine j_iconst C0 (v := 1) dX6_readsStatement_182 (by decide) ?_
            refine j_isub C0 dX6_readsStatement_183 ?_
            refine p_Model_place C0 w_805 dX6_readsStatement_184 ?_
            refine j_iconst C0 (v := 0) dX6_readsStatement_187 (by decide) ?_
            exact j_zretM C0 hrt hlk (Or.inl rfl) dX6_readsStatement_188
def f_X6_isDone_m1 (g : Mem) (p0 : Int32) : Mem := up g 1 1 (g 5 0)
def f_X6_isDone_m2 (g : Mem) (p0 : Int32) : Mem := up g 1 (ix (f_X6_of (g 5 0) (2 : Int32))) (g 5 1)
def f_X6_isDone_m3 (g : Mem) (p0 : Int32) : Mem := up g 1 (ix (f_X6_of (g 5 0) (3 : Int32))) (g 5 1)
def f_X6_isDone (g : Mem) (p0 : Int32) : Int32 × Mem := if p0 = 99 then (((1 : Int32), (f_X6_isDone_m1 g p0))) else (if p0 = 112 then (if (8 : Int32) ≤ (g 5 0) then (((0 : Int32), g)) else (if (30 : Int32) < (g 5 2) then (((0 : Int32), g)) else (if (30 : Int32) < (g 5 3) then (((0 : Int32), g)) else (if (g 1 0) = (8 : Int32) then (((0 : Int32), g)) else (((1 : Int32), (f_X6_adds g 1 (g 5 0) (g 5 1) (g 5 2) (g 5 3)))))))) else (if p0 = 116 then (if (f_X6_isPerson g (g 5 0)) = 0 then (((0 : Int32), g)) else (if (f_X6_isPerson g (g 5 1)) = 0 then (((0 : Int32), g)) else (if (f_X6_canEat g 1 (g 5 0) (g 5 1)) = 0 then (((0 : Int32), g)) else (if (g 1 2) = (999 : Int32) then (((0 : Int32), g)) else (((1 : Int32), (m_X6_turn g 1 (g 5 0) (g 5 1)))))))) else (if (f_X6_isPerson g (g 5 0)) = 0 then (((0 : Int32), g)) else (if (g 5 1) ≤ (30 : Int32) then (if p0 = (104 : Int32) then (((1 : Int32), (f_X6_isDone_m2 g p0))) else (((1 : Int32), (f_X6_isDone_m3 g p0)))) else (((0 : Int32), g))))))
def r_X6_isDone (g : Mem) (p0 : Int32) : Int32 := (f_X6_isDone g p0).1
def m_X6_isDone (g : Mem) (p0 : Int32) : Mem := (f_X6_isDone g p0).2
theorem e_X6_isDone (g : Mem) (p0 : Int32) : (r_X6_isDone g p0, m_X6_isDone g p0) = f_X6_isDone g p0 := by unfold r_X6_isDone m_X6_isDone; exact pmk_eta _
theorem yk_X6_isDone : yokV yX6_isDone RX6 cX6_isDone 5 (some .boolean) 1 := ⟨w_893, w_892, wp_30, w_8, by decide +kernel⟩
set_option maxHeartbeats 4000000 in
set_option maxRecDepth 100000 in
theorem c_X6_isDone (l : Launch) (z : ZM) (g : Mem) (p0 : Int32) (hI : InM g) : ctM l yX6_isDone cX6_isDone 5 (some .boolean) 5 109 z g [.ref (yad z 0), .int p0] (qIM z (r_X6_isDone g p0, m_X6_isDone g p0)) := by
  rw [e_X6_isDone]
  refine ct_of (own := RX6) (q := fun r => qIM z r) (res := f_X6_isDone g p0) (lv := [(0, .ref (yad z 0)), (1, .int p0)]) enokM rfl (by decide) (Nat.le_of_ble_eq_true rfl) rfl (fun p e s m args below meth c C0 hrt hlk => ?_)
  unfold f_X6_isDone
  refine j_aload_n C0 0 dX6_isDone_0 rfl rfl ?_
  refine g_Model_numbers C0 w_808 dX6_isDone_1 ?_
  refine j_iconst C0 (v := 0) dX6_isDone_4 (by decide) ?_
  refine a_Ml C0 (by decide) ixl_0 vl4_0 dX6_isDone_5 ?_
  refine j_istore_n C0 (lv' := [(2, _), (0, _), (1, _)]) dX6_isDone_6 rfl (by decide) rfl ?_
  refine j_aload_n C0 1 dX6_isDone_7 rfl rfl ?_
  refine g_Model_numbers C0 w_808 dX6_isDone_8 ?_
  refine j_iconst C0 (v := 1) dX6_isDone_11 (by decide) ?_
  refine a_Ml C0 (by decide) ixl_1 vl4_1 dX6_isDone_12 ?_
  refine j_istore_n C0 (lv' := [(3, _), (2, _), (0, _), (1, _)]) dX6_isDone_13 rfl (by decide) rfl ?_
  refine j_iload_n C0 3 dX6_isDone_14 rfl rfl ?_
  refine j_case (cnd := p0 = 99) (fun c_15_99 => ?_) (fun c_15_99 => ?_)
  · have c_15_99x : (p0).toInt = 99 := by rw [c_15_99]; rfl
    refine j_lookup C0 112 dX6_isDone_15 (by decide) (by rw [c_15_99x]) (by decide) ?_
    refine j_aload_n C0 2 dX6_isDone_112 rfl rfl ?_
    refine g_Model_s C0 w_800 dX6_isDone_113 ?_
    refine j_iconst C0 (v := 1) dX6_isDone_116 (by decide) ?_
    refine j_iload_n C0 1 dX6_isDone_117 rfl rfl ?_
    refine s_Ml C0 (by decide) ixl_1 vl57_1 dX6_isDone_118 ?_
    refine j_iconst C0 (v := 1) dX6_isDone_119 (by decide) ?_
    exact j_zretM C0 hrt hlk (Or.inr rfl) dX6_isDone_120
  · skip
    refine j_case (cnd := p0 = 112) (fun c_15_112 => ?_) (fun c_15_112 => ?_)
    · have c_15_112x : (p0).toInt = 112 := by rw [c_15_112]; rfl
      refine j_lookup C0 48 dX6_isDone_15 (by decide) (by rw [c_15_112x]) (by decide) ?_
      refine j_iload_n C0 1 dX6_isDone_48 rfl rfl ?_
      refine j_bipush C0 (v := 8) dX6_isDone_49 (by decide) ?_
      refine j_icmp_ge C0 87 dX6_isDone_51 (by decide) (fun c_51 => ?_) (fun c_51 => ?_)
      · refine j_iconst C0 (v := 0) dX6_isDone_87 (by decide) ?_
        exact j_zretM C0 hrt hlk (Or.inl rfl) dX6_isDone_88
      · refine j_aload_n C0 2 dX6_isDone_54 rfl rfl ?_
        refine g_Model_numbers C0 w_808 dX6_isDone_55 ?_
        refine j_iconst C0 (v := 2) dX6_isDone_58 (by decide) ?_
        refine a_Ml C0 (by decide) ixl_2 vl4_2 dX6_isDone_59 ?_
        refine j_bipush C0 (v := 30) dX6_isDone_60 (by decide) ?_
        refine j_icmp_gt C0 87 dX6_isDone_62 (by decide) (fun c_62 => ?_) (fun c_62 => ?_)
        · refine j_iconst C0 (v := 0) dX6_isDone_87 (by decide) ?_
          exact j_zretM C0 hrt hlk (Or.inl rfl) dX6_isDone_88
        · refine j_aload_n C0 2 dX6_isDone_65 rfl rfl ?_
          refine g_Model_numbers C0 w_808 dX6_isDone_66 ?_
          refine j_iconst C0 (v := 3) dX6_isDone_69 (by decide) ?_
          refine a_Ml C0 (by decide) ixl_3 vl4_3 dX6_isDone_70 ?_
          refine j_bipush C0 (v := 30) dX6_isDone_71 (by decide) ?_
          refine j_icmp_gt C0 87 dX6_isDone_73 (by decide) (fun c_73 => ?_) (fun c_73 => ?_)
          · refine j_iconst C0 (v := 0) dX6_isDone_87 (by decide) ?_
            exact j_zretM C0 hrt hlk (Or.inl rfl) dX6_isDone_88
          · refine j_aload_n C0 2 dX6_isDone_76 rfl rfl ?_
            refine g_Model_s C0 w_800 dX6_isDone_77 ?_
            refine j_iconst C0 (v := 0) dX6_isDone_80 (by decide) ?_
            refine a_Ml C0 (by decide) ixl_0 vl57_0 dX6_isDone_81 ?_
            refine j_bipush C0 (v := 8) dX6_isDone_82 (by decide) ?_
            refine j_icmp_ne C0 89 dX6_isDone_84 (by decide) (fun c_84 => ?_) (fun c_84 => ?_)
            · refine j_iconst C0 (v := 0) dX6_isDone_87 (by decide) ?_
              exact j_zretM C0 hrt hlk (Or.inl rfl) dX6_isDone_88
            · refine j_aload_n C0 2 dX6_isDone_89 rfl rfl ?_
              refine g_Model_s C0 w_800 dX6_isDone_90 ?_
              refine j_iload_n C0 1 dX6_isDone_93 rfl rfl ?_
              refine j_iload_n C0 0 dX6_isDone_94 rfl rfl ?_
              refine j_aload_n C0 2 dX6_isDone_95 rfl rfl ?_
              refine g_Model_numbers C0 w_808 dX6_isDone_96 ?_
              refine j_iconst C0 (v := 2) dX6_isDone_99 (by decide) ?_
              refine a_Ml C0 (by decide) ixl_2 vl4_2 dX6_isDone_100 ?_
              refine j_aload_n C0 2 dX6_isDone_101 rfl rfl ?_
              refine g_Model_numbers C0 w_808 dX6_isDone_102 ?_
              refine j_iconst C0 (v := 3) dX6_isDone_105 (by decide) ?_
              refine a_Ml C0 (by decide) ixl_3 vl4_3 dX6_isDone_106 ?_
              refine j_callSv C0 (c_X6_adds l z _ 1 rw4_1 _ _ _ _ (vin9 (s_lt8 hI c_84))) yk_X6_adds w_894 ⟨Nat.le_of_ble_eq_true rfl, Nat.le_of_ble_eq_true rfl⟩ rfl rfl (Nat.le_of_ble_eq_true rfl) dX6_isDone_107 ?_
              refine j_iconst C0 (v := 1) dX6_isDone_110 (by decide) ?_
              exact j_zretM C0 hrt hlk (Or.inr rfl) dX6_isDone_111
    · skip
      refine j_case (cnd := p0 = 116) (fun c_15_116 => ?_) (fun c_15_116 => ?_)
      · have c_15_116x : (p0).toInt = 116 := by rw [c_15_116]; rfl
        refine j_lookup C0 121 dX6_isDone_15 (by decide) (by rw [c_15_116x]) (by decide) ?_
        refine j_aload_n C0 2 dX6_isDone_121 rfl rfl ?_
        refine j_iload_n C0 1 dX6_isDone_122 rfl rfl ?_
        refine j_callVi C0 (c_X6_isPerson l z _ _ hI) yk_X6_isPerson w_900 (fun H locs hP _ => recvW C0 hP 0 (by decide) celM_0 rfl) ⟨Nat.le_of_ble_eq_true rfl, Nat.le_of_ble_eq_true rfl⟩ rfl rfl (Nat.le_of_ble_eq_true rfl) dX6_isDone_123 ?_
        refine j_if_eq C0 161 dX6_isDone_126 (by decide) (fun c_126 => ?_) (fun c_126 => ?_)
        · refine j_iconst C0 (v := 0) dX6_isDone_161 (by decide) ?_
          exact j_zretM C0 hrt hlk (Or.inl rfl) dX6_isDone_162
        · have hq0 := isPerson_in hI c_126
          refine j_aload_n C0 2 dX6_isDone_129 rfl rfl ?_
          refine j_iload_n C0 0 dX6_isDone_130 rfl rfl ?_
          refine j_callVi C0 (c_X6_isPerson l z _ _ hI) yk_X6_isPerson w_900 (fun H locs hP _ => recvW C0 hP 0 (by decide) celM_0 rfl) ⟨Nat.le_of_ble_eq_true rfl, Nat.le_of_ble_eq_true rfl⟩ rfl rfl (Nat.le_of_ble_eq_true rfl) dX6_isDone_131 ?_
          refine j_if_eq C0 161 dX6_isDone_134 (by decide) (fun c_134 => ?_) (fun c_134 => ?_)
          · refine j_iconst C0 (v := 0) dX6_isDone_161 (by decide) ?_
            exact j_zretM C0 hrt hlk (Or.inl rfl) dX6_isDone_162
          · have hq1 := isPerson_in hI c_134
            refine j_aload_n C0 2 dX6_isDone_137 rfl rfl ?_
            refine g_Model_s C0 w_800 dX6_isDone_138 ?_
            refine j_iload_n C0 1 dX6_isDone_141 rfl rfl ?_
            refine j_iload_n C0 0 dX6_isDone_142 rfl rfl ?_
            refine j_callSi C0 (c_X6_canEat l z _ 1 rw4_1 _ _ hq0 hq1) yk_X6_canEat w_904 ⟨Nat.le_of_ble_eq_true rfl, Nat.le_of_ble_eq_true rfl⟩ rfl rfl (Nat.le_of_ble_eq_true rfl) dX6_isDone_143 ?_
            refine j_if_eq C0 161 dX6_isDone_146 (by decide) (fun c_146 => ?_) (fun c_146 => ?_)
            · refine j_iconst C0 (v := 0) dX6_isDone_161 (by decide) ?_
              exact j_zretM C0 hrt hlk (Or.inl rfl) dX6_isDone_162
            · refine j_aload_n C0 2 dX6_isDone_149 rfl rfl ?_
              refine g_Model_s C0 w_800 dX6_isDone_150 ?_
              refine j_iconst C0 (v := 2) dX6_isDone_153 (by decide) ?_
              refine a_Ml C0 (by decide) ixl_2 vl57_2 dX6_isDone_154 ?_
              refine j_sipush C0 (v := 999) dX6_isDone_155 (by decide) ?_
              refine j_icmp_ne C0 163 dX6_isDone_158 (by decide) (fun c_158 => ?_) (fun c_158 => ?_)
              · refine j_iconst C0 (v := 0) dX6_isDone_161 (by decide) ?_
                exact j_zretM C0 hrt hlk (Or.inl rfl) dX6_isDone_162
              · refine j_aload_n C0 2 dX6_isDone_163 rfl rfl ?_
                refine g_Model_s C0 w_800 dX6_isDone_164 ?_
                refine j_iload_n C0 1 dX6_isDone_167 rfl rfl ?_
                refine j_iload_n C0 0 dX6_isDone_168 rfl rfl ?_
                refine j_callSi C0 (c_X6_turn l z _ 1 rw4_1 _ _ hq0 hq1) yk_X6_turn w_910 ⟨Nat.le_of_ble_eq_true rfl, Nat.le_of_ble_eq_true rfl⟩ rfl rfl (Nat.le_of_ble_eq_true rfl) dX6_isDone_169 ?_
                refine j_istore C0 (lv' := [(4, _), (3, _), (2, _), (0, _), (1, _)]) dX6_isDone_172 (by decide) rfl ?_
                refine j_iconst C0 (v := 1) dX6_isDone_174 (by decide) ?_
                exact j_zretM C0 hrt hlk (Or.inr rfl) dX6_isDone_175
      · skip
        refine j_lookup C0 (off := 161) 176 dX6_isDone_15 (by decide) (by have c_15_99x : 99 ≠ (p0).toInt := Ne.symm (ne_toInt c_15_99); have c_15_112x : 112 ≠ (p0).toInt := Ne.symm (ne_toInt c_15_112); have c_15_116x : 116 ≠ (p0).toInt := Ne.symm (ne_toInt c_15_116); simp [Op.lookupswitch.offset, *]) (by decide) ?_
        refine j_aload_n C0 2 dX6_isDone_176 rfl rfl ?_
        refine j_iload_n C0 1 dX6_isDone_177 rfl rfl ?_
        refine j_callVi C0 (c_X6_isPerson l z _ _ hI) yk_X6_isPerson w_900 (fun H locs hP _ => recvW C0 hP 0 (by decide) celM_0 rfl) ⟨Nat.le_of_ble_eq_true rfl, Nat.le_of_ble_eq_true rfl⟩ rfl rfl (Nat.le_of_ble_eq_true rfl) dX6_isDone_178 ?_
        refine j_if_eq C0 190 dX6_isDone_181 (by decide) (fun c_181 => ?_) (fun c_181 => ?_)
        · refine j_iconst C0 (v := 0) dX6_isDone_190 (by decide) ?_
          exact j_zretM C0 hrt hlk (Or.inl rfl) dX6_isDone_191
        · have hq0 := isPerson_in hI c_181
          refine j_iload_n C0 0 dX6_isDone_184 rfl rfl ?_
          refine j_bipush C0 (v := 30) dX6_isDone_185 (by decide) ?_
          refine j_icmp_le C0 192 dX6_isDone_187 (by decide) (fun c_187 => ?_) (fun c_187 => ?_)
          · refine j_aload_n C0 2 dX6_isDone_192 rfl rfl ?_
            refine g_Model_s C0 w_800 dX6_isDone_193 ?_
            refine j_iload_n C0 1 dX6_isDone_196 rfl rfl ?_
            refine j_iload_n C0 3 dX6_isDone_197 rfl rfl ?_
            refine j_bipush C0 (v := 104) dX6_isDone_198 (by decide) ?_
            refine j_icmp_ne C0 207 dX6_isDone_200 (by decide) (fun c_200 => ?_) (fun c_200 => ?_)
            · refine j_iconst C0 (v := 2) dX6_isDone_203 (by decide) ?_
              refine j_goto C0 208 dX6_isDone_204 (by decide) ?_
              refine j_callSi C0 (c_X6_of l z _ _ _) yk_X6_of w_897 ⟨Nat.le_of_ble_eq_true rfl, Nat.le_of_ble_eq_true rfl⟩ rfl rfl (Nat.le_of_ble_eq_true rfl) dX6_isDone_208 ?_
              refine j_iload_n C0 0 dX6_isDone_211 rfl rfl ?_
              refine s_M C0 (by decide) (of_in2 hq0) dX6_isDone_212 ?_
              refine j_iconst C0 (v := 1) dX6_isDone_213 (by decide) ?_
              exact j_zretM C0 hrt hlk (Or.inr rfl) dX6_isDone_214
            · refine j_iconst C0 (v := 3) dX6_isDone_207 (by decide) ?_
              refine j_callSi C0 (c_X6_of l z _ _ _) yk_X6_of w_897 ⟨Nat.le_of_ble_eq_true rfl, Nat.le_of_ble_eq_true rfl⟩ rfl rfl (Nat.le_of_ble_eq_true rfl) dX6_isDone_208 ?_
              refine j_iload_n C0 0 dX6_isDone_211 rfl rfl ?_
              refine s_M C0 (by decide) (of_in3 hq0) dX6_isDone_212 ?_
              refine j_iconst C0 (v := 1) dX6_isDone_213 (by decide) ?_
              exact j_zretM C0 hrt hlk (Or.inr rfl) dX6_isDone_214
          · refine j_iconst C0 (v := 0) dX6_isDone_190 (by decide) ?_
            exact j_zretM C0 hrt hlk (Or.inl rfl) dX6_isDone_191
