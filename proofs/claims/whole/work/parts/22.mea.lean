def f_X6_keep_m1 (g : Mem) (p0 p1 p2 p3 : Int32) : Mem := up g 8 (ix p0) p1
def f_X6_keep_m2 (g : Mem) (p0 p1 p2 p3 : Int32) : Mem := up (f_X6_keep_m1 g p0 p1 p2 p3) 9 (ix p0) p2
def f_X6_keep_m3 (g : Mem) (p0 p1 p2 p3 : Int32) : Mem := up (f_X6_keep_m2 g p0 p1 p2 p3) 10 (ix p0) p3
def f_X6_keep_m4 (g : Mem) (p0 p1 p2 p3 : Int32) : Mem := up g 8 (ix p0) p1
def f_X6_keep_m5 (g : Mem) (p0 p1 p2 p3 : Int32) : Mem := up (f_X6_keep_m4 g p0 p1 p2 p3) 9 (ix p0) p2
def f_X6_keep_m6 (g : Mem) (p0 p1 p2 p3 : Int32) : Mem := up (f_X6_keep_m5 g p0 p1 p2 p3) 10 (ix p0) p3
def f_X6_keep (g : Mem) (p0 p1 p2 p3 : Int32) : Int32 × Mem := if (f_X6_isShelf p0) = 0 then (((-1 : Int32), g)) else (if (f_X6_isIn p1 (0 : Int32) (1 : Int32)) = 0 then (((-1 : Int32), g)) else (if p1 = (1 : Int32) then (if (f_X6_isIn p2 (0 : Int32) (7 : Int32)) = 0 then (((-1 : Int32), g)) else (if (f_X6_isIn p3 (0 : Int32) (9 : Int32)) = 0 then (((-1 : Int32), g)) else (((0 : Int32), (f_X6_keep_m3 g p0 p1 p2 p3))))) else (((0 : Int32), (f_X6_keep_m6 g p0 p1 p2 p3)))))
def r_X6_keep (g : Mem) (p0 p1 p2 p3 : Int32) : Int32 := (f_X6_keep g p0 p1 p2 p3).1
def m_X6_keep (g : Mem) (p0 p1 p2 p3 : Int32) : Mem := (f_X6_keep g p0 p1 p2 p3).2
theorem e_X6_keep (g : Mem) (p0 p1 p2 p3 : Int32) : (r_X6_keep g p0 p1 p2 p3, m_X6_keep g p0 p1 p2 p3) = f_X6_keep g p0 p1 p2 p3 := by unfold r_X6_keep m_X6_keep; exact pmk_eta _
theorem yk_X6_keep : yokV yX6_keep RX6 cX6_keep 5 (some .int) 4 := ⟨w_1134, w_1132, w_1133, w_8, by decide +kernel⟩
set_option maxHeartbeats 4000000 in
set_option maxRecDepth 100000 in
theorem c_X6_keep (l : Launch) (z : ZM) (g : Mem) (p0 p1 p2 p3 : Int32) (hI : InM g) : ctM l yX6_keep cX6_keep 5 (some .int) 2 42 z g [.ref (yad z 0), .int p0, .int p1, .int p2, .int p3] (qIM z (r_X6_keep g p0 p1 p2 p3, m_X6_keep g p0 p1 p2 p3)) := by
  rw [e_X6_keep]
  refine ct_of (own := RX6) (q := fun r => qIM z r) (res := f_X6_keep g p0 p1 p2 p3) (lv := [(0, .ref (yad z 0)), (1, .int p0), (2, .int p1), (3, .int p2), (4, .int p3)]) enokM rfl (by decide) (Nat.le_of_ble_eq_true rfl) rfl (fun p e s m args below meth c C0 hrt hlk => ?_)
  unfold f_X6_keep
  refine j_iload_n C0 1 dX6_keep_0 rfl rfl ?_
  refine j_callSi C0 (c_X6_isShelf l z _ _) yk_X6_isShelf w_869 ⟨Nat.le_of_ble_eq_true rfl, Nat.le_of_ble_eq_true rfl⟩ rfl rfl (Nat.le_of_ble_eq_true rfl) dX6_keep_1 ?_
  refine j_if_eq C0 42 dX6_keep_4 (by decide) (fun c_4 => ?_) (fun c_4 => ?_)
  · refine j_iconst C0 (v := (-1)) dX6_keep_42 (by decide) ?_
    exact j_iretM C0 hrt hlk dX6_keep_43
  · have hv := isShelfM_in c_4
    refine j_iload_n C0 2 dX6_keep_7 rfl rfl ?_
    refine j_iconst C0 (v := 0) dX6_keep_8 (by decide) ?_
    refine j_iconst C0 (v := 1) dX6_keep_9 (by decide) ?_
    refine j_callSi C0 (c_X6_isIn l z _ _ _ _) yk_X6_isIn w_872 ⟨Nat.le_of_ble_eq_true rfl, Nat.le_of_ble_eq_true rfl⟩ rfl rfl (Nat.le_of_ble_eq_true rfl) dX6_keep_10 ?_
    refine j_if_eq C0 42 dX6_keep_13 (by decide) (fun c_13 => ?_) (fun c_13 => ?_)
    · refine j_iconst C0 (v := (-1)) dX6_keep_42 (by decide) ?_
      exact j_iretM C0 hrt hlk dX6_keep_43
    · refine j_iload_n C0 2 dX6_keep_16 rfl rfl ?_
      refine j_iconst C0 (v := 1) dX6_keep_17 (by decide) ?_
      refine j_icmp_ne C0 44 dX6_keep_18 (by decide) (fun c_18 => ?_) (fun c_18 => ?_)
      · refine j_iload_n C0 3 dX6_keep_21 rfl rfl ?_
        refine j_iconst C0 (v := 0) dX6_keep_22 (by decide) ?_
        refine j_bipush C0 (v := 7) dX6_keep_23 (by decide) ?_
        refine j_callSi C0 (c_X6_isIn l z _ _ _ _) yk_X6_isIn w_872 ⟨Nat.le_of_ble_eq_true rfl, Nat.le_of_ble_eq_true rfl⟩ rfl rfl (Nat.le_of_ble_eq_true rfl) dX6_keep_25 ?_
        refine j_if_eq C0 42 dX6_keep_28 (by decide) (fun c_28 => ?_) (fun c_28 => ?_)
        · refine j_iconst C0 (v := (-1)) dX6_keep_42 (by decide) ?_
          exact j_iretM C0 hrt hlk dX6_keep_43
        · refine j_iload C0 4 dX6_keep_31 rfl ?_
          refine j_iconst C0 (v := 0) dX6_keep_33 (by decide) ?_
          refine j_bipush C0 (v := 9) dX6_keep_34 (by decide) ?_
          refine j_callSi C0 (c_X6_isIn l z _ _ _ _) yk_X6_isIn w_872 ⟨Nat.le_of_ble_eq_true rfl, Nat.le_of_ble_eq_true rfl⟩ rfl rfl (Nat.le_of_ble_eq_true rfl) dX6_keep_36 ?_
          refine j_if_ne C0 44 dX6_keep_39 (by decide) (fun c_39 => ?_) (fun c_39 => ?_)
          · refine j_iconst C0 (v := (-1)) dX6_keep_42 (by decide) ?_
            exact j_iretM C0 hrt hlk dX6_keep_43
          · refine j_aload_n C0 0 dX6_keep_44 rfl rfl ?_
            refine g_Model_kept C0 w_813 dX6_keep_45 ?_
            refine j_iload_n C0 1 dX6_keep_48 rfl rfl ?_
            refine j_iload_n C0 2 dX6_keep_49 rfl rfl ?_
            refine s_M C0 (by decide) hv dX6_keep_50 ?_
            refine j_aload_n C0 0 dX6_keep_51 rfl rfl ?_
            refine g_Model_keptKind C0 w_814 dX6_keep_52 ?_
            refine j_iload_n C0 1 dX6_keep_55 rfl rfl ?_
            refine j_iload_n C0 3 dX6_keep_56 rfl rfl ?_
            refine s_M C0 (by decide) hv dX6_keep_57 ?_
            refine j_aload_n C0 0 dX6_keep_58 rfl rfl ?_
            refine g_Model_keptFigure C0 w_815 dX6_keep_59 ?_
            refine j_iload_n C0 1 dX6_keep_62 rfl rfl ?_
            refine j_iload C0 4 dX6_keep_63 rfl ?_
            refine s_M C0 (by decide) hv dX6_keep_65 ?_
            refine j_iconst C0 (v := 0) dX6_keep_66 (by decide) ?_
            exact j_iretM C0 hrt hlk dX6_keep_67
      · refine j_aload_n C0 0 dX6_keep_44 rfl rfl ?_
        refine g_Model_kept C0 w_813 dX6_keep_45 ?_
        refine j_iload_n C0 1 dX6_keep_48 rfl rfl ?_
        refine j_iload_n C0 2 dX6_keep_49 rfl rfl ?_
        refine s_M C0 (by decide) hv dX6_keep_50 ?_
        refine j_aload_n C0 0 dX6_keep_51 rfl rfl ?_
        refine g_Model_keptKind C0 w_814 dX6_keep_52 ?_
        refine j_iload_n C0 1 dX6_keep_55 rfl rfl ?_
        refine j_iload_n C0 3 dX6_keep_56 rfl rfl ?_
        refine s_M C0 (by decide) hv dX6_keep_57 ?_
        refine j_aload_n C0 0 dX6_keep_58 rfl rfl ?_
        refine g_Model_keptFigure C0 w_815 dX6_keep_59 ?_
        refine j_iload_n C0 1 dX6_keep_62 rfl rfl ?_
        refine j_iload C0 4 dX6_keep_63 rfl ?_
        refine s_M C0 (by decide) hv dX6_keep_65 ?_
        refine j_iconst C0 (v := 0) dX6_keep_66 (by decide) ?_
        exact j_iretM C0 hrt hlk dX6_keep_67
def f_X6_row_m1 (g : Mem) (p0 p1 p2 : Int32) : Mem := up g 8 (ix p0) (2 : Int32)
def f_X6_row_m2 (g : Mem) (p0 p1 p2 : Int32) : Mem := up (f_X6_row_m1 g p0 p1 p2) 11 (ix p0) p1
def f_X6_row_m3 (g : Mem) (p0 p1 p2 : Int32) : Mem := up (f_X6_row_m2 g p0 p1 p2) 12 (ix p0) p2
def f_X6_row_m4 (g : Mem) (p0 p1 p2 : Int32) (a4 : Int32) (g_55 : Mem) : Mem := up g_55 13 (ix (((100 : Int32) * p0) + a4)) (0 : Int32)
def f_X6_row_55 (g : Mem) (p0 p1 p2 : Int32) : Nat → Int32 → Mem → Int32 × Mem
  | 0, _, _ => (0, g)
  | n0 + 1, a4, g_55 => if (100 : Int32) ≤ a4 then (((0 : Int32), g_55)) else (f_X6_row_55 g p0 p1 p2 n0 (a4 + (1 : Int32)) (f_X6_row_m4 g p0 p1 p2 a4 g_55))
def f_X6_row (g : Mem) (p0 p1 p2 : Int32) : Int32 × Mem := if (f_X6_isShelf p0) = 0 then (((-1 : Int32), g)) else (if (f_X6_isIn p1 (0 : Int32) (2 : Int32)) = 0 then (((-1 : Int32), g)) else (if p2 ≤ (100 : Int32) then (if 0 ≤ p2 then (f_X6_row_55 g p0 p1 p2 101 (0 : Int32) (f_X6_row_m3 g p0 p1 p2)) else (((-14 : Int32), g))) else (((-1 : Int32), g))))
def r_X6_row (g : Mem) (p0 p1 p2 : Int32) : Int32 := (f_X6_row g p0 p1 p2).1
def m_X6_row (g : Mem) (p0 p1 p2 : Int32) : Mem := (f_X6_row g p0 p1 p2).2
theorem e_X6_row (g : Mem) (p0 p1 p2 : Int32) : (r_X6_row g p0 p1 p2, m_X6_row g p0 p1 p2) = f_X6_row g p0 p1 p2 := by unfold r_X6_row m_X6_row; exact pmk_eta _
theorem yk_X6_row : yokV yX6_row RX6 cX6_row 5 (some .int) 3 := ⟨w_1138, w_1136, w_1137, w_8, by decide +kernel⟩
set_option maxHeartbeats 4000000 in
set_option maxRecDepth 100000 in
theorem c_X6_row (l : Launch) (z : ZM) (g : Mem) (p0 p1 p2 : Int32) (hI : InM g) : ctM l yX6_row cX6_row 5 (some .int) 2 42 z g [.ref (yad z 0), .int p0, .int p1, .int p2] (qIM z (r_X6_row g p0 p1 p2, m_X6_row g p0 p1 p2)) := by
  rw [e_X6_row]
  refine ct_of (own := RX6) (q := fun r => qIM z r) (res := f_X6_row g p0 p1 p2) (lv := [(0, .ref (yad z 0)), (1, .int p0), (2, .int p1), (3, .int p2)]) enokM rfl (by decide) (Nat.le_of_ble_eq_true rfl) rfl (fun p e s m args below meth c C0 hrt hlk => ?_)
  unfold f_X6_row
  refine j_iload_n C0 1 dX6_row_0 rfl rfl ?_
  refine j_callSi C0 (c_X6_isShelf l z _ _) yk_X6_isShelf w_869 ⟨Nat.le_of_ble_eq_true rfl, Nat.le_of_ble_eq_true rfl⟩ rfl rfl (Nat.le_of_ble_eq_true rfl) dX6_row_1 ?_
  refine j_if_eq C0 22 dX6_row_4 (by decide) (fun c_4 => ?_) (fun c_4 => ?_)
  · refine j_iconst C0 (v := (-1)) dX6_row_22 (by decide) ?_
    exact j_iretM C0 hrt hlk dX6_row_23
  · have hv := isShelfM_in c_4
    refine j_iload_n C0 2 dX6_row_7 rfl rfl ?_
    refine j_iconst C0 (v := 0) dX6_row_8 (by decide) ?_
    refine j_iconst C0 (v := 2) dX6_row_9 (by decide) ?_
    refine j_callSi C0 (c_X6_isIn l z _ _ _ _) yk_X6_isIn w_872 ⟨Nat.le_of_ble_eq_true rfl, Nat.le_of_ble_eq_true rfl⟩ rfl rfl (Nat.le_of_ble_eq_true rfl) dX6_row_10 ?_
    refine j_if_eq C0 22 dX6_row_13 (by decide) (fun c_13 => ?_) (fun c_13 => ?_)
    · refine j_iconst C0 (v := (-1)) dX6_row_22 (by decide) ?_
      exact j_iretM C0 hrt hlk dX6_row_23
    · refine j_iload_n C0 3 dX6_row_16 rfl rfl ?_
      refine j_bipush C0 (v := 100) dX6_row_17 (by decide) ?_
      refine j_icmp_le C0 24 dX6_row_19 (by decide) (fun c_19 => ?_) (fun c_19 => ?_)
      · refine j_iload_n C0 3 dX6_row_24 rfl rfl ?_
        refine j_if_ge C0 31 dX6_row_25 (by decide) (fun c_25 => ?_) (fun c_25 => ?_)
        · refine j_aload_n C0 0 dX6_row_31 rfl rfl ?_
          refine g_Model_kept C0 w_813 dX6_row_32 ?_
          refine j_iload_n C0 1 dX6_row_35 rfl rfl ?_
          refine j_iconst C0 (v := 2) dX6_row_36 (by decide) ?_
          refine s_M C0 (by decide) hv dX6_row_37 ?_
          refine j_aload_n C0 0 dX6_row_38 rfl rfl ?_
          refine g_Model_sort C0 w_816 dX6_row_39 ?_
          refine j_iload_n C0 1 dX6_row_42 rfl rfl ?_
          refine j_iload_n C0 2 dX6_row_43 rfl rfl ?_
          refine s_M C0 (by decide) hv dX6_row_44 ?_
          refine j_aload_n C0 0 dX6_row_45 rfl rfl ?_
          refine g_Model_size C0 w_817 dX6_row_46 ?_
          refine j_iload_n C0 1 dX6_row_49 rfl rfl ?_
          refine j_iload_n C0 3 dX6_row_50 rfl rfl ?_
          refine s_M C0 (by decide) hv dX6_row_51 ?_
          refine j_iconst C0 (v := 0) dX6_row_52 (by decide) ?_
          refine j_istore C0 (lv' := [(4, _), (0, _), (1, _), (2, _), (3, _)]) dX6_row_53 (by decide) rfl ?_
          have L55 : ∀ (n0 : Nat) (a4 : Int32) (g_55 : Mem), lc a4 100 n0 → jj p l e { frames := 2, cells := 0, slots := 0, locals := 42 } s m args below meth c (yA z) (yD z) 14 (yad z) (celM z) 5 (fun r => MQ below (qIM z r) args s 0 0 (yA z)) (f_X6_row_55 g p0 p1 p2 n0 a4 g_55) g_55 55 [(0, .ref (yad z 0)), (1, .int p0), (2, .int p1), (3, .int p2), (4, .int a4)] [] := by
            intro n0
            induction n0 with
            | zero => intro a4 g_55 hL; exact absurd hL.2 (Nat.not_lt_zero _)
            | succ n0 ih0 =>
              intro a4 g_55 hL
              rw [f_X6_row_55]
              refine j_iload C0 4 dX6_row_55 rfl ?_
              refine j_bipush C0 (v := 100) dX6_row_57 (by decide) ?_
              refine j_icmp_ge C0 81 dX6_row_59 (by decide) (fun c_59 => ?_) (fun c_59 => ?_)
              · refine j_iconst C0 (v := 0) dX6_row_81 (by decide) ?_
                exact j_iretM C0 hrt hlk dX6_row_82
              · have hx : vp_in a4 100 := vin_lc hL c_59 (by decide)
                refine j_aload_n C0 0 dX6_row_62 rfl rfl ?_
                refine g_Model_element C0 w_818 dX6_row_63 ?_
                refine j_bipush C0 (v := 100) dX6_row_66 (by decide) ?_
                refine j_iload_n C0 1 dX6_row_68 rfl rfl ?_
                refine j_imul C0 dX6_row_69 ?_
                refine j_iload C0 4 dX6_row_70 rfl ?_
                refine j_iadd C0 dX6_row_72 ?_
                refine j_iconst C0 (v := 0) dX6_row_73 (by decide) ?_
                refine s_M C0 (by decide) (elt_in hv hx) dX6_row_74 ?_
                refine j_iinc C0 (lv' := [(4, _), (0, _), (1, _), (2, _), (3, _)]) (v := _ + (1)) 4 dX6_row_75 rfl (by rfl) (by decide) rfl ?_
                refine j_goto C0 55 dX6_row_78 (by decide) ?_
                exact j_sub [1, 2, 3, 4, 0] rfl (ih0 _ _ (lc_stepN hL c_59))
          exact j_sub [1, 2, 3, 4, 0] rfl (L55 101 _ _ (lc_0 (by decide) (by decide)))
        · refine j_bipush C0 (v := (-14)) dX6_row_28 (by decide) ?_
          exact j_iretM C0 hrt hlk dX6_row_30
      · refine j_iconst C0 (v := (-1)) dX6_row_22 (by decide) ?_
        exact j_iretM C0 hrt hlk dX6_row_23
def f_X6_put (g : Mem) (p0 p1 p2 : Int32) : Int32 × Mem := if (f_X6_wrongRow g p0 (-1 : Int32)) = 0 then (if (f_X6_isIn p1 (0 : Int32) ((g 12 (ix p0)) - (1 : Int32))) = 0 then (((-13 : Int32), g)) else (if (g 11 (ix p0)) = 0 then (((0 : Int32), (up g 13 (ix (((100 : Int32) * p0) + p1)) (Int8.toInt32 (Int32.toInt8 p2))))) else (if (g 11 (ix p0)) = (1 : Int32) then (((0 : Int32), (up g 13 (ix (((100 : Int32) * p0) + p1)) (Int16.toInt32 (Int32.toInt16 p2))))) else (((0 : Int32), (up g 13 (ix (((100 : Int32) * p0) + p1)) p2)))))) else (((f_X6_wrongRow g p0 (-1 : Int32)), g))
def r_X6_put (g : Mem) (p0 p1 p2 : Int32) : Int32 := (f_X6_put g p0 p1 p2).1
def m_X6_put (g : Mem) (p0 p1 p2 : Int32) : Mem := (f_X6_put g p0 p1 p2).2
theorem e_X6_put (g : Mem) (p0 p1 p2 : Int32) : (r_X6_put g p0 p1 p2, m_X6_put g p0 p1 p2) = f_X6_put g p0 p1 p2 := by unfold r_X6_put m_X6_put; exact pmk_eta _
theorem yk_X6_put : yokV yX6_put RX6 cX6_put 5 (some .int) 3 := ⟨w_1142, w_1140, w_1141, w_8, by decide +kernel⟩
set_option maxHeartbeats 4000000 in
set_option maxRecDepth 100000 in
theorem c_X6_put (l : Launch) (z : ZM) (g : Mem) (p0 p1 p2 : Int32) (hI : InM g) : ctM l yX6_put cX6_put 5 (some .int) 3 64 z g [.ref (yad z 0), .int p0, .int p1, .int p2] (qIM z (r_X6_put g p0 p1 p2, m_X6_put g p0 p1 p2)) := by
  rw [e_X6_put]
  refine ct_of (own := RX6) (q := fun r => qIM z r) (res := f_X6_put g p0 p1 p2) (lv := [(0, .ref (yad z 0)), (1, .int p0), (2, .int p1), (3, .int p2)]) enokM rfl (by decide) (Nat.le_of_ble_eq_true rfl) rfl (fun p e s m args below meth c C0 hrt hlk => ?_)
  unfold f_X6_put
  refine j_aload_n C0 0 dX6_put_0 rfl rfl ?_
  refine j_iload_n C0 1 dX6_put_1 rfl rfl ?_
  refine j_iconst C0 (v := (-1)) dX6_put_2 (by decide) ?_
  refine j_callVi C0 (c_X6_wrongRow l z _ _ _ hI) yk_X6_wrongRow w_865 (fun H locs hP _ => recvW C0 hP 0 (by decide) celM_0 rfl) ⟨Nat.le_of_ble_eq_true rfl, Nat.le_of_ble_eq_true rfl⟩ rfl rfl (Nat.le_of_ble_eq_true rfl) dX6_put_3 ?_
  refine j_istore C0 (lv' := [(4, _), (0, _), (1, _), (2, _), (3, _)]) dX6_put_6 (by decide) rfl ?_
  refine j_iload C0 0 dX6_put_8 rfl ?_
  refine j_if_eq C0 16 dX6_put_10 (by decide) (fun c_10 => ?_) (fun c_10 => ?_)
  · have hv := wrongRow_in c_10
    refine j_iload_n C0 3 dX6_put_16 rfl rfl ?_
    refine j_iconst C0 (v := 0) dX6_put_17 (by decide) ?_
    refine j_aload_n C0 1 dX6_put_18 rfl rfl ?_
    refine g_Model_size C0 w_817 dX6_put_19 ?_
    refine j_iload_n C0 2 dX6_put_22 rfl rfl ?_
    refine a_M C0 (by decide) hv dX6_put_23 ?_
    refine j_iconst C0 (v := 1) dX6_put_24 (by decide) ?_
    refine j_isub C0 dX6_put_25 ?_
    refine j_callSi C0 (c_X6_isIn l z _ _ _ _) yk_X6_isIn w_872 ⟨Nat.le_of_ble_eq_true rfl, Nat.le_of_ble_eq_true rfl⟩ rfl rfl (Nat.le_of_ble_eq_true rfl) dX6_put_26 ?_
    refine j_if_ne C0 35 dX6_put_29 (by decide) (fun c_29 => ?_) (fun c_29 => ?_)
    · refine j_bipush C0 (v := (-13)) dX6_put_32 (by decide) ?_
      exact j_iretM C0 hrt hlk dX6_put_34
    · have hx := sizeIn hI (vin_lt hv) c_29
      refine j_aload_n C0 1 dX6_put_35 rfl rfl ?_
      refine g_Model_element C0 w_818 dX6_put_36 ?_
      refine j_bipush C0 (v := 100) dX6_put_39 (by decide) ?_
      refine j_iload_n C0 2 dX6_put_41 rfl rfl ?_
      refine j_imul C0 dX6_put_42 ?_
      refine j_iload_n C0 3 dX6_put_43 rfl rfl ?_
      refine j_iadd C0 dX6_put_44 ?_
      refine j_aload_n C0 1 dX6_put_45 rfl rfl ?_
      refine g_Model_sort C0 w_816 dX6_put_46 ?_
      refine j_iload_n C0 2 dX6_put_49 rfl rfl ?_
      refine a_M C0 (by decide) hv dX6_put_50 ?_
      refine j_if_ne C0 59 dX6_put_51 (by decide) (fun c_51 => ?_) (fun c_51 => ?_)
      · refine j_iload_n C0 4 dX6_put_54 rfl rfl ?_
        refine j_i2b C0 dX6_put_55 ?_
        refine j_goto C0 75 dX6_put_56 (by decide) ?_
        refine s_M C0 (by decide) (elt_in hv hx) dX6_put_75 ?_
        refine j_iconst C0 (v := 0) dX6_put_76 (by decide) ?_
        exact j_iretM C0 hrt hlk dX6_put_77
      · refine j_aload_n C0 1 dX6_put_59 rfl rfl ?_
        refine g_Model_sort C0 w_816 dX6_put_60 ?_
        refine j_iload_n C0 2 dX6_put_63 rfl rfl ?_
        refine a_M C0 (by decide) hv dX6_put_64 ?_
        refine j_iconst C0 (v := 1) dX6_put_65 (by decide) ?_
        refine j_icmp_ne C0 74 dX6_put_66 (by decide) (fun c_66 => ?_) (fun c_66 => ?_)
        · refine j_iload_n C0 4 dX6_put_69 rfl rfl ?_
          refine j_i2s C0 dX6_put_70 ?_
          refine j_goto C0 75 dX6_put_71 (by decide) ?_
          refine s_M C0 (by decide) (elt_in hv hx) dX6_put_75 ?_
          refine j_iconst C0 (v := 0) dX6_put_76 (by decide) ?_
          exact j_iretM C0 hrt hlk dX6_put_77
        · refine j_iload_n C0 4 dX6_put_74 rfl rfl ?_
          refine s_M C0 (by decide) (elt_in hv hx) dX6_put_75 ?_
          refine j_iconst C0 (v := 0) dX6_put_76 (by decide) ?_
          exact j_iretM C0 hrt hlk dX6_put_77
  · refine j_iload C0 0 dX6_put_13 rfl ?_
    exact j_iretM C0 hrt hlk dX6_put_15
def f_X6_element (g : Mem) (p0 p1 : Int32) : Int64 × Mem := if (f_X6_isShelf p0) = 0 then (if ((up g 0 19 (1 : Int32)) 0 19) = 0 then (((Int32.toInt64 ((up g 0 19 (1 : Int32)) 13 (ix (((100 : Int32) * p0) + p1)))), (up g 0 19 (1 : Int32)))) else (((0 : Int64), (up g 0 19 (1 : Int32))))) else (if (g 8 (ix p0)) = (2 : Int32) then (if (f_X6_isIn p1 (0 : Int32) ((g 12 (ix p0)) - (1 : Int32))) = 0 then (if ((up g 0 19 (2 : Int32)) 0 19) = 0 then (((Int32.toInt64 ((up g 0 19 (2 : Int32)) 13 (ix (((100 : Int32) * p0) + p1)))), (up g 0 19 (2 : Int32)))) else (((0 : Int64), (up g 0 19 (2 : Int32))))) else (if ((up g 0 19 (0 : Int32)) 0 19) = 0 then (((Int32.toInt64 ((up g 0 19 (0 : Int32)) 13 (ix (((100 : Int32) * p0) + p1)))), (up g 0 19 (0 : Int32)))) else (((0 : Int64), (up g 0 19 (0 : Int32)))))) else (if ((up g 0 19 (2 : Int32)) 0 19) = 0 then (((Int32.toInt64 ((up g 0 19 (2 : Int32)) 13 (ix (((100 : Int32) * p0) + p1)))), (up g 0 19 (2 : Int32)))) else (((0 : Int64), (up g 0 19 (2 : Int32))))))
def r_X6_element (g : Mem) (p0 p1 : Int32) : Int64 := (f_X6_element g p0 p1).1
def m_X6_element (g : Mem) (p0 p1 : Int32) : Mem := (f_X6_element g p0 p1).2
theorem e_X6_element (g : Mem) (p0 p1 : Int32) : (r_X6_element g p0 p1, m_X6_element g p0 p1) = f_X6_element g p0 p1 := by unfold r_X6_element m_X6_element; exact pmk_eta _
theorem yk_X6_element : yokV yX6_element RX6 cX6_element 3 (some .long) 2 := ⟨w_1146, w_1144, w_1145, w_8, by decide +kernel⟩
set_option maxHeartbeats 4000000 in
set_option maxRecDepth 100000 in
theorem c_X6_element (l : Launch) (z : ZM) (g : Mem) (p0 p1 : Int32) (hI : InM g) : ctM l yX6_element cX6_element 3 (some .long) 2 42 z g [.ref (yad z 0), .int p0, .int p1] (qLM z (r_X6_element g p0 p1, m_X6_element g p0 p1)) := by
  rw [e_X6_element]
  refine ct_of (own := RX6) (q := fun r => qLM z r) (res := f_X6_element g p0 p1) (lv := [(0, .ref (yad z 0)), (1, .int p0), (2, .int p1)]) enokM rfl (by decide) (Nat.le_of_ble_eq_true rfl) rfl (fun p e s m args below meth c C0 hrt hlk => ?_)
  unfold f_X6_element
  refine j_aload_n C0 0 dX6_element_0 rfl rfl ?_
  refine j_iload_n C0 1 dX6_element_1 rfl rfl ?_
  refine j_callSi C0 (c_X6_isShelf l z _ _) yk_X6_isShelf w_869 ⟨Nat.le_of_ble_eq_true rfl, Nat.le_of_ble_eq_true rfl⟩ rfl rfl (Nat.le_of_ble_eq_true rfl) dX6_element_2 ?_
  refine j_if_ne C0 12 dX6_element_5 (by decide) (fun c_5 => ?_) (fun c_5 => ?_)
  · refine j_iconst C0 (v := 1) dX6_element_8 (by decide) ?_
    refine j_goto C0 43 dX6_element_9 (by decide) ?_
    refine p_Model_thrown C0 w_819 dX6_element_43 ?_
    refine j_aload_n C0 0 dX6_element_46 rfl rfl ?_
    refine g_Model_thrown C0 w_819 dX6_element_47 ?_
    refine j_if_ne C0 68 dX6_element_50 (by decide) (fun c_50 => ?_) (fun c_50 => ?_)
    · have hx : vp_in p0 8 ∧ vp_in p1 100 := by first | exact ⟨isShelfM_in c_5, sizeIn hI (vin_lt (isShelfM_in c_5)) c_35⟩ | (rw [up_eq] at c_50; exact absurd c_50 (by decide))
      refine j_aload_n C0 0 dX6_element_53 rfl rfl ?_
      refine g_Model_element C0 w_818 dX6_element_54 ?_
      refine j_bipush C0 (v := 100) dX6_element_57 (by decide) ?_
      refine j_iload_n C0 1 dX6_element_59 rfl rfl ?_
      refine j_imul C0 dX6_element_60 ?_
      refine j_iload_n C0 2 dX6_element_61 rfl rfl ?_
      refine j_iadd C0 dX6_element_62 ?_
      refine a_M C0 (by decide) (elt_in hx.1 hx.2) dX6_element_63 ?_
      refine j_i2l C0 dX6_element_64 ?_
      refine j_goto C0 69 dX6_element_65 (by decide) ?_
      exact j_lretM C0 hrt hlk dX6_element_69
    · refine j_lconst C0 (v := 0) dX6_element_68 (by decide) ?_
      exact j_lretM C0 hrt hlk dX6_element_69
  · have hv := isShelfM_in c_5
    refine j_aload_n C0 0 dX6_element_12 rfl rfl ?_
    refine g_Model_kept C0 w_813 dX6_element_13 ?_
    refine j_iload_n C0 1 dX6_element_16 rfl rfl ?_
    refine a_M C0 (by decide) hv dX6_element_17 ?_
    refine j_iconst C0 (v := 2) dX6_element_18 (by decide) ?_
    refine j_icmp_ne C0 38 dX6_element_19 (by decide) (fun c_19 => ?_) (fun c_19 => ?_)
    · refine j_iload_n C0 2 dX6_element_22 rfl rfl ?_
      refine j_iconst C0 (v := 0) dX6_element_23 (by decide) ?_
      refine j_aload_n C0 0 dX6_element_24 rfl rfl ?_
      refine g_Model_size C0 w_817 dX6_element_25 ?_
      refine j_iload_n C0 1 dX6_element_28 rfl rfl ?_
      refine a_M C0 (by decide) hv dX6_element_29 ?_
      refine j_iconst C0 (v := 1) dX6_element_30 (by decide) ?_
      refine j_isub C0 dX6_element_31 ?_
      refine j_callSi C0 (c_X6_isIn l z _ _ _ _) yk_X6_isIn w_872 ⟨Nat.le_of_ble_eq_true rfl, Nat.le_of_ble_eq_true rfl⟩ rfl rfl (Nat.le_of_ble_eq_true rfl) dX6_element_32 ?_
      refine j_if_ne C0 42 dX6_element_35 (by decide) (fun c_35 => ?_) (fun c_35 => ?_)
      · refine j_iconst C0 (v := 2) dX6_element_38 (by decide) ?_
        refine j_goto C0 43 dX6_element_39 (by decide) ?_
        refine p_Model_thrown C0 w_819 dX6_element_43 ?_
        refine j_aload_n C0 0 dX6_element_46 rfl rfl ?_
        refine g_Model_thrown C0 w_819 dX6_element_47 ?_
        refine j_if_ne C0 68 dX6_element_50 (by decide) (fun c_50 => ?_) (fun c_50 => ?_)
        · have hx : vp_in p0 8 ∧ vp_in p1 100 := by first | exact ⟨isShelfM_in c_5, sizeIn hI (vin_lt (isShelfM_in c_5)) c_35⟩ | (rw [up_eq] at c_50; exact absurd c_50 (by decide))
          refine j_aload_n C0 0 dX6_element_53 rfl rfl ?_
          refine g_Model_element C0 w_818 dX6_element_54 ?_
          refine j_bipush C0 (v := 100) dX6_element_57 (by decide) ?_
          refine j_iload_n C0 1 dX6_element_59 rfl rfl ?_
          refine j_imul C0 dX6_element_60 ?_
          refine j_iload_n C0 2 dX6_element_61 rfl rfl ?_
          refine j_iadd C0 dX6_element_62 ?_
          refine a_M C0 (by decide) (elt_in hx.1 hx.2) dX6_element_63 ?_
          refine j_i2l C0 dX6_element_64 ?_
          refine j_goto C0 69 dX6_element_65 (by decide) ?_
          exact j_lretM C0 hrt hlk dX6_element_69
        · refine j_lconst C0 (v := 0) dX6_element_68 (by decide) ?_
          exact j_lretM C0 hrt hlk dX6_element_69
      · refine j_iconst C0 (v := 0) dX6_element_42 (by decide) ?_
        refine p_Model_thrown C0 w_819 dX6_element_43 ?_
        refine j_aload_n C0 0 dX6_element_46 rfl rfl ?_
        refine g_Model_thrown C0 w_819 dX6_element_47 ?_
        refine j_if_ne C0 68 dX6_element_50 (by decide) (fun c_50 => ?_) (fun c_50 => ?_)
        · have hx : vp_in p0 8 ∧ vp_in p1 100 := by first | exact ⟨isShelfM_in c_5, sizeIn hI (vin_lt (isShelfM_in c_5)) c_35⟩ | (rw [up_eq] at c_50; exact absurd c_50 (by decide))
          refine j_aload_n C0 0 dX6_element_53 rfl rfl ?_
          refine g_Model_element C0 w_818 dX6_element_54 ?_
          refine j_bipush C0 (v := 100) dX6_element_57 (by decide) ?_
          refine j_iload_n C0 1 dX6_element_59 rfl rfl ?_
          refine j_imul C0 dX6_element_60 ?_
          refine j_iload_n C0 2 dX6_element_61 rfl rfl ?_
          refine j_iadd C0 dX6_element_62 ?_
          refine a_M C0 (by decide) (elt_in hx.1 hx.2) dX6_element_63 ?_
          refine j_i2l C0 dX6_element_64 ?_
          refine j_goto C0 69 dX6_element_65 (by decide) ?_
          exact j_lretM C0 hrt hlk dX6_element_69
        · refine j_lconst C0 (v := 0) dX6_element_68 (by decide) ?_
          exact j_lretM C0 hrt hlk dX6_element_69
    · refine j_iconst C0 (v := 2) dX6_element_38 (by decide) ?_
      refine j_goto C0 43 dX6_element_39 (by decide) ?_
      refine p_Model_thrown C0 w_819 dX6_element_43 ?_
      refine j_aload_n C0 0 dX6_element_46 rfl rfl ?_
      refine g_Model_thrown C0 w_819 dX6_element_47 ?_
      refine j_if_ne C0 68 dX6_element_50 (by decide) (fun c_50 => ?_) (fun c_50 => ?_)
      · have hx : vp_in p0 8 ∧ vp_in p1 100 := by first | exact ⟨isShelfM_in c_5, sizeIn hI (vin_lt (isShelfM_in c_5)) c_35⟩ | (rw [up_eq] at c_50; exact absurd c_50 (by decide))
        refine j_aload_n C0 0 dX6_element_53 rfl rfl ?_
        refine g_Model_element C0 w_818 dX6_element_54 ?_
        refine j_bipush C0 (v := 100) dX6_element_57 (by decide) ?_
        refine j_iload_n C0 1 dX6_element_59 rfl rfl ?_
        refine j_imul C0 dX6_element_60 ?_
        refine j_iload_n C0 2 dX6_element_61 rfl rfl ?_
        refine j_iadd C0 dX6_element_62 ?_
        refine a_M C0 (by decide) (elt_in hx.1 hx.2) dX6_element_63 ?_
        refine j_i2l C0 dX6_element_64 ?_
        refine j_goto C0 69 dX6_element_65 (by decide) ?_
        exact j_lretM C0 hrt hlk dX6_element_69
      · refine j_lconst C0 (v := 0) dX6_element_68 (by decide) ?_
        exact j_lretM C0 hrt hlk dX6_element_69
def f_X6_thrown (g : Mem)  : Int32 := (g 0 19)
theorem yk_X6_thrown : yokV yX6_thrown RX6 cX6_thrown 1 (some .int) 0 := ⟨w_1130, w_1128, w_1129, w_8, by decide +kernel⟩
set_option maxHeartbeats 4000000 in
set_option maxRecDepth 100000 in
theorem c_X6_thrown (l : Launch) (z : ZM) (g : Mem)  : ctM l yX6_thrown cX6_thrown 1 (some .int) 0 0 z g [.ref (yad z 0)] (qIM z (f_X6_thrown g, g)) := by
  refine ct_of (own := RX6) (q := fun r => qIM z (r, g)) (res := f_X6_thrown g) (lv := [(0, .ref (yad z 0))]) enokM rfl (by decide) (Nat.le_of_ble_eq_true rfl) rfl (fun p e s m args below meth c C0 hrt hlk => ?_)
  unfold f_X6_thrown
  refine j_aload_n C0 0 dX6_thrown_0 rfl rfl ?_
  refine g_Model_thrown C0 w_819 dX6_thrown_1 ?_
  exact j_iretP C0 hrt hlk dX6_thrown_4
def f_X6_cost (g : Mem) (p0 : Int32) : Int32 := if (f_X6_wrongKept g p0) = 0 then ((f_X6_costBy (g 9 (ix p0)) (g 10 (ix p0)))) else ((f_X6_wrongKept g p0))
theorem yk_X6_cost : yokV yX6_cost RX6 cX6_cost 3 (some .int) 1 := ⟨w_1154, w_1152, w_1153, w_8, by decide +kernel⟩
set_option maxHeartbeats 4000000 in
set_option maxRecDepth 100000 in
theorem c_X6_cost (l : Launch) (z : ZM) (g : Mem) (p0 : Int32) (hI : InM g) : ctM l yX6_cost cX6_cost 3 (some .int) 3 63 z g [.ref (yad z 0), .int p0] (qIM z (f_X6_cost g p0, g)) := by
  refine ct_of (own := RX6) (q := fun r => qIM z (r, g)) (res := f_X6_cost g p0) (lv := [(0, .ref (yad z 0)), (1, .int p0)]) enokM rfl (by decide) (Nat.le_of_ble_eq_true rfl) rfl (fun p e s m args below meth c C0 hrt hlk => ?_)
  unfold f_X6_cost
  refine j_aload_n C0 0 dX6_cost_0 rfl rfl ?_
  refine j_iload_n C0 1 dX6_cost_1 rfl rfl ?_
  refine j_callVi C0 (c_X6_wrongKept l z _ _ hI) yk_X6_wrongKept w_948 (fun H locs hP _ => recvW C0 hP 0 (by decide) celM_0 rfl) ⟨Nat.le_of_ble_eq_true rfl, Nat.le_of_ble_eq_true rfl⟩ rfl rfl (Nat.le_of_ble_eq_true rfl) dX6_cost_2 ?_
  refine j_istore_n C0 (lv' := [(2, _), (0, _), (1, _)]) dX6_cost_5 rfl (by decide) rfl ?_
  refine j_iload_n C0 0 dX6_cost_6 rfl rfl ?_
  refine j_if_eq C0 14 dX6_cost_7 (by decide) (fun c_7 => ?_) (fun c_7 => ?_)
  · have hv := wrongKept_in c_7
    refine j_aload_n C0 1 dX6_cost_14 rfl rfl ?_
    refine g_Model_keptKind C0 w_814 dX6_cost_15 ?_
    refine j_iload_n C0 2 dX6_cost_18 rfl rfl ?_
    refine a_M C0 (by decide) hv dX6_cost_19 ?_
    refine j_aload_n C0 1 dX6_cost_20 rfl rfl ?_
    refine g_Model_keptFigure C0 w_815 dX6_cost_21 ?_
    refine j_iload_n C0 2 dX6_cost_24 rfl rfl ?_
    refine a_M C0 (by decide) hv dX6_cost_25 ?_
    refine j_callSi C0 (c_X6_costBy l z _ _ _) yk_X6_costBy w_1155 ⟨Nat.le_of_ble_eq_true rfl, Nat.le_of_ble_eq_true rfl⟩ rfl rfl (Nat.le_of_ble_eq_true rfl) dX6_cost_26 ?_
    exact j_iretP C0 hrt hlk dX6_cost_29
  · refine j_iload_n C0 0 dX6_cost_10 rfl rfl ?_
    refine j_goto C0 29 dX6_cost_11 (by decide) ?_
    exact j_iretP C0 hrt hlk dX6_cost_29
def f_X6_toss (g : Mem) (p0 : Int32) : Int32 := if (f_X6_wrongKept g p0) = 0 then (if (g 9 (ix p0)) = (4 : Int32) then ((-15 : Int32)) else (if (g 9 (ix p0)) = (7 : Int32) then ((-15 : Int32)) else (if (g 10 (ix p0)) = 0 then ((-15 : Int32)) else (if (g 9 (ix p0)) = (5 : Int32) then (((200 : Int32) + (f_X6_costBy (g 9 (ix p0)) (g 10 (ix p0))))) else (if (g 9 (ix p0)) = (3 : Int32) then (((100 : Int32) + (g 10 (ix p0)))) else ((g 10 (ix p0)))))))) else ((f_X6_wrongKept g p0))
theorem yk_X6_toss : yokV yX6_toss RX6 cX6_toss 5 (some .int) 1 := ⟨w_1161, w_1159, w_1160, w_8, by decide +kernel⟩
set_option maxHeartbeats 4000000 in
set_option maxRecDepth 100000 in
theorem c_X6_toss (l : Launch) (z : ZM) (g : Mem) (p0 : Int32) (hI : InM g) : ctM l yX6_toss cX6_toss 5 (some .int) 3 63 z g [.ref (yad z 0), .int p0] (qIM z (f_X6_toss g p0, g)) := by
  refine ct_of (own := RX6) (q := fun r => qIM z (r, g)) (res := f_X6_toss g p0) (lv := [(0, .ref (yad z 0)), (1, .int p0)]) enokM rfl (by decide) (Nat.le_of_ble_eq_true rfl) rfl (fun p e s m args below meth c C0 hrt hlk => ?_)
  unfold f_X6_toss
  refine j_aload_n C0 0 dX6_toss_0 rfl rfl ?_
  refine j_iload_n C0 1 dX6_toss_1 rfl rfl ?_
  refine j_callVi C0 (c_X6_wrongKept l z _ _ hI) yk_X6_wrongKept w_948 (fun H locs hP _ => recvW C0 hP 0 (by decide) celM_0 rfl) ⟨Nat.le_of_ble_eq_true rfl, Nat.le_of_ble_eq_true rfl⟩ rfl rfl (Nat.le_of_ble_eq_true rfl) dX6_toss_2 ?_
  refine j_istore_n C0 (lv' := [(2, _), (0, _), (1, _)]) dX6_toss_5 rfl (by decide) rfl ?_
  refine j_iload_n C0 0 dX6_toss_6 rfl rfl ?_
  refine j_if_eq C0 12 dX6_toss_7 (by decide) (fun c_7 => ?_) (fun c_7 => ?_)
  · have hv := wrongKept_in c_7
    refine j_aload_n C0 1 dX6_toss_12 rfl rfl ?_
    refine g_Model_keptKind C0 w_814 dX6_toss_13 ?_
    refine j_iload_n C0 2 dX6_toss_16 rfl rfl ?_
    refine a_M C0 (by decide) hv dX6_toss_17 ?_
    refine j_istore_n C0 (lv' := [(3, _), (2, _), (0, _), (1, _)]) dX6_toss_18 rfl (by decide) rfl ?_
    refine j_aload_n C0 2 dX6_toss_19 rfl rfl ?_
    refine g_Model_keptFigure C0 w_815 dX6_toss_20 ?_
    refine j_iload_n C0 3 dX6_toss_23 rfl rfl ?_
    refine a_M C0 (by decide) hv dX6_toss_24 ?_
    refine j_istore C0 (lv' := [(4, _), (3, _), (2, _), (0, _), (1, _)]) dX6_toss_25 (by decide) rfl ?_
    refine j_iload_n C0 1 dX6_toss_27 rfl rfl ?_
    refine j_iconst C0 (v := 4) dX6_toss_28 (by decide) ?_
    refine j_icmp_eq C0 43 dX6_toss_29 (by decide) (fun c_29 => ?_) (fun c_29 => ?_)
    · refine j_bipush C0 (v := (-15)) dX6_toss_43 (by decide) ?_
      exact j_iretP C0 hrt hlk dX6_toss_45
    · refine j_iload_n C0 1 dX6_toss_32 rfl rfl ?_
      refine j_bipush C0 (v := 7) dX6_toss_33 (by decide) ?_
      refine j_icmp_eq C0 43 dX6_toss_35 (by decide) (fun c_35 => ?_) (fun c_35 => ?_)
      · refine j_bipush C0 (v := (-15)) dX6_toss_43 (by decide) ?_
        exact j_iretP C0 hrt hlk dX6_toss_45
      · refine j_iload C0 0 dX6_toss_38 rfl ?_
        refine j_if_ne C0 46 dX6_toss_40 (by decide) (fun c_40 => ?_) (fun c_40 => ?_)
        · refine j_bipush C0 (v := (-15)) dX6_toss_43 (by decide) ?_
          exact j_iretP C0 hrt hlk dX6_toss_45
        · refine j_iload_n C0 1 dX6_toss_46 rfl rfl ?_
          refine j_iconst C0 (v := 5) dX6_toss_47 (by decide) ?_
          refine j_icmp_ne C0 64 dX6_toss_48 (by decide) (fun c_48 => ?_) (fun c_48 => ?_)
          · refine j_sipush C0 (v := 200) dX6_toss_51 (by decide) ?_
            refine j_iload_n C0 1 dX6_toss_54 rfl rfl ?_
            refine j_iload C0 0 dX6_toss_55 rfl ?_
            refine j_callSi C0 (c_X6_costBy l z _ _ _) yk_X6_costBy w_1155 ⟨Nat.le_of_ble_eq_true rfl, Nat.le_of_ble_eq_true rfl⟩ rfl rfl (Nat.le_of_ble_eq_true rfl) dX6_toss_57 ?_
            refine j_iadd C0 dX6_toss_60 ?_
            refine j_goto C0 79 dX6_toss_61 (by decide) ?_
            exact j_iretP C0 hrt hlk dX6_toss_79
          · refine j_iload_n C0 1 dX6_toss_64 rfl rfl ?_
            refine j_iconst C0 (v := 3) dX6_toss_65 (by decide) ?_
            refine j_icmp_ne C0 77 dX6_toss_66 (by decide) (fun c_66 => ?_) (fun c_66 => ?_)
            · refine j_bipush C0 (v := 100) dX6_toss_69 (by decide) ?_
              refine j_iload C0 0 dX6_toss_71 rfl ?_
              refine j_iadd C0 dX6_toss_73 ?_
              refine j_goto C0 79 dX6_toss_74 (by decide) ?_
              exact j_iretP C0 hrt hlk dX6_toss_79
            · refine j_iload C0 0 dX6_toss_77 rfl ?_
              exact j_iretP C0 hrt hlk dX6_toss_79
  · refine j_iload_n C0 0 dX6_toss_10 rfl rfl ?_
    exact j_iretP C0 hrt hlk dX6_toss_11
def f_X6_copy_122 (g : Mem) (p0 p1 p2 p3 p4 : Int32) : Nat → Int32 → Mem → Int32 × Mem
  | 0, _, _ => (0, g)
  | n0 + 1, a6, g_122 => if p4 ≤ a6 then ((p4, g_122)) else (if p1 ≤ p3 then (f_X6_copy_122 g p0 p1 p2 p3 p4 n0 (a6 + (1 : Int32)) (up g_122 13 (ix ((((100 : Int32) * p2) + p3) + ((p4 - (1 : Int32)) - a6))) (g_122 13 (ix ((((100 : Int32) * p0) + p1) + ((p4 - (1 : Int32)) - a6)))))) else (f_X6_copy_122 g p0 p1 p2 p3 p4 n0 (a6 + (1 : Int32)) (up g_122 13 (ix ((((100 : Int32) * p2) + p3) + a6)) (g_122 13 (ix ((((100 : Int32) * p0) + p1) + a6))))))
def f_X6_copy (g : Mem) (p0 p1 p2 p3 p4 : Int32) : Int32 × Mem := if (f_X6_isShelf p0) = 0 then (((-1 : Int32), g)) else (if (f_X6_isShelf p2) = 0 then (((-1 : Int32), g)) else (if (g 8 (ix p0)) = 0 then (((-11 : Int32), g)) else (if (g 8 (ix p2)) = 0 then (((-11 : Int32), g)) else (if (g 8 (ix p0)) = (2 : Int32) then (if (g 8 (ix p2)) = (2 : Int32) then (if (g 11 (ix p0)) = (g 11 (ix p2)) then (if p4 < 0 then (((-13 : Int32), g)) else (if p1 < 0 then (((-13 : Int32), g)) else (if p3 < 0 then (((-13 : Int32), g)) else (if ((g 12 (ix p0)) - p1) < p4 then (((-13 : Int32), g)) else (if p4 ≤ ((g 12 (ix p2)) - p3) then (f_X6_copy_122 g p0 p1 p2 p3 p4 101 (0 : Int32) g) else (((-13 : Int32), g))))))) else (((-12 : Int32), g))) else (((-12 : Int32), g))) else (((-12 : Int32), g))))))
def r_X6_copy (g : Mem) (p0 p1 p2 p3 p4 : Int32) : Int32 := (f_X6_copy g p0 p1 p2 p3 p4).1
def m_X6_copy (g : Mem) (p0 p1 p2 p3 p4 : Int32) : Mem := (f_X6_copy g p0 p1 p2 p3 p4).2
theorem e_X6_copy (g : Mem) (p0 p1 p2 p3 p4 : Int32) : (r_X6_copy g p0 p1 p2 p3 p4, m_X6_copy g p0 p1 p2 p3 p4) = f_X6_copy g p0 p1 p2 p3 p4 := by unfold r_X6_copy m_X6_copy; exact pmk_eta _
theorem yk_X6_copy : yokV yX6_copy RX6 cX6_copy 8 (some .int) 5 := ⟨w_1150, w_1148, w_1149, w_8, by decide +kernel⟩
set_option maxHeartbeats 4000000 in
set_option maxRecDepth 100000 in
theorem c_X6_copy (l : Launch) (z : ZM) (g : Mem) (p0 p1 p2 p3 p4 : Int32) (hI : InM g) : ctM l yX6_copy cX6_copy 8 (some .int) 2 42 z g [.ref (yad z 0), .int p0, .int p1, .int p2, .int p3, .int p4] (qIM z (r_X6_copy g p0 p1 p2 p3 p4, m_X6_copy g p0 p1 p2 p3 p4)) := by
  rw [e_X6_copy]
  refine ct_of (own := RX6) (q := fun r => qIM z r) (res := f_X6_copy g p0 p1 p2 p3 p4) (lv := [(0, .ref (yad z 0)), (1, .int p0), (2, .int p1), (3, .int p2), (4, .int p3), (5, .int p4)]) enokM rfl (by decide) (Nat.le_of_ble_eq_true rfl) rfl (fun p e s m args below meth c C0 hrt hlk => ?_)
  unfold f_X6_copy
  refine j_iload_n C0 1 dX6_copy_0 rfl rfl ?_
  refine j_callSi C0 (c_X6_isShelf l z _ _) yk_X6_isShelf w_869 ⟨Nat.le_of_ble_eq_true rfl, Nat.le_of_ble_eq_true rfl⟩ rfl rfl (Nat.le_of_ble_eq_true rfl) dX6_copy_1 ?_
  refine j_if_eq C0 14 dX6_copy_4 (by decide) (fun c_4 => ?_) (fun c_4 => ?_)
  · refine j_iconst C0 (v := (-1)) dX6_copy_14 (by decide) ?_
    exact j_iretM C0 hrt hlk dX6_copy_15
  · have hv := isShelfM_in c_4
    refine j_iload_n C0 3 dX6_copy_7 rfl rfl ?_
    refine j_callSi C0 (c_X6_isShelf l z _ _) yk_X6_isShelf w_869 ⟨Nat.le_of_ble_eq_true rfl, Nat.le_of_ble_eq_true rfl⟩ rfl rfl (Nat.le_of_ble_eq_true rfl) dX6_copy_8 ?_
    refine j_if_ne C0 16 dX6_copy_11 (by decide) (fun c_11 => ?_) (fun c_11 => ?_)
    · refine j_iconst C0 (v := (-1)) dX6_copy_14 (by decide) ?_
      exact j_iretM C0 hrt hlk dX6_copy_15
    · have hv2 := isShelfM_in c_11
      refine j_aload_n C0 0 dX6_copy_16 rfl rfl ?_
      refine g_Model_kept C0 w_813 dX6_copy_17 ?_
      refine j_iload_n C0 1 dX6_copy_20 rfl rfl ?_
      refine a_M C0 (by decide) hv dX6_copy_21 ?_
      refine j_if_eq C0 34 dX6_copy_22 (by decide) (fun c_22 => ?_) (fun c_22 => ?_)
      · refine j_bipush C0 (v := (-11)) dX6_copy_34 (by decide) ?_
        exact j_iretM C0 hrt hlk dX6_copy_36
      · refine j_aload_n C0 0 dX6_copy_25 rfl rfl ?_
        refine g_Model_kept C0 w_813 dX6_copy_26 ?_
        refine j_iload_n C0 3 dX6_copy_29 rfl rfl ?_
        refine a_M C0 (by decide) hv2 dX6_copy_30 ?_
        refine j_if_ne C0 37 dX6_copy_31 (by decide) (fun c_31 => ?_) (fun c_31 => ?_)
        · refine j_bipush C0 (v := (-11)) dX6_copy_34 (by decide) ?_
          exact j_iretM C0 hrt hlk dX6_copy_36
        · refine j_aload_n C0 0 dX6_copy_37 rfl rfl ?_
          refine g_Model_kept C0 w_813 dX6_copy_38 ?_
          refine j_iload_n C0 1 dX6_copy_41 rfl rfl ?_
          refine a_M C0 (by decide) hv dX6_copy_42 ?_
          refine j_iconst C0 (v := 2) dX6_copy_43 (by decide) ?_
          refine j_icmp_ne C0 72 dX6_copy_44 (by decide) (fun c_44 => ?_) (fun c_44 => ?_)
          · refine j_aload_n C0 0 dX6_copy_47 rfl rfl ?_
            refine g_Model_kept C0 w_813 dX6_copy_48 ?_
            refine j_iload_n C0 3 dX6_copy_51 rfl rfl ?_
            refine a_M C0 (by decide) hv2 dX6_copy_52 ?_
            refine j_iconst C0 (v := 2) dX6_copy_53 (by decide) ?_
            refine j_icmp_ne C0 72 dX6_copy_54 (by decide) (fun c_54 => ?_) (fun c_54 => ?_)
            · refine j_aload_n C0 0 dX6_copy_57 rfl rfl ?_
              refine g_Model_sort C0 w_816 dX6_copy_58 ?_
              refine j_iload_n C0 1 dX6_copy_61 rfl rfl ?_
              refine a_M C0 (by decide) hv dX6_copy_62 ?_
              refine j_aload_n C0 0 dX6_copy_63 rfl rfl ?_
              refine g_Model_sort C0 w_816 dX6_copy_64 ?_
              refine j_iload_n C0 3 dX6_copy_67 rfl rfl ?_
              refine a_M C0 (by decide) hv2 dX6_copy_68 ?_
              refine j_icmp_eq C0 75 dX6_copy_69 (by decide) (fun c_69 => ?_) (fun c_69 => ?_)
              · refine j_iload C0 5 dX6_copy_75 rfl ?_
                refine j_if_lt C0 116 dX6_copy_77 (by decide) (fun c_77 => ?_) (fun c_77 => ?_)
                · refine j_bipush C0 (v := (-13)) dX6_copy_116 (by decide) ?_
                  exact j_iretM C0 hrt hlk dX6_copy_118
                · refine j_iload_n C0 2 dX6_copy_80 rfl rfl ?_
                  refine j_if_lt C0 116 dX6_copy_81 (by decide) (fun c_81 => ?_) (fun c_81 => ?_)
                  · refine j_bipush C0 (v := (-13)) dX6_copy_116 (by decide) ?_
                    exact j_iretM C0 hrt hlk dX6_copy_118
                  · refine j_iload C0 4 dX6_copy_84 rfl ?_
                    refine j_if_lt C0 116 dX6_copy_86 (by decide) (fun c_86 => ?_) (fun c_86 => ?_)
                    · refine j_bipush C0 (v := (-13)) dX6_copy_116 (by decide) ?_
                      exact j_iretM C0 hrt hlk dX6_copy_118
                    · refine j_iload C0 5 dX6_copy_89 rfl ?_
                      refine j_aload_n C0 0 dX6_copy_91 rfl rfl ?_
                      refine g_Model_size C0 w_817 dX6_copy_92 ?_
                      refine j_iload_n C0 1 dX6_copy_95 rfl rfl ?_
                      refine a_M C0 (by decide) hv dX6_copy_96 ?_
                      refine j_iload_n C0 2 dX6_copy_97 rfl rfl ?_
                      refine j_isub C0 dX6_copy_98 ?_
                      refine j_icmp_gt C0 116 dX6_copy_99 (by decide) (fun c_99 => ?_) (fun c_99 => ?_)
                      · refine j_bipush C0 (v := (-13)) dX6_copy_116 (by decide) ?_
                        exact j_iretM C0 hrt hlk dX6_copy_118
                      · refine j_iload C0 5 dX6_copy_102 rfl ?_
                        refine j_aload_n C0 0 dX6_copy_104 rfl rfl ?_
                        refine g_Model_size C0 w_817 dX6_copy_105 ?_
                        refine j_iload_n C0 3 dX6_copy_108 rfl rfl ?_
                        refine a_M C0 (by decide) hv2 dX6_copy_109 ?_
                        refine j_iload C0 4 dX6_copy_110 rfl ?_
                        refine j_isub C0 dX6_copy_112 ?_
                        refine j_icmp_le C0 119 dX6_copy_113 (by decide) (fun c_113 => ?_) (fun c_113 => ?_)
                        · have hcp := copyM_in (InM_len hI (vin_lt hv)) (InM_len0 hI (vin_lt hv)) (InM_len hI (vin_lt hv2)) (InM_len0 hI (vin_lt hv2)) c_77 c_81 c_86 c_99 c_113
                          refine j_iconst C0 (v := 0) dX6_copy_119 (by decide) ?_
                          refine j_istore C0 (lv' := [(6, _), (0, _), (1, _), (2, _), (3, _), (4, _), (5, _)]) dX6_copy_120 (by decide) rfl ?_
                          have L122 : ∀ (n0 : Nat) (a6 : Int32) (g_122 : Mem), lc a6 p4 n0 → jj p l e { frames := 2, cells := 0, slots := 0, locals := 42 } s m args below meth c (yA z) (yD z) 14 (yad z) (celM z) 8 (fun r => MQ below (qIM z r) args s 0 0 (yA z)) (f_X6_copy_122 g p0 p1 p2 p3 p4 n0 a6 g_122) g_122 122 [(0, .ref (yad z 0)), (1, .int p0), (2, .int p1), (3, .int p2), (4, .int p3), (5, .int p4), (6, .int a6)] [] := by
                            intro n0
                            induction n0 with
                            | zero => intro a6 g_122 hL; exact absurd hL.2 (Nat.not_lt_zero _)
                            | succ n0 ih0 =>
                              intro a6 g_122 hL
                              rw [f_X6_copy_122]
                              refine j_iload C0 6 dX6_copy_122 rfl ?_
                              refine j_iload C0 5 dX6_copy_124 rfl ?_
                              refine j_icmp_ge C0 184 dX6_copy_126 (by decide) (fun c_126 => ?_) (fun c_126 => ?_)
                              · refine j_iload C0 5 dX6_copy_184 rfl ?_
                                exact j_iretM C0 hrt hlk dX6_copy_186
                              · have hcs := copyStep hcp hL c_126
                                refine j_iload_n C0 2 dX6_copy_129 rfl rfl ?_
                                refine j_iload C0 4 dX6_copy_130 rfl ?_
                                refine j_icmp_le C0 140 dX6_copy_132 (by decide) (fun c_132 => ?_) (fun c_132 => ?_)
                                · refine j_iload C0 5 dX6_copy_140 rfl ?_
                                  refine j_iconst C0 (v := 1) dX6_copy_142 (by decide) ?_
                                  refine j_isub C0 dX6_copy_143 ?_
                                  refine j_iload C0 6 dX6_copy_144 rfl ?_
                                  refine j_isub C0 dX6_copy_146 ?_
                                  refine j_istore C0 (lv' := [(7, _), (0, _), (1, _), (2, _), (3, _), (4, _), (5, _), (6, _)]) dX6_copy_147 (by decide) rfl ?_
                                  refine j_aload_n C0 1 dX6_copy_149 rfl rfl ?_
                                  refine g_Model_element C0 w_818 dX6_copy_150 ?_
                                  refine j_bipush C0 (v := 100) dX6_copy_153 (by decide) ?_
                                  refine j_iload_n C0 4 dX6_copy_155 rfl rfl ?_
                                  refine j_imul C0 dX6_copy_156 ?_
                                  refine j_iload C0 5 dX6_copy_157 rfl ?_
                                  refine j_iadd C0 dX6_copy_159 ?_
                                  refine j_iload C0 0 dX6_copy_160 rfl ?_
                                  refine j_iadd C0 dX6_copy_162 ?_
                                  refine j_aload_n C0 1 dX6_copy_163 rfl rfl ?_
                                  refine g_Model_element C0 w_818 dX6_copy_164 ?_
                                  refine j_bipush C0 (v := 100) dX6_copy_167 (by decide) ?_
                                  refine j_iload_n C0 2 dX6_copy_169 rfl rfl ?_
                                  refine j_imul C0 dX6_copy_170 ?_
                                  refine j_iload_n C0 3 dX6_copy_171 rfl rfl ?_
                                  refine j_iadd C0 dX6_copy_172 ?_
                                  refine j_iload C0 0 dX6_copy_173 rfl ?_
                                  refine j_iadd C0 dX6_copy_175 ?_
                                  refine a_M C0 (by decide) (elt_in2 hv hcs.2.2.1) dX6_copy_176 ?_
                                  refine s_M C0 (by decide) (elt_in2 hv2 hcs.2.2.2) dX6_copy_177 ?_
                                  refine j_iinc C0 (lv' := [(6, _), (7, _), (0, _), (1, _), (2, _), (3, _), (4, _), (5, _)]) (v := _ + (1)) 7 dX6_copy_178 rfl (by rfl) (by decide) rfl ?_
                                  refine j_goto C0 122 dX6_copy_181 (by decide) ?_
                                  exact j_sub [2, 3, 4, 5, 6, 7, 0] rfl (ih0 _ _ (lc_stepN hL c_126))
                                · refine j_iload C0 6 dX6_copy_135 rfl ?_
                                  refine j_goto C0 147 dX6_copy_137 (by decide) ?_
                                  refine j_istore C0 (lv' := [(7, _), (0, _), (1, _), (2, _), (3, _), (4, _), (5, _), (6, _)]) dX6_copy_147 (by decide) rfl ?_
                                  refine j_aload_n C0 1 dX6_copy_149 rfl rfl ?_
                                  refine g_Model_element C0 w_818 dX6_copy_150 ?_
                                  refine j_bipush C0 (v := 100) dX6_copy_153 (by decide) ?_
                                  refine j_iload_n C0 4 dX6_copy_155 rfl rfl ?_
                                  refine j_imul C0 dX6_copy_156 ?_
                                  refine j_iload C0 5 dX6_copy_157 rfl ?_
                                  refine j_iadd C0 dX6_copy_159 ?_
                                  refine j_iload C0 0 dX6_copy_160 rfl ?_
                                  refine j_iadd C0 dX6_copy_162 ?_
                                  refine j_aload_n C0 1 dX6_copy_163 rfl rfl ?_
                                  refine g_Model_element C0 w_818 dX6_copy_164 ?_
                                  refine j_bipush C0 (v := 100) dX6_copy_167 (by decide) ?_
                                  refine j_iload_n C0 2 dX6_copy_169 rfl rfl ?_
                                  refine j_imul C0 dX6_copy_170 ?_
                                  refine j_iload_n C0 3 dX6_copy_171 rfl rfl ?_
                                  refine j_iadd C0 dX6_copy_172 ?_
                                  refine j_iload C0 0 dX6_copy_173 rfl ?_
                                  refine j_iadd C0 dX6_copy_175 ?_
                                  refine a_M C0 (by decide) (elt_in2 hv hcs.1) dX6_copy_176 ?_
                                  refine s_M C0 (by decide) (elt_in2 hv2 hcs.2.1) dX6_copy_177 ?_
                                  refine j_iinc C0 (lv' := [(6, _), (7, _), (0, _), (1, _), (2, _), (3, _), (4, _), (5, _)]) (v := _ + (1)) 7 dX6_copy_178 rfl (by rfl) (by decide) rfl ?_
                                  refine j_goto C0 122 dX6_copy_181 (by decide) ?_
                                  exact j_sub [2, 3, 4, 5, 6, 7, 0] rfl (ih0 _ _ (lc_stepN hL c_126))
                          exact j_sub [1, 2, 3, 4, 5, 6, 0] rfl (L122 101 _ _ (lc_0 (by have := hcp.2.2.2.2.1; omega) (by decide)))
                        · refine j_bipush C0 (v := (-13)) dX6_copy_116 (by decide) ?_
                          exact j_iretM C0 hrt hlk dX6_copy_118
              · refine j_bipush C0 (v := (-12)) dX6_copy_72 (by decide) ?_
                exact j_iretM C0 hrt hlk dX6_copy_74
            · refine j_bipush C0 (v := (-12)) dX6_copy_72 (by decide) ?_
              exact j_iretM C0 hrt hlk dX6_copy_74
          · refine j_bipush C0 (v := (-12)) dX6_copy_72 (by decide) ?_
            exact j_iretM C0 hrt hlk dX6_copy_74
def f_X6_image (g : Mem)  : Int32 × Mem := (((up (f_X6_copies g 1 3) 0 4 (1 : Int32)) 1 2), (up (f_X6_copies g 1 3) 0 4 (1 : Int32)))
def r_X6_image (g : Mem)  : Int32 := (f_X6_image g).1
def m_X6_image (g : Mem)  : Mem := (f_X6_image g).2
theorem e_X6_image (g : Mem)  : (r_X6_image g, m_X6_image g) = f_X6_image g := by unfold r_X6_image m_X6_image; exact pmk_eta _
theorem yk_X6_image : yokV yX6_image RX6 cX6_image 1 (some .int) 0 := ⟨w_1118, w_1116, w_1117, w_8, by decide +kernel⟩
set_option maxHeartbeats 4000000 in
set_option maxRecDepth 100000 in
theorem c_X6_image (l : Launch) (z : ZM) (g : Mem) (hI : InM g) : ctM l yX6_image cX6_image 1 (some .int) 1 22 z g [.ref (yad z 0)] (qIM z (r_X6_image g, m_X6_image g)) := by
  rw [e_X6_image]
  refine ct_of (own := RX6) (q := fun r => qIM z r) (res := f_X6_image g) (lv := [(0, .ref (yad z 0))]) enokM rfl (by decide) (Nat.le_of_ble_eq_true rfl) rfl (fun p e s m args below meth c C0 hrt hlk => ?_)
  unfold f_X6_image
  refine j_aload_n C0 0 dX6_image_0 rfl rfl ?_
  refine g_Model_s C0 w_800 dX6_image_1 ?_
  refine j_aload_n C0 0 dX6_image_4 rfl rfl ?_
  refine g_Model_image C0 w_802 dX6_image_5 ?_
  refine j_callSv C0 (c_X6_copies l z _ 1 rw4_1 3 rw4_3) yk_X6_copies w_887 ⟨Nat.le_of_ble_eq_true rfl, Nat.le_of_ble_eq_true rfl⟩ rfl rfl (Nat.le_of_ble_eq_true rfl) dX6_image_8 ?_
  refine j_aload_n C0 0 dX6_image_11 rfl rfl ?_
  refine j_iconst C0 (v := 1) dX6_image_12 (by decide) ?_
  refine p_Model_hasImage C0 (Or.inr rfl) w_804 dX6_image_13 ?_
  refine j_aload_n C0 0 dX6_image_16 rfl rfl ?_
  refine g_Model_s C0 w_800 dX6_image_17 ?_
  refine j_iconst C0 (v := 2) dX6_image_20 (by decide) ?_
  refine a_Ml C0 (by decide) ixl_2 vl57_2 dX6_image_21 ?_
  exact j_iretM C0 hrt hlk dX6_image_22
def f_X6_restore (g : Mem)  : Int32 × Mem := if (g 0 4) = 0 then (((-3 : Int32), g)) else ((((f_X6_copies g 3 1) 1 2), (f_X6_copies g 3 1)))
def r_X6_restore (g : Mem)  : Int32 := (f_X6_restore g).1
def m_X6_restore (g : Mem)  : Mem := (f_X6_restore g).2
theorem e_X6_restore (g : Mem)  : (r_X6_restore g, m_X6_restore g) = f_X6_restore g := by unfold r_X6_restore m_X6_restore; exact pmk_eta _
theorem yk_X6_restore : yokV yX6_restore RX6 cX6_restore 1 (some .int) 0 := ⟨w_1122, w_1120, w_1121, w_8, by decide +kernel⟩
set_option maxHeartbeats 4000000 in
set_option maxRecDepth 100000 in
theorem c_X6_restore (l : Launch) (z : ZM) (g : Mem) (hI : InM g) : ctM l yX6_restore cX6_restore 1 (some .int) 1 22 z g [.ref (yad z 0)] (qIM z (r_X6_restore g, m_X6_restore g)) := by
  rw [e_X6_restore]
  refine ct_of (own := RX6) (q := fun r => qIM z r) (res := f_X6_restore g) (lv := [(0, .ref (yad z 0))]) enokM rfl (by decide) (Nat.le_of_ble_eq_true rfl) rfl (fun p e s m args below meth c C0 hrt hlk => ?_)
  unfold f_X6_restore
  refine j_aload_n C0 0 dX6_restore_0 rfl rfl ?_
  refine g_Model_hasImage C0 w_804 dX6_restore_1 ?_
  refine j_if_ne C0 10 dX6_restore_4 (by decide) (fun c_4 => ?_) (fun c_4 => ?_)
  · refine j_bipush C0 (v := (-3)) dX6_restore_7 (by decide) ?_
    exact j_iretM C0 hrt hlk dX6_restore_9
  · refine j_aload_n C0 0 dX6_restore_10 rfl rfl ?_
    refine g_Model_image C0 w_802 dX6_restore_11 ?_
    refine j_aload_n C0 0 dX6_restore_14 rfl rfl ?_
    refine g_Model_s C0 w_800 dX6_restore_15 ?_
    refine j_callSv C0 (c_X6_copies l z _ 3 rw4_3 1 rw4_1) yk_X6_copies w_887 ⟨Nat.le_of_ble_eq_true rfl, Nat.le_of_ble_eq_true rfl⟩ rfl rfl (Nat.le_of_ble_eq_true rfl) dX6_restore_18 ?_
    refine j_aload_n C0 0 dX6_restore_21 rfl rfl ?_
    refine g_Model_s C0 w_800 dX6_restore_22 ?_
    refine j_iconst C0 (v := 2) dX6_restore_25 (by decide) ?_
    refine a_Ml C0 (by decide) ixl_2 vl57_2 dX6_restore_26 ?_
    exact j_iretM C0 hrt hlk dX6_restore_27
