def f_X5_image (g : Mem)  : Int32 × Mem := (((up (f_X0_becomes g 1 0) 46 5 (1 : Int32)) 40 3), (up (f_X0_becomes g 1 0) 46 5 (1 : Int32)))
def r_X5_image (g : Mem)  : Int32 := (f_X5_image g).1
def m_X5_image (g : Mem)  : Mem := (f_X5_image g).2
theorem e_X5_image (g : Mem)  : (r_X5_image g, m_X5_image g) = f_X5_image g := by unfold r_X5_image m_X5_image; exact pmk_eta _
theorem yk_X5_image : yokV yX5_image RX5 cX5_image 1 (some .int) 0 := ⟨w_602, w_600, w_601, w_1, by decide +kernel⟩
set_option maxHeartbeats 4000000 in
set_option maxRecDepth 100000 in
theorem c_X5_image (l : Launch) (z : ZC) (g : Mem) (hI : In g) : ctC l yX5_image cX5_image 1 (some .int) 2 43 z g [.ref (zad z 46)] (qIC z (r_X5_image g, m_X5_image g)) := by
  rw [e_X5_image]
  refine ct_of (own := RX5) (q := fun r => qIC z r) (res := f_X5_image g) (lv := [(0, .ref (zad z 46))]) (enokC z) rfl (by decide) (Nat.le_of_ble_eq_true rfl) rfl (fun p e s m args below meth c C0 hrt hlk => ?_)
  unfold f_X5_image
  refine j_aload_n C0 0 dX5_image_0 rfl rfl ?_
  refine g_Cakes_imageOfAll C0 w_158 dX5_image_1 ?_
  refine j_aload_n C0 0 dX5_image_4 rfl rfl ?_
  refine g_Cakes_now C0 w_157 dX5_image_5 ?_
  refine j_callVv C0 (c_X0_becomes l z _ 1 lt3_1 0 lt3_0 hI) yk_X0_becomes w_211 (fun H locs hP _ => recvW C0 hP _ (by have := lt3_1; omega) (cel_fete lt3_1) rfl) ⟨Nat.le_of_ble_eq_true rfl, Nat.le_of_ble_eq_true rfl⟩ rfl rfl (Nat.le_of_ble_eq_true rfl) dX5_image_8 ?_
  refine j_aload_n C0 0 dX5_image_11 rfl rfl ?_
  refine j_iconst C0 (v := 1) dX5_image_12 (by decide) ?_
  refine p_Cakes_hasImage C0 (Or.inr rfl) w_161 dX5_image_13 ?_
  refine j_aload_n C0 0 dX5_image_16 rfl rfl ?_
  refine g_Cakes_now C0 w_157 dX5_image_17 ?_
  refine g_Fete_step C0 lt3_0 w_90 dX5_image_20 ?_
  exact j_iretM C0 hrt hlk dX5_image_23
def f_X5_restore (g : Mem)  : Int32 × Mem := if (g 46 5) = 0 then (((-3 : Int32), g)) else ((((f_X0_becomes g 0 1) 40 3), (f_X0_becomes g 0 1)))
def r_X5_restore (g : Mem)  : Int32 := (f_X5_restore g).1
def m_X5_restore (g : Mem)  : Mem := (f_X5_restore g).2
theorem e_X5_restore (g : Mem)  : (r_X5_restore g, m_X5_restore g) = f_X5_restore g := by unfold r_X5_restore m_X5_restore; exact pmk_eta _
theorem yk_X5_restore : yokV yX5_restore RX5 cX5_restore 1 (some .int) 0 := ⟨w_606, w_604, w_605, w_1, by decide +kernel⟩
set_option maxHeartbeats 4000000 in
set_option maxRecDepth 100000 in
theorem c_X5_restore (l : Launch) (z : ZC) (g : Mem) (hI : In g) : ctC l yX5_restore cX5_restore 1 (some .int) 2 43 z g [.ref (zad z 46)] (qIC z (r_X5_restore g, m_X5_restore g)) := by
  rw [e_X5_restore]
  refine ct_of (own := RX5) (q := fun r => qIC z r) (res := f_X5_restore g) (lv := [(0, .ref (zad z 46))]) (enokC z) rfl (by decide) (Nat.le_of_ble_eq_true rfl) rfl (fun p e s m args below meth c C0 hrt hlk => ?_)
  unfold f_X5_restore
  refine j_aload_n C0 0 dX5_restore_0 rfl rfl ?_
  refine g_Cakes_hasImage C0 w_161 dX5_restore_1 ?_
  refine j_if_ne C0 10 dX5_restore_4 (by decide) (fun c_4 => ?_) (fun c_4 => ?_)
  · refine j_bipush C0 (v := (-3)) dX5_restore_7 (by decide) ?_
    exact j_iretM C0 hrt hlk dX5_restore_9
  · refine j_aload_n C0 0 dX5_restore_10 rfl rfl ?_
    refine g_Cakes_now C0 w_157 dX5_restore_11 ?_
    refine j_aload_n C0 0 dX5_restore_14 rfl rfl ?_
    refine g_Cakes_imageOfAll C0 w_158 dX5_restore_15 ?_
    refine j_callVv C0 (c_X0_becomes l z _ 0 lt3_0 1 lt3_1 hI) yk_X0_becomes w_211 (fun H locs hP _ => recvW C0 hP _ (by have := lt3_0; omega) (cel_fete lt3_0) rfl) ⟨Nat.le_of_ble_eq_true rfl, Nat.le_of_ble_eq_true rfl⟩ rfl rfl (Nat.le_of_ble_eq_true rfl) dX5_restore_18 ?_
    refine j_aload_n C0 0 dX5_restore_21 rfl rfl ?_
    refine g_Cakes_now C0 w_157 dX5_restore_22 ?_
    refine g_Fete_step C0 lt3_0 w_90 dX5_restore_25 ?_
    exact j_iretM C0 hrt hlk dX5_restore_28
def f_X5_count (g : Mem) (p0 : Int32) : Int32 := if p0 = 0 then ((g 40 1)) else (if p0 = 1 then ((g 40 2)) else (if p0 = 2 then ((g 40 3)) else (if p0 = 3 then ((f_X0_allHunger g 0)) else (if p0 = 4 then ((f_X0_allWish g 0)) else (if p0 = 5 then ((f_X0_allEaten g 0)) else (if p0 = 6 then ((f_X0_whoHasHadNone g 0)) else ((-1 : Int32))))))))
theorem yk_X5_count : yokV yX5_count RX5 cX5_count 2 (some .int) 1 := ⟨w_610, w_608, w_609, w_1, by decide +kernel⟩
set_option maxHeartbeats 4000000 in
set_option maxRecDepth 100000 in
theorem c_X5_count (l : Launch) (z : ZC) (g : Mem) (p0 : Int32) (hI : In g) : ctC l yX5_count cX5_count 2 (some .int) 1 22 z g [.ref (zad z 46), .int p0] (qIC z (f_X5_count g p0, g)) := by
  refine ct_of (own := RX5) (q := fun r => qIC z (r, g)) (res := f_X5_count g p0) (lv := [(0, .ref (zad z 46)), (1, .int p0)]) (enokC z) rfl (by decide) (Nat.le_of_ble_eq_true rfl) rfl (fun p e s m args below meth c C0 hrt hlk => ?_)
  unfold f_X5_count
  refine j_iload_n C0 1 dX5_count_0 rfl rfl ?_
  refine j_case (cnd := p0 = 0) (fun c_1_0 => ?_) (fun c_1_0 => ?_)
  · have c_1_0x : (p0).toInt = 0 := by rw [c_1_0]; rfl
    refine j_tableIn C0 44 dX5_count_1 (by omega) (by omega) (by rw [c_1_0x]; rfl) (by decide) ?_
    refine j_aload_n C0 0 dX5_count_44 rfl rfl ?_
    refine g_Cakes_now C0 w_157 dX5_count_45 ?_
    refine g_Fete_size C0 lt3_0 w_85 dX5_count_48 ?_
    exact j_iretP C0 hrt hlk dX5_count_51
  · skip
    refine j_case (cnd := p0 = 1) (fun c_1_1 => ?_) (fun c_1_1 => ?_)
    · have c_1_1x : (p0).toInt = 1 := by rw [c_1_1]; rfl
      refine j_tableIn C0 52 dX5_count_1 (by omega) (by omega) (by rw [c_1_1x]; rfl) (by decide) ?_
      refine j_aload_n C0 0 dX5_count_52 rfl rfl ?_
      refine g_Cakes_now C0 w_157 dX5_count_53 ?_
      refine g_Fete_slicesLeft C0 lt3_0 w_88 dX5_count_56 ?_
      exact j_iretP C0 hrt hlk dX5_count_59
    · skip
      refine j_case (cnd := p0 = 2) (fun c_1_2 => ?_) (fun c_1_2 => ?_)
      · have c_1_2x : (p0).toInt = 2 := by rw [c_1_2]; rfl
        refine j_tableIn C0 60 dX5_count_1 (by omega) (by omega) (by rw [c_1_2x]; rfl) (by decide) ?_
        refine j_aload_n C0 0 dX5_count_60 rfl rfl ?_
        refine g_Cakes_now C0 w_157 dX5_count_61 ?_
        refine g_Fete_step C0 lt3_0 w_90 dX5_count_64 ?_
        exact j_iretP C0 hrt hlk dX5_count_67
      · skip
        refine j_case (cnd := p0 = 3) (fun c_1_3 => ?_) (fun c_1_3 => ?_)
        · have c_1_3x : (p0).toInt = 3 := by rw [c_1_3]; rfl
          refine j_tableIn C0 68 dX5_count_1 (by omega) (by omega) (by rw [c_1_3x]; rfl) (by decide) ?_
          refine j_aload_n C0 0 dX5_count_68 rfl rfl ?_
          refine g_Cakes_now C0 w_157 dX5_count_69 ?_
          refine j_callVi C0 (c_X0_allHunger l z _ 0 lt3_0 hI) yk_X0_allHunger w_460 (fun H locs hP _ => recvW C0 hP _ (by have := lt3_0; omega) (cel_fete lt3_0) rfl) ⟨Nat.le_of_ble_eq_true rfl, Nat.le_of_ble_eq_true rfl⟩ rfl rfl (Nat.le_of_ble_eq_true rfl) dX5_count_72 ?_
          exact j_iretP C0 hrt hlk dX5_count_75
        · skip
          refine j_case (cnd := p0 = 4) (fun c_1_4 => ?_) (fun c_1_4 => ?_)
          · have c_1_4x : (p0).toInt = 4 := by rw [c_1_4]; rfl
            refine j_tableIn C0 76 dX5_count_1 (by omega) (by omega) (by rw [c_1_4x]; rfl) (by decide) ?_
            refine j_aload_n C0 0 dX5_count_76 rfl rfl ?_
            refine g_Cakes_now C0 w_157 dX5_count_77 ?_
            refine j_callVi C0 (c_X0_allWish l z _ 0 lt3_0 hI) yk_X0_allWish w_611 (fun H locs hP _ => recvW C0 hP _ (by have := lt3_0; omega) (cel_fete lt3_0) rfl) ⟨Nat.le_of_ble_eq_true rfl, Nat.le_of_ble_eq_true rfl⟩ rfl rfl (Nat.le_of_ble_eq_true rfl) dX5_count_80 ?_
            exact j_iretP C0 hrt hlk dX5_count_83
          · skip
            refine j_case (cnd := p0 = 5) (fun c_1_5 => ?_) (fun c_1_5 => ?_)
            · have c_1_5x : (p0).toInt = 5 := by rw [c_1_5]; rfl
              refine j_tableIn C0 84 dX5_count_1 (by omega) (by omega) (by rw [c_1_5x]; rfl) (by decide) ?_
              refine j_aload_n C0 0 dX5_count_84 rfl rfl ?_
              refine g_Cakes_now C0 w_157 dX5_count_85 ?_
              refine j_callVi C0 (c_X0_allEaten l z _ 0 lt3_0 hI) yk_X0_allEaten w_615 (fun H locs hP _ => recvW C0 hP _ (by have := lt3_0; omega) (cel_fete lt3_0) rfl) ⟨Nat.le_of_ble_eq_true rfl, Nat.le_of_ble_eq_true rfl⟩ rfl rfl (Nat.le_of_ble_eq_true rfl) dX5_count_88 ?_
              exact j_iretP C0 hrt hlk dX5_count_91
            · skip
              refine j_case (cnd := p0 = 6) (fun c_1_6 => ?_) (fun c_1_6 => ?_)
              · have c_1_6x : (p0).toInt = 6 := by rw [c_1_6]; rfl
                refine j_tableIn C0 92 dX5_count_1 (by omega) (by omega) (by rw [c_1_6x]; rfl) (by decide) ?_
                refine j_aload_n C0 0 dX5_count_92 rfl rfl ?_
                refine g_Cakes_now C0 w_157 dX5_count_93 ?_
                refine j_callVi C0 (c_X0_whoHasHadNone l z _ 0 lt3_0 hI) yk_X0_whoHasHadNone w_619 (fun H locs hP _ => recvW C0 hP _ (by have := lt3_0; omega) (cel_fete lt3_0) rfl) ⟨Nat.le_of_ble_eq_true rfl, Nat.le_of_ble_eq_true rfl⟩ rfl rfl (Nat.le_of_ble_eq_true rfl) dX5_count_96 ?_
                exact j_iretP C0 hrt hlk dX5_count_99
              · skip
                refine j_tableOut C0 100 dX5_count_1 (by have c_1_0x : (p0).toInt ≠ 0 := ne_toInt c_1_0; have c_1_1x : (p0).toInt ≠ 1 := ne_toInt c_1_1; have c_1_2x : (p0).toInt ≠ 2 := ne_toInt c_1_2; have c_1_3x : (p0).toInt ≠ 3 := ne_toInt c_1_3; have c_1_4x : (p0).toInt ≠ 4 := ne_toInt c_1_4; have c_1_5x : (p0).toInt ≠ 5 := ne_toInt c_1_5; have c_1_6x : (p0).toInt ≠ 6 := ne_toInt c_1_6; omega) (by decide) ?_
                refine j_iconst C0 (v := (-1)) dX5_count_100 (by decide) ?_
                exact j_iretP C0 hrt hlk dX5_count_101
def f_X5_keep (g : Mem) (p0 p1 p2 p3 : Int32) : Int32 × Mem := if (f_X5_isShelf p0) = 0 then (((-1 : Int32), g)) else (if (f_X5_isOneOfTwo p1) = 0 then (((-1 : Int32), g)) else (if p1 = 0 then (((0 : Int32), (up g (24 + ix p0) 1 (0 : Int32)))) else (if (f_X5_isKind p2) = 0 then (((-1 : Int32), g)) else (if (f_X5_isFigure p3) = 0 then (((-1 : Int32), g)) else (((0 : Int32), (f_X4_holdKind g (ix p0) p2 p3)))))))
def r_X5_keep (g : Mem) (p0 p1 p2 p3 : Int32) : Int32 := (f_X5_keep g p0 p1 p2 p3).1
def m_X5_keep (g : Mem) (p0 p1 p2 p3 : Int32) : Mem := (f_X5_keep g p0 p1 p2 p3).2
theorem e_X5_keep (g : Mem) (p0 p1 p2 p3 : Int32) : (r_X5_keep g p0 p1 p2 p3, m_X5_keep g p0 p1 p2 p3) = f_X5_keep g p0 p1 p2 p3 := by unfold r_X5_keep m_X5_keep; exact pmk_eta _
theorem yk_X5_keep : yokV yX5_keep RX5 cX5_keep 5 (some .int) 4 := ⟨w_626, w_624, w_625, w_1, by decide +kernel⟩
set_option maxHeartbeats 4000000 in
set_option maxRecDepth 100000 in
theorem c_X5_keep (l : Launch) (z : ZC) (g : Mem) (p0 p1 p2 p3 : Int32) (hI : In g) : ctC l yX5_keep cX5_keep 5 (some .int) 2 42 z g [.ref (zad z 46), .int p0, .int p1, .int p2, .int p3] (qIC z (r_X5_keep g p0 p1 p2 p3, m_X5_keep g p0 p1 p2 p3)) := by
  rw [e_X5_keep]
  refine ct_of (own := RX5) (q := fun r => qIC z r) (res := f_X5_keep g p0 p1 p2 p3) (lv := [(0, .ref (zad z 46)), (1, .int p0), (2, .int p1), (3, .int p2), (4, .int p3)]) (enokC z) rfl (by decide) (Nat.le_of_ble_eq_true rfl) rfl (fun p e s m args below meth c C0 hrt hlk => ?_)
  unfold f_X5_keep
  refine j_iload_n C0 1 dX5_keep_0 rfl rfl ?_
  refine j_callSi C0 (c_X5_isShelf l z _ _) yk_X5_isShelf w_187 ⟨Nat.le_of_ble_eq_true rfl, Nat.le_of_ble_eq_true rfl⟩ rfl rfl (Nat.le_of_ble_eq_true rfl) dX5_keep_1 ?_
  refine j_if_eq C0 14 dX5_keep_4 (by decide) (fun c_4 => ?_) (fun c_4 => ?_)
  · refine j_iconst C0 (v := (-1)) dX5_keep_14 (by decide) ?_
    exact j_iretM C0 hrt hlk dX5_keep_15
  · have hv := isShelf_in c_4
    refine j_iload_n C0 2 dX5_keep_7 rfl rfl ?_
    refine j_callSi C0 (c_X5_isOneOfTwo l z _ _) yk_X5_isOneOfTwo w_353 ⟨Nat.le_of_ble_eq_true rfl, Nat.le_of_ble_eq_true rfl⟩ rfl rfl (Nat.le_of_ble_eq_true rfl) dX5_keep_8 ?_
    refine j_if_ne C0 16 dX5_keep_11 (by decide) (fun c_11 => ?_) (fun c_11 => ?_)
    · refine j_iconst C0 (v := (-1)) dX5_keep_14 (by decide) ?_
      exact j_iretM C0 hrt hlk dX5_keep_15
    · refine j_iload_n C0 2 dX5_keep_16 rfl rfl ?_
      refine j_if_ne C0 32 dX5_keep_17 (by decide) (fun c_17 => ?_) (fun c_17 => ?_)
      · refine j_aload_n C0 0 dX5_keep_20 rfl rfl ?_
        refine g_Cakes_shelves C0 w_156 dX5_keep_21 ?_
        refine j_iload_n C0 1 dX5_keep_24 rfl rfl ?_
        refine a_shelves C0 hv dX5_keep_25 ?_
        refine j_iconst C0 (v := 0) dX5_keep_26 (by decide) ?_
        refine p_Shelf_holds C0 (vin_lt hv) w_134 dX5_keep_27 ?_
        refine j_iconst C0 (v := 0) dX5_keep_30 (by decide) ?_
        exact j_iretM C0 hrt hlk dX5_keep_31
      · refine j_iload_n C0 3 dX5_keep_32 rfl rfl ?_
        refine j_callSi C0 (c_X5_isKind l z _ _) yk_X5_isKind w_237 ⟨Nat.le_of_ble_eq_true rfl, Nat.le_of_ble_eq_true rfl⟩ rfl rfl (Nat.le_of_ble_eq_true rfl) dX5_keep_33 ?_
        refine j_if_eq C0 47 dX5_keep_36 (by decide) (fun c_36 => ?_) (fun c_36 => ?_)
        · refine j_iconst C0 (v := (-1)) dX5_keep_47 (by decide) ?_
          exact j_iretM C0 hrt hlk dX5_keep_48
        · have hvk := isKind_in c_36
          refine j_iload C0 4 dX5_keep_39 rfl ?_
          refine j_callSi C0 (c_X5_isFigure l z _ _) yk_X5_isFigure w_242 ⟨Nat.le_of_ble_eq_true rfl, Nat.le_of_ble_eq_true rfl⟩ rfl rfl (Nat.le_of_ble_eq_true rfl) dX5_keep_41 ?_
          refine j_if_ne C0 49 dX5_keep_44 (by decide) (fun c_44 => ?_) (fun c_44 => ?_)
          · refine j_iconst C0 (v := (-1)) dX5_keep_47 (by decide) ?_
            exact j_iretM C0 hrt hlk dX5_keep_48
          · refine j_aload_n C0 0 dX5_keep_49 rfl rfl ?_
            refine g_Cakes_shelves C0 w_156 dX5_keep_50 ?_
            refine j_iload_n C0 1 dX5_keep_53 rfl rfl ?_
            refine a_shelves C0 hv dX5_keep_54 ?_
            refine k_KINDS C0 w_240 dX5_keep_55 ?_
            refine j_iload_n C0 3 dX5_keep_58 rfl rfl ?_
            refine k_at C0 hvk dX5_keep_59 ?_
            refine j_iload C0 4 dX5_keep_60 rfl ?_
            refine j_callVv C0 (c_X4_holdKind l z _ (ix p0) (vin_lt hv) _ _ hvk hI) yk_X4_holdKind w_627 (fun H locs hP _ => recvW C0 hP _ (by have := (vin_lt hv); omega) (cel_shelf (vin_lt hv)) rfl) ⟨Nat.le_of_ble_eq_true rfl, Nat.le_of_ble_eq_true rfl⟩ rfl rfl (Nat.le_of_ble_eq_true rfl) dX5_keep_62 ?_
            refine j_iconst C0 (v := 0) dX5_keep_65 (by decide) ?_
            exact j_iretM C0 hrt hlk dX5_keep_66
def f_X4_holdRow_m1 (g : Mem) (d : Nat) (p0 p1 : Int32) : Mem := up g (24 + d) 1 (2 : Int32)
def f_X4_holdRow_m2 (g : Mem) (d : Nat) (p0 p1 : Int32) : Mem := up (f_X4_holdRow_m1 g d p0 p1) (24 + d) 4 p0
def f_X4_holdRow_m3 (g : Mem) (d : Nat) (p0 p1 : Int32) : Mem := up (f_X4_holdRow_m2 g d p0 p1) (24 + d) 5 p1
def f_X4_holdRow_m4 (g : Mem) (d : Nat) (p0 p1 : Int32) (a3 : Int32) (g_17 : Mem) : Mem := up g_17 (32 + d) (ix a3) (0 : Int32)
def f_X4_holdRow_17 (g : Mem) (d : Nat) (p0 p1 : Int32) : Nat → Int32 → Mem → Mem
  | 0, _, _ => g
  | n0 + 1, a3, g_17 => if (100 : Int32) ≤ a3 then (g_17) else (f_X4_holdRow_17 g d p0 p1 n0 (a3 + (1 : Int32)) (f_X4_holdRow_m4 g d p0 p1 a3 g_17))
def f_X4_holdRow (g : Mem) (d : Nat) (p0 p1 : Int32) : Mem := f_X4_holdRow_17 g d p0 p1 101 (0 : Int32) (f_X4_holdRow_m3 g d p0 p1)
theorem yk_X4_holdRow : yokV yX4_holdRow RX4 cX4_holdRow 4 none 2 := ⟨w_638, w_636, w_637, w_7, by decide +kernel⟩
set_option maxHeartbeats 4000000 in
set_option maxRecDepth 100000 in
theorem c_X4_holdRow (l : Launch) (z : ZC) (g : Mem) (d : Nat) (hd : d < 8) (p0 p1 : Int32) : ctC l yX4_holdRow cX4_holdRow 4 none 0 0 z g [.ref (zad z (24 + d)), .int p0, .int p1] (qVC z (f_X4_holdRow g d p0 p1)) := by
  refine ct_of (own := RX4) (q := fun r => qVC z r) (res := f_X4_holdRow g d p0 p1) (lv := [(0, .ref (zad z (24 + d))), (1, .int p0), (2, .int p1)]) (enokC z) rfl (by decide) (Nat.le_of_ble_eq_true rfl) rfl (fun p e s m args below meth c C0 hrt hlk => ?_)
  unfold f_X4_holdRow
  refine j_aload_n C0 0 dX4_holdRow_0 rfl rfl ?_
  refine j_iconst C0 (v := 2) dX4_holdRow_1 (by decide) ?_
  refine p_Shelf_holds C0 hd w_133 dX4_holdRow_2 ?_
  refine j_aload_n C0 0 dX4_holdRow_5 rfl rfl ?_
  refine j_iload_n C0 1 dX4_holdRow_6 rfl rfl ?_
  refine p_Shelf_sort C0 hd w_140 dX4_holdRow_7 ?_
  refine j_aload_n C0 0 dX4_holdRow_10 rfl rfl ?_
  refine j_iload_n C0 2 dX4_holdRow_11 rfl rfl ?_
  refine p_Shelf_length C0 hd w_141 dX4_holdRow_12 ?_
  refine j_iconst C0 (v := 0) dX4_holdRow_15 (by decide) ?_
  refine j_istore_n C0 (lv' := [(3, _), (0, _), (1, _), (2, _)]) dX4_holdRow_16 rfl (by decide) rfl ?_
  have L17 : ∀ (n0 : Nat) (a3 : Int32) (g_17 : Mem), lc a3 100 n0 → jj p l e { frames := 0, cells := 0, slots := 0, locals := 0 } s m args below meth c (zA z) (zD z) 52 (zad z) (celC z) 4 (fun r => MQ below (qVC z r) args s 0 0 (zA z)) (f_X4_holdRow_17 g d p0 p1 n0 a3 g_17) g_17 17 [(0, .ref (zad z (24 + d))), (1, .int p0), (2, .int p1), (3, .int a3)] [] := by
    intro n0
    induction n0 with
    | zero => intro a3 g_17 hL; exact absurd hL.2 (Nat.not_lt_zero _)
    | succ n0 ih0 =>
      intro a3 g_17 hL
      rw [f_X4_holdRow_17]
      refine j_iload_n C0 3 dX4_holdRow_17 rfl rfl ?_
      refine j_bipush C0 (v := 100) dX4_holdRow_18 (by decide) ?_
      refine j_icmp_ge C0 36 dX4_holdRow_20 (by decide) (fun c_20 => ?_) (fun c_20 => ?_)
      · exact j_vret C0 hrt hlk dX4_holdRow_36
      · have hv_a3 : vp_in a3 100 := vin_lc hL c_20 (by decide : (100 : Int32).toInt ≤ 100)
        refine j_aload_n C0 0 dX4_holdRow_23 rfl rfl ?_
        refine g_Shelf_cells C0 hd w_131 dX4_holdRow_24 ?_
        refine j_iload_n C0 3 dX4_holdRow_27 rfl rfl ?_
        refine j_iconst C0 (v := 0) dX4_holdRow_28 (by decide) ?_
        refine s_cells C0 hd hv_a3 dX4_holdRow_29 ?_
        refine j_iinc C0 (lv' := [(3, _), (0, _), (1, _), (2, _)]) (v := _ + (1)) 3 dX4_holdRow_30 rfl (by rfl) (by decide) rfl ?_
        refine j_goto C0 17 dX4_holdRow_33 (by decide) ?_
        exact j_sub [1, 2, 3, 0] rfl (ih0 _ _ (lc_stepN hL c_20))
  exact j_sub [1, 2, 3, 0] rfl (L17 101 _ _ (lc_0 (by have := (by decide : (100 : Int32).toInt ≤ 100); omega) (by decide)))
def f_X5_row (g : Mem) (p0 p1 p2 : Int32) : Int32 × Mem := if (f_X5_isShelf p0) = 0 then (((-1 : Int32), g)) else (if (f_X5_isWithin p1 (0 : Int32) (2 : Int32)) = 0 then (((-1 : Int32), g)) else (if p2 ≤ (100 : Int32) then (if 0 ≤ p2 then (((0 : Int32), (f_X4_holdRow g (ix p0) p1 p2))) else (((-14 : Int32), g))) else (((-1 : Int32), g))))
def r_X5_row (g : Mem) (p0 p1 p2 : Int32) : Int32 := (f_X5_row g p0 p1 p2).1
def m_X5_row (g : Mem) (p0 p1 p2 : Int32) : Mem := (f_X5_row g p0 p1 p2).2
theorem e_X5_row (g : Mem) (p0 p1 p2 : Int32) : (r_X5_row g p0 p1 p2, m_X5_row g p0 p1 p2) = f_X5_row g p0 p1 p2 := by unfold r_X5_row m_X5_row; exact pmk_eta _
theorem yk_X5_row : yokV yX5_row RX5 cX5_row 4 (some .int) 3 := ⟨w_634, w_632, w_633, w_1, by decide +kernel⟩
set_option maxHeartbeats 4000000 in
set_option maxRecDepth 100000 in
theorem c_X5_row (l : Launch) (z : ZC) (g : Mem) (p0 p1 p2 : Int32) (hI : In g) : ctC l yX5_row cX5_row 4 (some .int) 2 42 z g [.ref (zad z 46), .int p0, .int p1, .int p2] (qIC z (r_X5_row g p0 p1 p2, m_X5_row g p0 p1 p2)) := by
  rw [e_X5_row]
  refine ct_of (own := RX5) (q := fun r => qIC z r) (res := f_X5_row g p0 p1 p2) (lv := [(0, .ref (zad z 46)), (1, .int p0), (2, .int p1), (3, .int p2)]) (enokC z) rfl (by decide) (Nat.le_of_ble_eq_true rfl) rfl (fun p e s m args below meth c C0 hrt hlk => ?_)
  unfold f_X5_row
  refine j_iload_n C0 1 dX5_row_0 rfl rfl ?_
  refine j_callSi C0 (c_X5_isShelf l z _ _) yk_X5_isShelf w_187 ⟨Nat.le_of_ble_eq_true rfl, Nat.le_of_ble_eq_true rfl⟩ rfl rfl (Nat.le_of_ble_eq_true rfl) dX5_row_1 ?_
  refine j_if_eq C0 22 dX5_row_4 (by decide) (fun c_4 => ?_) (fun c_4 => ?_)
  · refine j_iconst C0 (v := (-1)) dX5_row_22 (by decide) ?_
    exact j_iretM C0 hrt hlk dX5_row_23
  · have hv := isShelf_in c_4
    refine j_iload_n C0 2 dX5_row_7 rfl rfl ?_
    refine j_iconst C0 (v := 0) dX5_row_8 (by decide) ?_
    refine j_iconst C0 (v := 2) dX5_row_9 (by decide) ?_
    refine j_callSi C0 (c_X5_isWithin l z _ _ _ _) yk_X5_isWithin w_190 ⟨Nat.le_of_ble_eq_true rfl, Nat.le_of_ble_eq_true rfl⟩ rfl rfl (Nat.le_of_ble_eq_true rfl) dX5_row_10 ?_
    refine j_if_eq C0 22 dX5_row_13 (by decide) (fun c_13 => ?_) (fun c_13 => ?_)
    · refine j_iconst C0 (v := (-1)) dX5_row_22 (by decide) ?_
      exact j_iretM C0 hrt hlk dX5_row_23
    · refine j_iload_n C0 3 dX5_row_16 rfl rfl ?_
      refine j_bipush C0 (v := 100) dX5_row_17 (by decide) ?_
      refine j_icmp_le C0 24 dX5_row_19 (by decide) (fun c_19 => ?_) (fun c_19 => ?_)
      · refine j_iload_n C0 3 dX5_row_24 rfl rfl ?_
        refine j_if_ge C0 31 dX5_row_25 (by decide) (fun c_25 => ?_) (fun c_25 => ?_)
        · refine j_aload_n C0 0 dX5_row_31 rfl rfl ?_
          refine g_Cakes_shelves C0 w_156 dX5_row_32 ?_
          refine j_iload_n C0 1 dX5_row_35 rfl rfl ?_
          refine a_shelves C0 hv dX5_row_36 ?_
          refine j_iload_n C0 2 dX5_row_37 rfl rfl ?_
          refine j_iload_n C0 3 dX5_row_38 rfl rfl ?_
          refine j_callVv C0 (c_X4_holdRow l z _ (ix p0) (vin_lt hv) _ _) yk_X4_holdRow w_635 (fun H locs hP _ => recvW C0 hP _ (by have := (vin_lt hv); omega) (cel_shelf (vin_lt hv)) rfl) ⟨Nat.le_of_ble_eq_true rfl, Nat.le_of_ble_eq_true rfl⟩ rfl rfl (Nat.le_of_ble_eq_true rfl) dX5_row_39 ?_
          refine j_iconst C0 (v := 0) dX5_row_42 (by decide) ?_
          exact j_iretM C0 hrt hlk dX5_row_43
        · refine j_bipush C0 (v := (-14)) dX5_row_28 (by decide) ?_
          exact j_iretM C0 hrt hlk dX5_row_30
      · refine j_iconst C0 (v := (-1)) dX5_row_22 (by decide) ?_
        exact j_iretM C0 hrt hlk dX5_row_23
def f_X5_put (g : Mem) (p0 p1 p2 : Int32) : Int32 × Mem := if (f_X5_refusalOfRow g p0) = 0 then (if (f_X4_hasPlace g (ix p0) p1) = 0 then (((-13 : Int32), g)) else (((0 : Int32), (up g (32 + (ix p0)) (ix p1) (f_X4_lowestBits g (ix p0) p2))))) else (((f_X5_refusalOfRow g p0), g))
def r_X5_put (g : Mem) (p0 p1 p2 : Int32) : Int32 := (f_X5_put g p0 p1 p2).1
def m_X5_put (g : Mem) (p0 p1 p2 : Int32) : Mem := (f_X5_put g p0 p1 p2).2
theorem e_X5_put (g : Mem) (p0 p1 p2 : Int32) : (r_X5_put g p0 p1 p2, m_X5_put g p0 p1 p2) = f_X5_put g p0 p1 p2 := by unfold r_X5_put m_X5_put; exact pmk_eta _
theorem yk_X5_put : yokV yX5_put RX5 cX5_put 6 (some .int) 3 := ⟨w_642, w_640, w_641, w_1, by decide +kernel⟩
set_option maxHeartbeats 4000000 in
set_option maxRecDepth 100000 in
theorem c_X5_put (l : Launch) (z : ZC) (g : Mem) (p0 p1 p2 : Int32) (hI : In g) : ctC l yX5_put cX5_put 6 (some .int) 4 86 z g [.ref (zad z 46), .int p0, .int p1, .int p2] (qIC z (r_X5_put g p0 p1 p2, m_X5_put g p0 p1 p2)) := by
  rw [e_X5_put]
  refine ct_of (own := RX5) (q := fun r => qIC z r) (res := f_X5_put g p0 p1 p2) (lv := [(0, .ref (zad z 46)), (1, .int p0), (2, .int p1), (3, .int p2)]) (enokC z) rfl (by decide) (Nat.le_of_ble_eq_true rfl) rfl (fun p e s m args below meth c C0 hrt hlk => ?_)
  unfold f_X5_put
  refine j_aload_n C0 0 dX5_put_0 rfl rfl ?_
  refine j_iload_n C0 1 dX5_put_1 rfl rfl ?_
  refine j_callVi C0 (c_X5_refusalOfRow l z _ _ hI) yk_X5_refusalOfRow w_179 (fun H locs hP _ => recvW C0 hP _ (by decide) cel_main rfl) ⟨Nat.le_of_ble_eq_true rfl, Nat.le_of_ble_eq_true rfl⟩ rfl rfl (Nat.le_of_ble_eq_true rfl) dX5_put_2 ?_
  refine j_istore C0 (lv' := [(4, _), (0, _), (1, _), (2, _), (3, _)]) dX5_put_5 (by decide) rfl ?_
  refine j_iload C0 0 dX5_put_7 rfl ?_
  refine j_if_eq C0 15 dX5_put_9 (by decide) (fun c_9 => ?_) (fun c_9 => ?_)
  · have hv := refusalR_in c_9
    refine j_aload_n C0 1 dX5_put_15 rfl rfl ?_
    refine g_Cakes_shelves C0 w_156 dX5_put_16 ?_
    refine j_iload_n C0 2 dX5_put_19 rfl rfl ?_
    refine a_shelves C0 hv dX5_put_20 ?_
    refine j_astore C0 (lv' := [(5, _), (4, _), (0, _), (1, _), (2, _), (3, _)]) dX5_put_21 (by decide) rfl ?_
    refine j_aload C0 0 dX5_put_23 rfl ?_
    refine j_iload_n C0 4 dX5_put_25 rfl rfl ?_
    refine j_callVi C0 (c_X4_hasPlace l z _ (ix p0) (vin_lt hv) _) yk_X4_hasPlace w_643 (fun H locs hP _ => recvW C0 hP _ (by have := (vin_lt hv); omega) (cel_shelf (vin_lt hv)) rfl) ⟨Nat.le_of_ble_eq_true rfl, Nat.le_of_ble_eq_true rfl⟩ rfl rfl (Nat.le_of_ble_eq_true rfl) dX5_put_26 ?_
    refine j_if_ne C0 35 dX5_put_29 (by decide) (fun c_29 => ?_) (fun c_29 => ?_)
    · refine j_bipush C0 (v := (-13)) dX5_put_32 (by decide) ?_
      exact j_iretM C0 hrt hlk dX5_put_34
    · have hvi := hasPlace_in hI (vin_lt hv) c_29
      refine j_aload C0 0 dX5_put_35 rfl ?_
      refine g_Shelf_cells C0 (vin_lt hv) w_132 dX5_put_37 ?_
      refine j_iload_n C0 4 dX5_put_40 rfl rfl ?_
      refine j_aload C0 0 dX5_put_41 rfl ?_
      refine j_iload_n C0 5 dX5_put_43 rfl rfl ?_
      refine j_callVi C0 (c_X4_lowestBits l z _ (ix p0) (vin_lt hv) _) yk_X4_lowestBits w_644 (fun H locs hP _ => recvW C0 hP _ (by have := (vin_lt hv); omega) (cel_shelf (vin_lt hv)) rfl) ⟨Nat.le_of_ble_eq_true rfl, Nat.le_of_ble_eq_true rfl⟩ rfl rfl (Nat.le_of_ble_eq_true rfl) dX5_put_44 ?_
      refine s_cells C0 (vin_lt hv) hvi dX5_put_47 ?_
      refine j_iconst C0 (v := 0) dX5_put_48 (by decide) ?_
      exact j_iretM C0 hrt hlk dX5_put_49
  · refine j_iload C0 0 dX5_put_12 rfl ?_
    exact j_iretM C0 hrt hlk dX5_put_14
def f_X5_cost (g : Mem) (p0 : Int32) : Int32 := if (f_X5_refusalOfKind g p0) = 0 then ((f_X1_costWith (g (24 + ix p0) 2) (g (24 + ix p0) 3))) else ((f_X5_refusalOfKind g p0))
theorem yk_X5_cost : yokV yX5_cost RX5 cX5_cost 3 (some .int) 1 := ⟨w_662, w_660, w_661, w_1, by decide +kernel⟩
set_option maxHeartbeats 4000000 in
set_option maxRecDepth 100000 in
theorem c_X5_cost (l : Launch) (z : ZC) (g : Mem) (p0 : Int32) (hI : In g) : ctC l yX5_cost cX5_cost 3 (some .int) 4 86 z g [.ref (zad z 46), .int p0] (qIC z (f_X5_cost g p0, g)) := by
  refine ct_of (own := RX5) (q := fun r => qIC z (r, g)) (res := f_X5_cost g p0) (lv := [(0, .ref (zad z 46)), (1, .int p0)]) (enokC z) rfl (by decide) (Nat.le_of_ble_eq_true rfl) rfl (fun p e s m args below meth c C0 hrt hlk => ?_)
  unfold f_X5_cost
  refine j_aload_n C0 0 dX5_cost_0 rfl rfl ?_
  refine j_iload_n C0 1 dX5_cost_1 rfl rfl ?_
  refine j_callVi C0 (c_X5_refusalOfKind l z _ _ hI) yk_X5_refusalOfKind w_345 (fun H locs hP _ => recvW C0 hP _ (by decide) cel_main rfl) ⟨Nat.le_of_ble_eq_true rfl, Nat.le_of_ble_eq_true rfl⟩ rfl rfl (Nat.le_of_ble_eq_true rfl) dX5_cost_2 ?_
  refine j_istore_n C0 (lv' := [(2, _), (0, _), (1, _)]) dX5_cost_5 rfl (by decide) rfl ?_
  refine j_iload_n C0 0 dX5_cost_6 rfl rfl ?_
  refine j_if_eq C0 12 dX5_cost_7 (by decide) (fun c_7 => ?_) (fun c_7 => ?_)
  · have hv := refusalK_in c_7
    refine j_aload_n C0 1 dX5_cost_12 rfl rfl ?_
    refine g_Cakes_shelves C0 w_156 dX5_cost_13 ?_
    refine j_iload_n C0 2 dX5_cost_16 rfl rfl ?_
    refine a_shelves C0 hv dX5_cost_17 ?_
    refine g_Shelf_kind C0 (vin_lt hv) w_136 dX5_cost_18 ?_
    refine j_aload_n C0 1 dX5_cost_21 rfl rfl ?_
    refine g_Cakes_shelves C0 w_156 dX5_cost_22 ?_
    refine j_iload_n C0 2 dX5_cost_25 rfl rfl ?_
    refine a_shelves C0 hv dX5_cost_26 ?_
    refine g_Shelf_figure C0 (vin_lt hv) w_138 dX5_cost_27 ?_
    refine j_callVi C0 (c_X1_costWith l z _ (g (24 + ix p0) 2) _ (In_sk hI (vin_lt hv))) yk_X1_costWith w_663 (fun H locs _ hS => recvE C0 (In_sk hI (vin_lt hv)) hS) ⟨Nat.le_of_ble_eq_true rfl, Nat.le_of_ble_eq_true rfl⟩ rfl rfl (Nat.le_of_ble_eq_true rfl) dX5_cost_30 ?_
    exact j_iretP C0 hrt hlk dX5_cost_33
  · refine j_iload_n C0 0 dX5_cost_10 rfl rfl ?_
    exact j_iretP C0 hrt hlk dX5_cost_11
