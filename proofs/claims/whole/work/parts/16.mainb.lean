def f_X5_person (g : Mem) (p0 p1 : Int32) : Int32 := if (f_X0_isThere g 0 p0) = 0 then ((-1 : Int32)) else (if p1 = 0 then ((kOrd.getD (ix (g (8 * 0 + ix p0) 0)) 0)) else (if p1 = 1 then ((g (8 * 0 + ix p0) 1)) else (if p1 = 2 then ((g (8 * 0 + ix p0) 4)) else (if p1 = 3 then ((g (8 * 0 + ix p0) 5)) else (if p1 = 4 then ((g (8 * 0 + ix p0) 6)) else (if p1 = 5 then ((g (8 * 0 + ix p0) 7)) else (if p1 = 6 then ((g (8 * 0 + ix p0) 2)) else (if p1 = 7 then ((g (8 * 0 + ix p0) 3)) else (if p1 = 8 then ((kShy.getD (ix (g (8 * 0 + ix p0) 0)) 0)) else ((-1 : Int32)))))))))))
theorem yk_X5_person : yokV yX5_person RX5 cX5_person 4 (some .int) 2 := ⟨w_340, w_338, w_339, w_1, by decide +kernel⟩
set_option maxHeartbeats 4000000 in
set_option maxRecDepth 100000 in
theorem c_X5_person (l : Launch) (z : ZC) (g : Mem) (p0 p1 : Int32) (hI : In g) : ctC l yX5_person cX5_person 4 (some .int) 1 21 z g [.ref (zad z 46), .int p0, .int p1] (qIC z (f_X5_person g p0 p1, g)) := by
  refine ct_of (own := RX5) (q := fun r => qIC z (r, g)) (res := f_X5_person g p0 p1) (lv := [(0, .ref (zad z 46)), (1, .int p0), (2, .int p1)]) (enokC z) rfl (by decide) (Nat.le_of_ble_eq_true rfl) rfl (fun p e s m args below meth c C0 hrt hlk => ?_)
  unfold f_X5_person
  refine j_aload_n C0 0 dX5_person_0 rfl rfl ?_
  refine g_Cakes_now C0 w_157 dX5_person_1 ?_
  refine j_iload_n C0 1 dX5_person_4 rfl rfl ?_
  refine j_callVi C0 (c_X0_isThere l z _ 0 lt3_0 _) yk_X0_isThere w_331 (fun H locs hP _ => recvW C0 hP _ (by have := lt3_0; omega) (cel_fete lt3_0) rfl) ⟨Nat.le_of_ble_eq_true rfl, Nat.le_of_ble_eq_true rfl⟩ rfl rfl (Nat.le_of_ble_eq_true rfl) dX5_person_5 ?_
  refine j_if_ne C0 13 dX5_person_8 (by decide) (fun c_8 => ?_) (fun c_8 => ?_)
  · refine j_iconst C0 (v := (-1)) dX5_person_11 (by decide) ?_
    exact j_iretP C0 hrt hlk dX5_person_12
  · have hv := isThere_in hI lt3_0 c_8
    refine j_aload_n C0 0 dX5_person_13 rfl rfl ?_
    refine g_Cakes_now C0 w_157 dX5_person_14 ?_
    refine g_Fete_people C0 lt3_0 w_82 dX5_person_17 ?_
    refine j_iload_n C0 1 dX5_person_20 rfl rfl ?_
    refine a_people C0 lt3_0 hv dX5_person_21 ?_
    refine j_astore_n C0 (lv' := [(3, _), (0, _), (1, _), (2, _)]) dX5_person_22 rfl (by decide) rfl ?_
    refine j_iload_n C0 3 dX5_person_23 rfl rfl ?_
    refine j_case (cnd := p1 = 0) (fun c_24_0 => ?_) (fun c_24_0 => ?_)
    · have c_24_0x : (p1).toInt = 0 := by rw [c_24_0]; rfl
      refine j_tableIn C0 76 dX5_person_24 (by omega) (by omega) (by rw [c_24_0x]; rfl) (by decide) ?_
      refine j_aload_n C0 0 dX5_person_76 rfl rfl ?_
      refine g_Person_kind C0 (vin_pk lt3_0 hv) w_44 dX5_person_77 ?_
      refine k_number C0 (In_pk hI (vin_pk lt3_0 hv)) w_1167 dX5_person_80 ?_
      exact j_iretP C0 hrt hlk dX5_person_83
    · skip
      refine j_case (cnd := p1 = 1) (fun c_24_1 => ?_) (fun c_24_1 => ?_)
      · have c_24_1x : (p1).toInt = 1 := by rw [c_24_1]; rfl
        refine j_tableIn C0 84 dX5_person_24 (by omega) (by omega) (by rw [c_24_1x]; rfl) (by decide) ?_
        refine j_aload_n C0 0 dX5_person_84 rfl rfl ?_
        refine g_Person_figure C0 (vin_pk lt3_0 hv) w_47 dX5_person_85 ?_
        exact j_iretP C0 hrt hlk dX5_person_88
      · skip
        refine j_case (cnd := p1 = 2) (fun c_24_2 => ?_) (fun c_24_2 => ?_)
        · have c_24_2x : (p1).toInt = 2 := by rw [c_24_2]; rfl
          refine j_tableIn C0 89 dX5_person_24 (by omega) (by omega) (by rw [c_24_2x]; rfl) (by decide) ?_
          refine j_aload_n C0 0 dX5_person_89 rfl rfl ?_
          refine g_Person_hunger C0 (vin_pk lt3_0 hv) w_53 dX5_person_90 ?_
          exact j_iretP C0 hrt hlk dX5_person_93
        · skip
          refine j_case (cnd := p1 = 3) (fun c_24_3 => ?_) (fun c_24_3 => ?_)
          · have c_24_3x : (p1).toInt = 3 := by rw [c_24_3]; rfl
            refine j_tableIn C0 94 dX5_person_24 (by omega) (by omega) (by rw [c_24_3x]; rfl) (by decide) ?_
            refine j_aload_n C0 0 dX5_person_94 rfl rfl ?_
            refine g_Person_wish C0 (vin_pk lt3_0 hv) w_56 dX5_person_95 ?_
            exact j_iretP C0 hrt hlk dX5_person_98
          · skip
            refine j_case (cnd := p1 = 4) (fun c_24_4 => ?_) (fun c_24_4 => ?_)
            · have c_24_4x : (p1).toInt = 4 := by rw [c_24_4]; rfl
              refine j_tableIn C0 99 dX5_person_24 (by omega) (by omega) (by rw [c_24_4x]; rfl) (by decide) ?_
              refine j_aload_n C0 0 dX5_person_99 rfl rfl ?_
              refine g_Person_eaten C0 (vin_pk lt3_0 hv) w_59 dX5_person_100 ?_
              exact j_iretP C0 hrt hlk dX5_person_103
            · skip
              refine j_case (cnd := p1 = 5) (fun c_24_5 => ?_) (fun c_24_5 => ?_)
              · have c_24_5x : (p1).toInt = 5 := by rw [c_24_5]; rfl
                refine j_tableIn C0 104 dX5_person_24 (by omega) (by omega) (by rw [c_24_5x]; rfl) (by decide) ?_
                refine j_aload_n C0 0 dX5_person_104 rfl rfl ?_
                refine g_Person_watched C0 (vin_pk lt3_0 hv) w_62 dX5_person_105 ?_
                exact j_iretP C0 hrt hlk dX5_person_108
              · skip
                refine j_case (cnd := p1 = 6) (fun c_24_6 => ?_) (fun c_24_6 => ?_)
                · have c_24_6x : (p1).toInt = 6 := by rw [c_24_6]; rfl
                  refine j_tableIn C0 109 dX5_person_24 (by omega) (by omega) (by rw [c_24_6x]; rfl) (by decide) ?_
                  refine j_aload_n C0 0 dX5_person_109 rfl rfl ?_
                  refine g_Person_bite C0 (vin_pk lt3_0 hv) w_49 dX5_person_110 ?_
                  exact j_iretP C0 hrt hlk dX5_person_113
                · skip
                  refine j_case (cnd := p1 = 7) (fun c_24_7 => ?_) (fun c_24_7 => ?_)
                  · have c_24_7x : (p1).toInt = 7 := by rw [c_24_7]; rfl
                    refine j_tableIn C0 114 dX5_person_24 (by omega) (by omega) (by rw [c_24_7x]; rfl) (by decide) ?_
                    refine j_aload_n C0 0 dX5_person_114 rfl rfl ?_
                    refine g_Person_gaze C0 (vin_pk lt3_0 hv) w_51 dX5_person_115 ?_
                    exact j_iretP C0 hrt hlk dX5_person_118
                  · skip
                    refine j_case (cnd := p1 = 8) (fun c_24_8 => ?_) (fun c_24_8 => ?_)
                    · have c_24_8x : (p1).toInt = 8 := by rw [c_24_8]; rfl
                      refine j_tableIn C0 119 dX5_person_24 (by omega) (by omega) (by rw [c_24_8x]; rfl) (by decide) ?_
                      refine j_aload_n C0 0 dX5_person_119 rfl rfl ?_
                      refine g_Person_kind C0 (vin_pk lt3_0 hv) w_44 dX5_person_120 ?_
                      refine k_shyness C0 (In_pk hI (vin_pk lt3_0 hv)) w_1168 dX5_person_123 ?_
                      exact j_iretP C0 hrt hlk dX5_person_126
                    · skip
                      refine j_tableOut C0 127 dX5_person_24 (by have c_24_0x : (p1).toInt ≠ 0 := ne_toInt c_24_0; have c_24_1x : (p1).toInt ≠ 1 := ne_toInt c_24_1; have c_24_2x : (p1).toInt ≠ 2 := ne_toInt c_24_2; have c_24_3x : (p1).toInt ≠ 3 := ne_toInt c_24_3; have c_24_4x : (p1).toInt ≠ 4 := ne_toInt c_24_4; have c_24_5x : (p1).toInt ≠ 5 := ne_toInt c_24_5; have c_24_6x : (p1).toInt ≠ 6 := ne_toInt c_24_6; have c_24_7x : (p1).toInt ≠ 7 := ne_toInt c_24_7; have c_24_8x : (p1).toInt ≠ 8 := ne_toInt c_24_8; omega) (by decide) ?_
                      refine j_iconst C0 (v := (-1)) dX5_person_127 (by decide) ?_
                      exact j_iretP C0 hrt hlk dX5_person_128
def f_X5_comes (g : Mem) (p0 p1 p2 : Int32) : Int32 × Mem := if (f_X5_isShelf p0) = 0 then (((-1 : Int32), g)) else (if (f_X5_isFeeling p1) = 0 then (((-1 : Int32), g)) else (if (f_X5_isFeeling p2) = 0 then (((-1 : Int32), g)) else (if (f_X5_refusalOfKind g p0) = 0 then (if (r_X0_takeIn g 0 (g (24 + ix p0) 2) (g (24 + ix p0) 3) p1 p2) = 0 then (((-2 : Int32), (m_X0_takeIn g 0 (g (24 + ix p0) 2) (g (24 + ix p0) 3) p1 p2))) else (((g 40 1), (m_X0_takeIn g 0 (g (24 + ix p0) 2) (g (24 + ix p0) 3) p1 p2)))) else (((f_X5_refusalOfKind g p0), g)))))
def r_X5_comes (g : Mem) (p0 p1 p2 : Int32) : Int32 := (f_X5_comes g p0 p1 p2).1
def m_X5_comes (g : Mem) (p0 p1 p2 : Int32) : Mem := (f_X5_comes g p0 p1 p2).2
theorem e_X5_comes (g : Mem) (p0 p1 p2 : Int32) : (r_X5_comes g p0 p1 p2, m_X5_comes g p0 p1 p2) = f_X5_comes g p0 p1 p2 := by unfold r_X5_comes m_X5_comes; exact pmk_eta _
theorem yk_X5_comes : yokV yX5_comes RX5 cX5_comes 7 (some .int) 3 := ⟨w_344, w_342, w_343, w_1, by decide +kernel⟩
set_option maxHeartbeats 4000000 in
set_option maxRecDepth 100000 in
theorem c_X5_comes (l : Launch) (z : ZC) (g : Mem) (p0 p1 p2 : Int32) (hI : In g) : ctC l yX5_comes cX5_comes 7 (some .int) 4 86 z g [.ref (zad z 46), .int p0, .int p1, .int p2] (qIC z (r_X5_comes g p0 p1 p2, m_X5_comes g p0 p1 p2)) := by
  rw [e_X5_comes]
  refine ct_of (own := RX5) (q := fun r => qIC z r) (res := f_X5_comes g p0 p1 p2) (lv := [(0, .ref (zad z 46)), (1, .int p0), (2, .int p1), (3, .int p2)]) (enokC z) rfl (by decide) (Nat.le_of_ble_eq_true rfl) rfl (fun p e s m args below meth c C0 hrt hlk => ?_)
  unfold f_X5_comes
  refine j_iload_n C0 1 dX5_comes_0 rfl rfl ?_
  refine j_callSi C0 (c_X5_isShelf l z _ _) yk_X5_isShelf w_187 ⟨Nat.le_of_ble_eq_true rfl, Nat.le_of_ble_eq_true rfl⟩ rfl rfl (Nat.le_of_ble_eq_true rfl) dX5_comes_1 ?_
  refine j_if_eq C0 21 dX5_comes_4 (by decide) (fun c_4 => ?_) (fun c_4 => ?_)
  · refine j_iconst C0 (v := (-1)) dX5_comes_21 (by decide) ?_
    exact j_iretM C0 hrt hlk dX5_comes_22
  · refine j_iload_n C0 2 dX5_comes_7 rfl rfl ?_
    refine j_callSi C0 (c_X5_isFeeling l z _ _) yk_X5_isFeeling w_245 ⟨Nat.le_of_ble_eq_true rfl, Nat.le_of_ble_eq_true rfl⟩ rfl rfl (Nat.le_of_ble_eq_true rfl) dX5_comes_8 ?_
    refine j_if_eq C0 21 dX5_comes_11 (by decide) (fun c_11 => ?_) (fun c_11 => ?_)
    · refine j_iconst C0 (v := (-1)) dX5_comes_21 (by decide) ?_
      exact j_iretM C0 hrt hlk dX5_comes_22
    · refine j_iload_n C0 3 dX5_comes_14 rfl rfl ?_
      refine j_callSi C0 (c_X5_isFeeling l z _ _) yk_X5_isFeeling w_245 ⟨Nat.le_of_ble_eq_true rfl, Nat.le_of_ble_eq_true rfl⟩ rfl rfl (Nat.le_of_ble_eq_true rfl) dX5_comes_15 ?_
      refine j_if_ne C0 23 dX5_comes_18 (by decide) (fun c_18 => ?_) (fun c_18 => ?_)
      · refine j_iconst C0 (v := (-1)) dX5_comes_21 (by decide) ?_
        exact j_iretM C0 hrt hlk dX5_comes_22
      · refine j_aload_n C0 0 dX5_comes_23 rfl rfl ?_
        refine j_iload_n C0 1 dX5_comes_24 rfl rfl ?_
        refine j_callVi C0 (c_X5_refusalOfKind l z _ _ hI) yk_X5_refusalOfKind w_345 (fun H locs hP _ => recvW C0 hP _ (by decide) cel_main rfl) ⟨Nat.le_of_ble_eq_true rfl, Nat.le_of_ble_eq_true rfl⟩ rfl rfl (Nat.le_of_ble_eq_true rfl) dX5_comes_25 ?_
        refine j_istore C0 (lv' := [(4, _), (0, _), (1, _), (2, _), (3, _)]) dX5_comes_28 (by decide) rfl ?_
        refine j_iload C0 0 dX5_comes_30 rfl ?_
        refine j_if_eq C0 38 dX5_comes_32 (by decide) (fun c_32 => ?_) (fun c_32 => ?_)
        · have hv := refusalK_in c_32
          refine j_aload_n C0 1 dX5_comes_38 rfl rfl ?_
          refine g_Cakes_now C0 w_157 dX5_comes_39 ?_
          refine g_Fete_size C0 lt3_0 w_85 dX5_comes_42 ?_
          refine j_istore C0 (lv' := [(5, _), (4, _), (0, _), (1, _), (2, _), (3, _)]) dX5_comes_45 (by decide) rfl ?_
          refine j_aload_n C0 2 dX5_comes_47 rfl rfl ?_
          refine g_Cakes_shelves C0 w_156 dX5_comes_48 ?_
          refine j_iload_n C0 3 dX5_comes_51 rfl rfl ?_
          refine a_shelves C0 hv dX5_comes_52 ?_
          refine j_astore C0 (lv' := [(6, _), (5, _), (4, _), (0, _), (1, _), (2, _), (3, _)]) dX5_comes_53 (by decide) rfl ?_
          refine j_aload_n C0 3 dX5_comes_55 rfl rfl ?_
          refine g_Cakes_now C0 w_157 dX5_comes_56 ?_
          refine j_aload C0 0 dX5_comes_59 rfl ?_
          refine g_Shelf_kind C0 (vin_lt hv) w_136 dX5_comes_61 ?_
          refine j_aload C0 0 dX5_comes_64 rfl ?_
          refine g_Shelf_figure C0 (vin_lt hv) w_138 dX5_comes_66 ?_
          refine j_iload_n C0 5 dX5_comes_69 rfl rfl ?_
          refine j_iload_n C0 6 dX5_comes_70 rfl rfl ?_
          refine j_callVi C0 (c_X0_takeIn l z _ 0 lt3_0 _ _ _ _ (In_sk hI (vin_lt hv)) hI) yk_X0_takeIn w_248 (fun H locs hP _ => recvW C0 hP _ (by have := lt3_0; omega) (cel_fete lt3_0) rfl) ⟨Nat.le_of_ble_eq_true rfl, Nat.le_of_ble_eq_true rfl⟩ rfl rfl (Nat.le_of_ble_eq_true rfl) dX5_comes_71 ?_
          refine j_if_eq C0 82 dX5_comes_74 (by decide) (fun c_74 => ?_) (fun c_74 => ?_)
          · refine j_bipush C0 (v := (-2)) dX5_comes_82 (by decide) ?_
            exact j_iretM C0 hrt hlk dX5_comes_84
          · refine j_iload C0 1 dX5_comes_77 rfl ?_
            refine j_goto C0 84 dX5_comes_79 (by decide) ?_
            exact j_iretM C0 hrt hlk dX5_comes_84
        · refine j_iload C0 0 dX5_comes_35 rfl ?_
          exact j_iretM C0 hrt hlk dX5_comes_37
def f_X5_feels_m1 (g : Mem) (p0 p1 p2 : Int32) : Mem := up g (8 * 0 + ix p0) 4 p2
def f_X5_feels_m2 (g : Mem) (p0 p1 p2 : Int32) : Mem := up g (8 * 0 + ix p0) 5 p2
def f_X5_feels_m3 (g : Mem) (p0 p1 p2 : Int32) : Mem := up g (8 * 0 + ix p0) 4 p2
def f_X5_feels_m4 (g : Mem) (p0 p1 p2 : Int32) : Mem := up g (8 * 0 + ix p0) 5 p2
def f_X5_feels (g : Mem) (p0 p1 p2 : Int32) : Int32 × Mem := if (f_X0_isThere g 0 p0) = 0 then (((-1 : Int32), g)) else (if (f_X5_isOneOfTwo p1) = 0 then (((-1 : Int32), g)) else (if (f_X5_isFeeling p2) = 0 then (((-1 : Int32), g)) else (if p1 = 0 then (if p1 = 0 then (((g (8 * 0 + ix p0) 4), (f_X5_feels_m1 g p0 p1 p2))) else (((g (8 * 0 + ix p0) 4), (f_X5_feels_m2 g p0 p1 p2)))) else (if p1 = 0 then (((g (8 * 0 + ix p0) 5), (f_X5_feels_m3 g p0 p1 p2))) else (((g (8 * 0 + ix p0) 5), (f_X5_feels_m4 g p0 p1 p2)))))))
def r_X5_feels (g : Mem) (p0 p1 p2 : Int32) : Int32 := (f_X5_feels g p0 p1 p2).1
def m_X5_feels (g : Mem) (p0 p1 p2 : Int32) : Mem := (f_X5_feels g p0 p1 p2).2
theorem e_X5_feels (g : Mem) (p0 p1 p2 : Int32) : (r_X5_feels g p0 p1 p2, m_X5_feels g p0 p1 p2) = f_X5_feels g p0 p1 p2 := by unfold r_X5_feels m_X5_feels; exact pmk_eta _
theorem yk_X5_feels : yokV yX5_feels RX5 cX5_feels 6 (some .int) 3 := ⟨w_352, w_350, w_351, w_1, by decide +kernel⟩
set_option maxHeartbeats 4000000 in
set_option maxRecDepth 100000 in
theorem c_X5_feels (l : Launch) (z : ZC) (g : Mem) (p0 p1 p2 : Int32) (hI : In g) : ctC l yX5_feels cX5_feels 6 (some .int) 2 42 z g [.ref (zad z 46), .int p0, .int p1, .int p2] (qIC z (r_X5_feels g p0 p1 p2, m_X5_feels g p0 p1 p2)) := by
  rw [e_X5_feels]
  refine ct_of (own := RX5) (q := fun r => qIC z r) (res := f_X5_feels g p0 p1 p2) (lv := [(0, .ref (zad z 46)), (1, .int p0), (2, .int p1), (3, .int p2)]) (enokC z) rfl (by decide) (Nat.le_of_ble_eq_true rfl) rfl (fun p e s m args below meth c C0 hrt hlk => ?_)
  unfold f_X5_feels
  refine j_aload_n C0 0 dX5_feels_0 rfl rfl ?_
  refine g_Cakes_now C0 w_157 dX5_feels_1 ?_
  refine j_iload_n C0 1 dX5_feels_4 rfl rfl ?_
  refine j_callVi C0 (c_X0_isThere l z _ 0 lt3_0 _) yk_X0_isThere w_331 (fun H locs hP _ => recvW C0 hP _ (by have := lt3_0; omega) (cel_fete lt3_0) rfl) ⟨Nat.le_of_ble_eq_true rfl, Nat.le_of_ble_eq_true rfl⟩ rfl rfl (Nat.le_of_ble_eq_true rfl) dX5_feels_5 ?_
  refine j_if_eq C0 25 dX5_feels_8 (by decide) (fun c_8 => ?_) (fun c_8 => ?_)
  · refine j_iconst C0 (v := (-1)) dX5_feels_25 (by decide) ?_
    exact j_iretM C0 hrt hlk dX5_feels_26
  · have hv := isThere_in hI lt3_0 c_8
    refine j_iload_n C0 2 dX5_feels_11 rfl rfl ?_
    refine j_callSi C0 (c_X5_isOneOfTwo l z _ _) yk_X5_isOneOfTwo w_353 ⟨Nat.le_of_ble_eq_true rfl, Nat.le_of_ble_eq_true rfl⟩ rfl rfl (Nat.le_of_ble_eq_true rfl) dX5_feels_12 ?_
    refine j_if_eq C0 25 dX5_feels_15 (by decide) (fun c_15 => ?_) (fun c_15 => ?_)
    · refine j_iconst C0 (v := (-1)) dX5_feels_25 (by decide) ?_
      exact j_iretM C0 hrt hlk dX5_feels_26
    · refine j_iload_n C0 3 dX5_feels_18 rfl rfl ?_
      refine j_callSi C0 (c_X5_isFeeling l z _ _) yk_X5_isFeeling w_245 ⟨Nat.le_of_ble_eq_true rfl, Nat.le_of_ble_eq_true rfl⟩ rfl rfl (Nat.le_of_ble_eq_true rfl) dX5_feels_19 ?_
      refine j_if_ne C0 27 dX5_feels_22 (by decide) (fun c_22 => ?_) (fun c_22 => ?_)
      · refine j_iconst C0 (v := (-1)) dX5_feels_25 (by decide) ?_
        exact j_iretM C0 hrt hlk dX5_feels_26
      · refine j_aload_n C0 0 dX5_feels_27 rfl rfl ?_
        refine g_Cakes_now C0 w_157 dX5_feels_28 ?_
        refine g_Fete_people C0 lt3_0 w_82 dX5_feels_31 ?_
        refine j_iload_n C0 1 dX5_feels_34 rfl rfl ?_
        refine a_people C0 lt3_0 hv dX5_feels_35 ?_
        refine j_astore C0 (lv' := [(4, _), (0, _), (1, _), (2, _), (3, _)]) dX5_feels_36 (by decide) rfl ?_
        refine j_iload_n C0 3 dX5_feels_38 rfl rfl ?_
        refine j_if_ne C0 50 dX5_feels_39 (by decide) (fun c_39 => ?_) (fun c_39 => ?_)
        · refine j_aload C0 0 dX5_feels_42 rfl ?_
          refine g_Person_hunger C0 (vin_pk lt3_0 hv) w_53 dX5_feels_44 ?_
          refine j_goto C0 55 dX5_feels_47 (by decide) ?_
          refine j_istore C0 (lv' := [(5, _), (4, _), (0, _), (1, _), (2, _), (3, _)]) dX5_feels_55 (by decide) rfl ?_
          refine j_iload_n C0 4 dX5_feels_57 rfl rfl ?_
          refine j_if_ne C0 70 dX5_feels_58 (by decide) (fun c_58 => ?_) (fun c_58 => ?_)
          · refine j_aload C0 1 dX5_feels_61 rfl ?_
            refine j_iload_n C0 5 dX5_feels_63 rfl rfl ?_
            refine p_Person_hunger C0 (vin_pk lt3_0 hv) w_53 dX5_feels_64 ?_
            refine j_goto C0 76 dX5_feels_67 (by decide) ?_
            refine j_iload C0 0 dX5_feels_76 rfl ?_
            exact j_iretM C0 hrt hlk dX5_feels_78
          · refine j_aload C0 1 dX5_feels_70 rfl ?_
            refine j_iload_n C0 5 dX5_feels_72 rfl rfl ?_
            refine p_Person_wish C0 (vin_pk lt3_0 hv) w_56 dX5_feels_73 ?_
            refine j_iload C0 0 dX5_feels_76 rfl ?_
            exact j_iretM C0 hrt hlk dX5_feels_78
        · refine j_aload C0 0 dX5_feels_50 rfl ?_
          refine g_Person_wish C0 (vin_pk lt3_0 hv) w_56 dX5_feels_52 ?_
          refine j_istore C0 (lv' := [(5, _), (4, _), (0, _), (1, _), (2, _), (3, _)]) dX5_feels_55 (by decide) rfl ?_
          refine j_iload_n C0 4 dX5_feels_57 rfl rfl ?_
          refine j_if_ne C0 70 dX5_feels_58 (by decide) (fun c_58 => ?_) (fun c_58 => ?_)
          · refine j_aload C0 1 dX5_feels_61 rfl ?_
            refine j_iload_n C0 5 dX5_feels_63 rfl rfl ?_
            refine p_Person_hunger C0 (vin_pk lt3_0 hv) w_53 dX5_feels_64 ?_
            refine j_goto C0 76 dX5_feels_67 (by decide) ?_
            refine j_iload C0 0 dX5_feels_76 rfl ?_
            exact j_iretM C0 hrt hlk dX5_feels_78
          · refine j_aload C0 1 dX5_feels_70 rfl ?_
            refine j_iload_n C0 5 dX5_feels_72 rfl rfl ?_
            refine p_Person_wish C0 (vin_pk lt3_0 hv) w_56 dX5_feels_73 ?_
            refine j_iload C0 0 dX5_feels_76 rfl ?_
            exact j_iretM C0 hrt hlk dX5_feels_78
def f_X5_slices (g : Mem) (p0 : Int32) : Int32 × Mem := if (f_X5_isWithin p0 (0 : Int32) (99 : Int32)) = 0 then (((-1 : Int32), g)) else (((g 40 2), (up g 40 2 p0)))
def r_X5_slices (g : Mem) (p0 : Int32) : Int32 := (f_X5_slices g p0).1
def m_X5_slices (g : Mem) (p0 : Int32) : Mem := (f_X5_slices g p0).2
theorem e_X5_slices (g : Mem) (p0 : Int32) : (r_X5_slices g p0, m_X5_slices g p0) = f_X5_slices g p0 := by unfold r_X5_slices m_X5_slices; exact pmk_eta _
theorem yk_X5_slices : yokV yX5_slices RX5 cX5_slices 3 (some .int) 1 := ⟨w_359, w_357, w_358, w_1, by decide +kernel⟩
set_option maxHeartbeats 4000000 in
set_option maxRecDepth 100000 in
theorem c_X5_slices (l : Launch) (z : ZC) (g : Mem) (p0 : Int32) (hI : In g) : ctC l yX5_slices cX5_slices 3 (some .int) 1 22 z g [.ref (zad z 46), .int p0] (qIC z (r_X5_slices g p0, m_X5_slices g p0)) := by
  rw [e_X5_slices]
  refine ct_of (own := RX5) (q := fun r => qIC z r) (res := f_X5_slices g p0) (lv := [(0, .ref (zad z 46)), (1, .int p0)]) (enokC z) rfl (by decide) (Nat.le_of_ble_eq_true rfl) rfl (fun p e s m args below meth c C0 hrt hlk => ?_)
  unfold f_X5_slices
  refine j_iload_n C0 1 dX5_slices_0 rfl rfl ?_
  refine j_iconst C0 (v := 0) dX5_slices_1 (by decide) ?_
  refine j_bipush C0 (v := 99) dX5_slices_2 (by decide) ?_
  refine j_callSi C0 (c_X5_isWithin l z _ _ _ _) yk_X5_isWithin w_190 ⟨Nat.le_of_ble_eq_true rfl, Nat.le_of_ble_eq_true rfl⟩ rfl rfl (Nat.le_of_ble_eq_true rfl) dX5_slices_4 ?_
  refine j_if_ne C0 12 dX5_slices_7 (by decide) (fun c_7 => ?_) (fun c_7 => ?_)
  · refine j_iconst C0 (v := (-1)) dX5_slices_10 (by decide) ?_
    exact j_iretM C0 hrt hlk dX5_slices_11
  · refine j_aload_n C0 0 dX5_slices_12 rfl rfl ?_
    refine g_Cakes_now C0 w_157 dX5_slices_13 ?_
    refine g_Fete_slicesLeft C0 lt3_0 w_88 dX5_slices_16 ?_
    refine j_istore_n C0 (lv' := [(2, _), (0, _), (1, _)]) dX5_slices_19 rfl (by decide) rfl ?_
    refine j_aload_n C0 1 dX5_slices_20 rfl rfl ?_
    refine g_Cakes_now C0 w_157 dX5_slices_21 ?_
    refine j_iload_n C0 2 dX5_slices_24 rfl rfl ?_
    refine p_Fete_slicesLeft C0 lt3_0 w_88 dX5_slices_25 ?_
    refine j_iload_n C0 0 dX5_slices_28 rfl rfl ?_
    exact j_iretM C0 hrt hlk dX5_slices_29
def f_X5_eats (g : Mem) (p0 p1 : Int32) : Int32 × Mem := if (f_X0_areTwo g 0 p0 p1) = 0 then (((-1 : Int32), g)) else (if (f_X0_mayTurn g 0 p0 p1) = 0 then (((-3 : Int32), g)) else (((r_X0_turn g 0 p0 p1), (m_X0_turn g 0 p0 p1))))
def r_X5_eats (g : Mem) (p0 p1 : Int32) : Int32 := (f_X5_eats g p0 p1).1
def m_X5_eats (g : Mem) (p0 p1 : Int32) : Mem := (f_X5_eats g p0 p1).2
theorem e_X5_eats (g : Mem) (p0 p1 : Int32) : (r_X5_eats g p0 p1, m_X5_eats g p0 p1) = f_X5_eats g p0 p1 := by unfold r_X5_eats m_X5_eats; exact pmk_eta _
theorem yk_X5_eats : yokV yX5_eats RX5 cX5_eats 3 (some .int) 2 := ⟨w_363, w_361, w_362, w_1, by decide +kernel⟩
set_option maxHeartbeats 4000000 in
set_option maxRecDepth 100000 in
theorem c_X5_eats (l : Launch) (z : ZC) (g : Mem) (p0 p1 : Int32) (hI : In g) : ctC l yX5_eats cX5_eats 3 (some .int) 5 103 z g [.ref (zad z 46), .int p0, .int p1] (qIC z (r_X5_eats g p0 p1, m_X5_eats g p0 p1)) := by
  rw [e_X5_eats]
  refine ct_of (own := RX5) (q := fun r => qIC z r) (res := f_X5_eats g p0 p1) (lv := [(0, .ref (zad z 46)), (1, .int p0), (2, .int p1)]) (enokC z) rfl (by decide) (Nat.le_of_ble_eq_true rfl) rfl (fun p e s m args below meth c C0 hrt hlk => ?_)
  unfold f_X5_eats
  refine j_aload_n C0 0 dX5_eats_0 rfl rfl ?_
  refine g_Cakes_now C0 w_157 dX5_eats_1 ?_
  refine j_iload_n C0 1 dX5_eats_4 rfl rfl ?_
  refine j_iload_n C0 2 dX5_eats_5 rfl rfl ?_
  refine j_callVi C0 (c_X0_areTwo l z _ 0 lt3_0 _ _) yk_X0_areTwo w_364 (fun H locs hP _ => recvW C0 hP _ (by have := lt3_0; omega) (cel_fete lt3_0) rfl) ⟨Nat.le_of_ble_eq_true rfl, Nat.le_of_ble_eq_true rfl⟩ rfl rfl (Nat.le_of_ble_eq_true rfl) dX5_eats_6 ?_
  refine j_if_ne C0 14 dX5_eats_9 (by decide) (fun c_9 => ?_) (fun c_9 => ?_)
  · refine j_iconst C0 (v := (-1)) dX5_eats_12 (by decide) ?_
    exact j_iretM C0 hrt hlk dX5_eats_13
  · refine j_aload_n C0 0 dX5_eats_14 rfl rfl ?_
    refine g_Cakes_now C0 w_157 dX5_eats_15 ?_
    refine j_iload_n C0 1 dX5_eats_18 rfl rfl ?_
    refine j_iload_n C0 2 dX5_eats_19 rfl rfl ?_
    refine j_callVi C0 (c_X0_mayTurn l z _ 0 lt3_0 _ _ hI) yk_X0_mayTurn w_274 (fun H locs hP _ => recvW C0 hP _ (by have := lt3_0; omega) (cel_fete lt3_0) rfl) ⟨Nat.le_of_ble_eq_true rfl, Nat.le_of_ble_eq_true rfl⟩ rfl rfl (Nat.le_of_ble_eq_true rfl) dX5_eats_20 ?_
    refine j_if_ne C0 29 dX5_eats_23 (by decide) (fun c_23 => ?_) (fun c_23 => ?_)
    · refine j_bipush C0 (v := (-3)) dX5_eats_26 (by decide) ?_
      exact j_iretM C0 hrt hlk dX5_eats_28
    · have hv1 := mayTurn_in hI lt3_0 c_23
      refine j_aload_n C0 0 dX5_eats_29 rfl rfl ?_
      refine g_Cakes_now C0 w_157 dX5_eats_30 ?_
      refine j_iload_n C0 1 dX5_eats_33 rfl rfl ?_
      refine j_iload_n C0 2 dX5_eats_34 rfl rfl ?_
      refine j_callVi C0 (c_X0_turn l z _ 0 lt3_0 _ _ hv1.1 hv1.2 hI) yk_X0_turn w_296 (fun H locs hP _ => recvW C0 hP _ (by have := lt3_0; omega) (cel_fete lt3_0) rfl) ⟨Nat.le_of_ble_eq_true rfl, Nat.le_of_ble_eq_true rfl⟩ rfl rfl (Nat.le_of_ble_eq_true rfl) dX5_eats_35 ?_
      exact j_iretM C0 hrt hlk dX5_eats_38
def f_X5_joys (g : Mem) (p0 p1 p2 : Int32) : Int32 := if (f_X0_areTwo g 0 p0 p1) = 0 then ((-1 : Int32)) else (if (f_X5_isWithin p2 (0 : Int32) (2 : Int32)) = 0 then ((-1 : Int32)) else (if (f_X0_canEat g 0 p0 p1) = 0 then ((-3 : Int32)) else (if p2 = 0 then ((f_X0_joysOf g 0 p0 p1)) else (if p2 = (1 : Int32) then ((f_X0_joyOfEating g 0 p0 p1)) else ((f_X0_joyOfLooking g 0 p1))))))
theorem yk_X5_joys : yokV yX5_joys RX5 cX5_joys 4 (some .int) 3 := ⟨w_368, w_366, w_367, w_1, by decide +kernel⟩
set_option maxHeartbeats 4000000 in
set_option maxRecDepth 100000 in
theorem c_X5_joys (l : Launch) (z : ZC) (g : Mem) (p0 p1 p2 : Int32) (hI : In g) : ctC l yX5_joys cX5_joys 4 (some .int) 4 78 z g [.ref (zad z 46), .int p0, .int p1, .int p2] (qIC z (f_X5_joys g p0 p1 p2, g)) := by
  refine ct_of (own := RX5) (q := fun r => qIC z (r, g)) (res := f_X5_joys g p0 p1 p2) (lv := [(0, .ref (zad z 46)), (1, .int p0), (2, .int p1), (3, .int p2)]) (enokC z) rfl (by decide) (Nat.le_of_ble_eq_true rfl) rfl (fun p e s m args below meth c C0 hrt hlk => ?_)
  unfold f_X5_joys
  refine j_aload_n C0 0 dX5_joys_0 rfl rfl ?_
  refine g_Cakes_now C0 w_157 dX5_joys_1 ?_
  refine j_iload_n C0 1 dX5_joys_4 rfl rfl ?_
  refine j_iload_n C0 2 dX5_joys_5 rfl rfl ?_
  refine j_callVi C0 (c_X0_areTwo l z _ 0 lt3_0 _ _) yk_X0_areTwo w_364 (fun H locs hP _ => recvW C0 hP _ (by have := lt3_0; omega) (cel_fete lt3_0) rfl) ⟨Nat.le_of_ble_eq_true rfl, Nat.le_of_ble_eq_true rfl⟩ rfl rfl (Nat.le_of_ble_eq_true rfl) dX5_joys_6 ?_
  refine j_if_eq C0 21 dX5_joys_9 (by decide) (fun c_9 => ?_) (fun c_9 => ?_)
  · refine j_iconst C0 (v := (-1)) dX5_joys_21 (by decide) ?_
    exact j_iretP C0 hrt hlk dX5_joys_22
  · refine j_iload_n C0 3 dX5_joys_12 rfl rfl ?_
    refine j_iconst C0 (v := 0) dX5_joys_13 (by decide) ?_
    refine j_iconst C0 (v := 2) dX5_joys_14 (by decide) ?_
    refine j_callSi C0 (c_X5_isWithin l z _ _ _ _) yk_X5_isWithin w_190 ⟨Nat.le_of_ble_eq_true rfl, Nat.le_of_ble_eq_true rfl⟩ rfl rfl (Nat.le_of_ble_eq_true rfl) dX5_joys_15 ?_
    refine j_if_ne C0 23 dX5_joys_18 (by decide) (fun c_18 => ?_) (fun c_18 => ?_)
    · refine j_iconst C0 (v := (-1)) dX5_joys_21 (by decide) ?_
      exact j_iretP C0 hrt hlk dX5_joys_22
    · refine j_aload_n C0 0 dX5_joys_23 rfl rfl ?_
      refine g_Cakes_now C0 w_157 dX5_joys_24 ?_
      refine j_iload_n C0 1 dX5_joys_27 rfl rfl ?_
      refine j_iload_n C0 2 dX5_joys_28 rfl rfl ?_
      refine j_callVi C0 (c_X0_canEat l z _ 0 lt3_0 _ _ hI) yk_X0_canEat w_369 (fun H locs hP _ => recvW C0 hP _ (by have := lt3_0; omega) (cel_fete lt3_0) rfl) ⟨Nat.le_of_ble_eq_true rfl, Nat.le_of_ble_eq_true rfl⟩ rfl rfl (Nat.le_of_ble_eq_true rfl) dX5_joys_29 ?_
      refine j_if_ne C0 38 dX5_joys_32 (by decide) (fun c_32 => ?_) (fun c_32 => ?_)
      · refine j_bipush C0 (v := (-3)) dX5_joys_35 (by decide) ?_
        exact j_iretP C0 hrt hlk dX5_joys_37
      · have hv1 := canEat_in hI lt3_0 c_32
        refine j_iload_n C0 3 dX5_joys_38 rfl rfl ?_
        refine j_if_ne C0 52 dX5_joys_39 (by decide) (fun c_39 => ?_) (fun c_39 => ?_)
        · refine j_aload_n C0 0 dX5_joys_42 rfl rfl ?_
          refine g_Cakes_now C0 w_157 dX5_joys_43 ?_
          refine j_iload_n C0 1 dX5_joys_46 rfl rfl ?_
          refine j_iload_n C0 2 dX5_joys_47 rfl rfl ?_
          refine j_callVi C0 (c_X0_joysOf l z _ 0 lt3_0 _ _ hv1.1 hv1.2 hI) yk_X0_joysOf w_370 (fun H locs hP _ => recvW C0 hP _ (by have := lt3_0; omega) (cel_fete lt3_0) rfl) ⟨Nat.le_of_ble_eq_true rfl, Nat.le_of_ble_eq_true rfl⟩ rfl rfl (Nat.le_of_ble_eq_true rfl) dX5_joys_48 ?_
          exact j_iretP C0 hrt hlk dX5_joys_51
        · refine j_iload_n C0 3 dX5_joys_52 rfl rfl ?_
          refine j_iconst C0 (v := 1) dX5_joys_53 (by decide) ?_
          refine j_icmp_ne C0 69 dX5_joys_54 (by decide) (fun c_54 => ?_) (fun c_54 => ?_)
          · refine j_aload_n C0 0 dX5_joys_57 rfl rfl ?_
            refine g_Cakes_now C0 w_157 dX5_joys_58 ?_
            refine j_iload_n C0 1 dX5_joys_61 rfl rfl ?_
            refine j_iload_n C0 2 dX5_joys_62 rfl rfl ?_
            refine j_callVi C0 (c_X0_joyOfEating l z _ 0 lt3_0 _ _ hv1.1 hv1.2 hI) yk_X0_joyOfEating w_371 (fun H locs hP _ => recvW C0 hP _ (by have := lt3_0; omega) (cel_fete lt3_0) rfl) ⟨Nat.le_of_ble_eq_true rfl, Nat.le_of_ble_eq_true rfl⟩ rfl rfl (Nat.le_of_ble_eq_true rfl) dX5_joys_63 ?_
            refine j_goto C0 77 dX5_joys_66 (by decide) ?_
            exact j_iretP C0 hrt hlk dX5_joys_77
          · refine j_aload_n C0 0 dX5_joys_69 rfl rfl ?_
            refine g_Cakes_now C0 w_157 dX5_joys_70 ?_
            refine j_iload_n C0 2 dX5_joys_73 rfl rfl ?_
            refine j_callVi C0 (c_X0_joyOfLooking l z _ 0 lt3_0 _ hv1.2) yk_X0_joyOfLooking w_372 (fun H locs hP _ => recvW C0 hP _ (by have := lt3_0; omega) (cel_fete lt3_0) rfl) ⟨Nat.le_of_ble_eq_true rfl, Nat.le_of_ble_eq_true rfl⟩ rfl rfl (Nat.le_of_ble_eq_true rfl) dX5_joys_74 ?_
            exact j_iretP C0 hrt hlk dX5_joys_77
