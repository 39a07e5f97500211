def f_X6_isPerson (g : Mem) (p0 : Int32) : Int32 := (f_X6_isIn p0 (0 : Int32) ((g 1 0) - (1 : Int32)))
theorem b01_X6_isPerson (g : Mem) (p0 : Int32) : f_X6_isPerson g p0 = 0 ∨ f_X6_isPerson g p0 = 1 := by
  unfold f_X6_isPerson
  repeat' split
  all_goals first | (with_reducible exact Or.inl rfl) | (with_reducible exact Or.inr rfl) | assumption | (with_reducible exact b01_X6_isIn _ _ _)
theorem yk_X6_isPerson : yokV yX6_isPerson RX6 cX6_isPerson 2 (some .boolean) 1 := ⟨w_903, w_902, wp_31, w_8, by decide +kernel⟩
set_option maxHeartbeats 4000000 in
set_option maxRecDepth 100000 in
theorem c_X6_isPerson (l : Launch) (z : ZM) (g : Mem) (p0 : Int32) (hI : InM g) : ctM l yX6_isPerson cX6_isPerson 2 (some .boolean) 1 22 z g [.ref (yad z 0), .int p0] (qIM z (f_X6_isPerson g p0, g)) := by
  refine ct_of (own := RX6) (q := fun r => qIM z (r, g)) (res := f_X6_isPerson g p0) (lv := [(0, .ref (yad z 0)), (1, .int p0)]) enokM rfl (by decide) (Nat.le_of_ble_eq_true rfl) rfl (fun p e s m args below meth c C0 hrt hlk => ?_)
  unfold f_X6_isPerson
  refine j_iload_n C0 1 dX6_isPerson_0 rfl rfl ?_
  refine j_iconst C0 (v := 0) dX6_isPerson_1 (by decide) ?_
  refine j_aload_n C0 0 dX6_isPerson_2 rfl rfl ?_
  refine g_Model_s C0 w_800 dX6_isPerson_3 ?_
  refine j_iconst C0 (v := 0) dX6_isPerson_6 (by decide) ?_
  refine a_Ml C0 (by decide) ixl_0 vl57_0 dX6_isPerson_7 ?_
  refine j_iconst C0 (v := 1) dX6_isPerson_8 (by decide) ?_
  refine j_isub C0 dX6_isPerson_9 ?_
  refine j_callSi C0 (c_X6_isIn l z _ _ _ _) yk_X6_isIn w_872 ⟨Nat.le_of_ble_eq_true rfl, Nat.le_of_ble_eq_true rfl⟩ rfl rfl (Nat.le_of_ble_eq_true rfl) dX6_isPerson_10 ?_
  exact j_zretP C0 hrt hlk (b01_X6_isIn _ _ _) dX6_isPerson_13
theorem isPerson_in {g : Mem} (hI : InM g) {p0 : Int32} (c : ¬ f_X6_isPerson g p0 = 0) : vp_in p0 9 := by
  have h1 := isIn_in (b := 0) (c := g 1 0 - 1) c
  have e0 : (0 : Int32).toInt = 0 := rfl
  have h2 := InM_s hI
  have h3 := InM_s0 hI
  by_cases h : 1 ≤ (g 1 0).toInt
  · rw [sub1_toInt h] at h1
    exact vin_of (by omega) (by omega)
  · have e : g 1 0 = 0 := Int32.toInt_inj.mp (by omega)
    rw [e] at h1
    have : ((0 : Int32) - 1).toInt = -1 := by decide
    omega
theorem isPerson_8 {g : Mem} (hI : InM g) {p0 : Int32} (c : ¬ f_X6_isPerson g p0 = 0) : vp_in p0 8 := by
  have h1 := isIn_in (b := 0) (c := g 1 0 - 1) c
  have e0 : (0 : Int32).toInt = 0 := rfl
  have h2 := InM_s hI
  have h3 := InM_s0 hI
  by_cases h : 1 ≤ (g 1 0).toInt
  · rw [sub1_toInt h] at h1
    exact vin_of (by omega) (by omega)
  · have e : g 1 0 = 0 := Int32.toInt_inj.mp (by omega)
    rw [e] at h1
    have : ((0 : Int32) - 1).toInt = -1 := by decide
    omega

def f_X6_wrongRow (g : Mem) (p0 p1 : Int32) : Int32 := if (f_X6_isShelf p0) = 0 then ((-1 : Int32)) else (if (g 8 (ix p0)) = 0 then ((-11 : Int32)) else (if (g 8 (ix p0)) = (2 : Int32) then (if p1 < 0 then ((0 : Int32)) else (if (g 11 (ix p0)) = p1 then ((0 : Int32)) else ((-12 : Int32)))) else ((-12 : Int32))))
theorem yk_X6_wrongRow : yokV yX6_wrongRow RX6 cX6_wrongRow 3 (some .int) 2 := ⟨w_868, w_867, wp_26, w_8, by decide +kernel⟩
set_option maxHeartbeats 4000000 in
set_option maxRecDepth 100000 in
theorem c_X6_wrongRow (l : Launch) (z : ZM) (g : Mem) (p0 p1 : Int32) (hI : InM g) : ctM l yX6_wrongRow cX6_wrongRow 3 (some .int) 2 42 z g [.ref (yad z 0), .int p0, .int p1] (qIM z (f_X6_wrongRow g p0 p1, g)) := by
  refine ct_of (own := RX6) (q := fun r => qIM z (r, g)) (res := f_X6_wrongRow g p0 p1) (lv := [(0, .ref (yad z 0)), (1, .int p0), (2, .int p1)]) enokM rfl (by decide) (Nat.le_of_ble_eq_true rfl) rfl (fun p e s m args below meth c C0 hrt hlk => ?_)
  unfold f_X6_wrongRow
  refine j_iload_n C0 1 dX6_wrongRow_0 rfl rfl ?_
  refine j_callSi C0 (c_X6_isShelf l z _ _) yk_X6_isShelf w_869 ⟨Nat.le_of_ble_eq_true rfl, Nat.le_of_ble_eq_true rfl⟩ rfl rfl (Nat.le_of_ble_eq_true rfl) dX6_wrongRow_1 ?_
  refine j_if_ne C0 11 dX6_wrongRow_4 (by decide) (fun c_4 => ?_) (fun c_4 => ?_)
  · refine j_iconst C0 (v := (-1)) dX6_wrongRow_7 (by decide) ?_
    refine j_goto C0 55 dX6_wrongRow_8 (by decide) ?_
    exact j_iretP C0 hrt hlk dX6_wrongRow_55
  · have hv := isShelfM_in c_4
    refine j_aload_n C0 0 dX6_wrongRow_11 rfl rfl ?_
    refine g_Model_kept C0 w_813 dX6_wrongRow_12 ?_
    refine j_iload_n C0 1 dX6_wrongRow_15 rfl rfl ?_
    refine a_M C0 (by decide) hv dX6_wrongRow_16 ?_
    refine j_if_ne C0 25 dX6_wrongRow_17 (by decide) (fun c_17 => ?_) (fun c_17 => ?_)
    · refine j_bipush C0 (v := (-11)) dX6_wrongRow_20 (by decide) ?_
      refine j_goto C0 55 dX6_wrongRow_22 (by decide) ?_
      exact j_iretP C0 hrt hlk dX6_wrongRow_55
    · refine j_aload_n C0 0 dX6_wrongRow_25 rfl rfl ?_
      refine g_Model_kept C0 w_813 dX6_wrongRow_26 ?_
      refine j_iload_n C0 1 dX6_wrongRow_29 rfl rfl ?_
      refine a_M C0 (by decide) hv dX6_wrongRow_30 ?_
      refine j_iconst C0 (v := 2) dX6_wrongRow_31 (by decide) ?_
      refine j_icmp_ne C0 49 dX6_wrongRow_32 (by decide) (fun c_32 => ?_) (fun c_32 => ?_)
      · refine j_iload_n C0 2 dX6_wrongRow_35 rfl rfl ?_
        refine j_if_lt C0 54 dX6_wrongRow_36 (by decide) (fun c_36 => ?_) (fun c_36 => ?_)
        · refine j_iconst C0 (v := 0) dX6_wrongRow_54 (by decide) ?_
          exact j_iretP C0 hrt hlk dX6_wrongRow_55
        · refine j_aload_n C0 0 dX6_wrongRow_39 rfl rfl ?_
          refine g_Model_sort C0 w_816 dX6_wrongRow_40 ?_
          refine j_iload_n C0 1 dX6_wrongRow_43 rfl rfl ?_
          refine a_M C0 (by decide) hv dX6_wrongRow_44 ?_
          refine j_iload_n C0 2 dX6_wrongRow_45 rfl rfl ?_
          refine j_icmp_eq C0 54 dX6_wrongRow_46 (by decide) (fun c_46 => ?_) (fun c_46 => ?_)
          · refine j_iconst C0 (v := 0) dX6_wrongRow_54 (by decide) ?_
            exact j_iretP C0 hrt hlk dX6_wrongRow_55
          · refine j_bipush C0 (v := (-12)) dX6_wrongRow_49 (by decide) ?_
            refine j_goto C0 55 dX6_wrongRow_51 (by decide) ?_
            exact j_iretP C0 hrt hlk dX6_wrongRow_55
      · refine j_bipush C0 (v := (-12)) dX6_wrongRow_49 (by decide) ?_
        refine j_goto C0 55 dX6_wrongRow_51 (by decide) ?_
        exact j_iretP C0 hrt hlk dX6_wrongRow_55
theorem wrongRow_in {g : Mem} {a b : Int32} (h : f_X6_wrongRow g a b = 0) : vp_in a 8 := by
  unfold f_X6_wrongRow at h
  split at h
  · exact absurd h (by decide)
  · exact isShelfM_in (by assumption)

def f_X6_wrongKept (g : Mem) (p0 : Int32) : Int32 := if (f_X6_isShelf p0) = 0 then ((-1 : Int32)) else (if (g 8 (ix p0)) = 0 then ((-11 : Int32)) else (if (g 8 (ix p0)) = (2 : Int32) then ((-12 : Int32)) else ((0 : Int32))))
theorem yk_X6_wrongKept : yokV yX6_wrongKept RX6 cX6_wrongKept 2 (some .int) 1 := ⟨w_951, w_950, wp_32, w_8, by decide +kernel⟩
set_option maxHeartbeats 4000000 in
set_option maxRecDepth 100000 in
theorem c_X6_wrongKept (l : Launch) (z : ZM) (g : Mem) (p0 : Int32) (hI : InM g) : ctM l yX6_wrongKept cX6_wrongKept 2 (some .int) 2 42 z g [.ref (yad z 0), .int p0] (qIM z (f_X6_wrongKept g p0, g)) := by
  refine ct_of (own := RX6) (q := fun r => qIM z (r, g)) (res := f_X6_wrongKept g p0) (lv := [(0, .ref (yad z 0)), (1, .int p0)]) enokM rfl (by decide) (Nat.le_of_ble_eq_true rfl) rfl (fun p e s m args below meth c C0 hrt hlk => ?_)
  unfold f_X6_wrongKept
  refine j_iload_n C0 1 dX6_wrongKept_0 rfl rfl ?_
  refine j_callSi C0 (c_X6_isShelf l z _ _) yk_X6_isShelf w_869 ⟨Nat.le_of_ble_eq_true rfl, Nat.le_of_ble_eq_true rfl⟩ rfl rfl (Nat.le_of_ble_eq_true rfl) dX6_wrongKept_1 ?_
  refine j_if_ne C0 11 dX6_wrongKept_4 (by decide) (fun c_4 => ?_) (fun c_4 => ?_)
  · refine j_iconst C0 (v := (-1)) dX6_wrongKept_7 (by decide) ?_
    refine j_goto C0 41 dX6_wrongKept_8 (by decide) ?_
    exact j_iretP C0 hrt hlk dX6_wrongKept_41
  · have hv := isShelfM_in c_4
    refine j_aload_n C0 0 dX6_wrongKept_11 rfl rfl ?_
    refine g_Model_kept C0 w_813 dX6_wrongKept_12 ?_
    refine j_iload_n C0 1 dX6_wrongKept_15 rfl rfl ?_
    refine a_M C0 (by decide) hv dX6_wrongKept_16 ?_
    refine j_if_ne C0 25 dX6_wrongKept_17 (by decide) (fun c_17 => ?_) (fun c_17 => ?_)
    · refine j_bipush C0 (v := (-11)) dX6_wrongKept_20 (by decide) ?_
      refine j_goto C0 41 dX6_wrongKept_22 (by decide) ?_
      exact j_iretP C0 hrt hlk dX6_wrongKept_41
    · refine j_aload_n C0 0 dX6_wrongKept_25 rfl rfl ?_
      refine g_Model_kept C0 w_813 dX6_wrongKept_26 ?_
      refine j_iload_n C0 1 dX6_wrongKept_29 rfl rfl ?_
      refine a_M C0 (by decide) hv dX6_wrongKept_30 ?_
      refine j_iconst C0 (v := 2) dX6_wrongKept_31 (by decide) ?_
      refine j_icmp_ne C0 40 dX6_wrongKept_32 (by decide) (fun c_32 => ?_) (fun c_32 => ?_)
      · refine j_bipush C0 (v := (-12)) dX6_wrongKept_35 (by decide) ?_
        refine j_goto C0 41 dX6_wrongKept_37 (by decide) ?_
        exact j_iretP C0 hrt hlk dX6_wrongKept_41
      · refine j_iconst C0 (v := 0) dX6_wrongKept_40 (by decide) ?_
        exact j_iretP C0 hrt hlk dX6_wrongKept_41
theorem wrongKept_in {g : Mem} {a : Int32} (h : f_X6_wrongKept g a = 0) : vp_in a 8 := by
  unfold f_X6_wrongKept at h
  split at h
  · exact absurd h (by decide)
  · exact isShelfM_in (by assumption)

def f_X6_person (g : Mem) (p0 p1 : Int32) : Int32 := if (f_X6_isPerson g p0) = 0 then ((-1 : Int32)) else (if (f_X6_isIn p1 (0 : Int32) (8 : Int32)) = 0 then ((-1 : Int32)) else (if (6 : Int32) ≤ p1 then (if p1 = (6 : Int32) then ((f_X6_bite (g 1 (ix (f_X6_of p0 (0 : Int32)))) (g 1 (ix (f_X6_of p0 (1 : Int32)))))) else (if p1 = (7 : Int32) then ((f_X6_gaze (g 1 (ix (f_X6_of p0 (0 : Int32)))) (g 1 (ix (f_X6_of p0 (1 : Int32)))))) else ((f_X6_shy (g 1 (ix (f_X6_of p0 (0 : Int32)))))))) else ((g 1 (ix (f_X6_of p0 p1))))))
theorem yk_X6_person : yokV yX6_person RX6 cX6_person 5 (some .int) 2 := ⟨w_943, w_941, w_942, w_8, by decide +kernel⟩
set_option maxHeartbeats 4000000 in
set_option maxRecDepth 100000 in
theorem c_X6_person (l : Launch) (z : ZM) (g : Mem) (p0 p1 : Int32) (hI : InM g) : ctM l yX6_person cX6_person 5 (some .int) 2 43 z g [.ref (yad z 0), .int p0, .int p1] (qIM z (f_X6_person g p0 p1, g)) := by
  refine ct_of (own := RX6) (q := fun r => qIM z (r, g)) (res := f_X6_person g p0 p1) (lv := [(0, .ref (yad z 0)), (1, .int p0), (2, .int p1)]) enokM rfl (by decide) (Nat.le_of_ble_eq_true rfl) rfl (fun p e s m args below meth c C0 hrt hlk => ?_)
  unfold f_X6_person
  refine j_aload_n C0 0 dX6_person_0 rfl rfl ?_
  refine j_iload_n C0 1 dX6_person_1 rfl rfl ?_
  refine j_callVi C0 (c_X6_isPerson l z _ _ hI) yk_X6_isPerson w_900 (fun H locs hP _ => recvW C0 hP 0 (by decide) celM_0 rfl) ⟨Nat.le_of_ble_eq_true rfl, Nat.le_of_ble_eq_true rfl⟩ rfl rfl (Nat.le_of_ble_eq_true rfl) dX6_person_2 ?_
  refine j_if_eq C0 18 dX6_person_5 (by decide) (fun c_5 => ?_) (fun c_5 => ?_)
  · refine j_iconst C0 (v := (-1)) dX6_person_18 (by decide) ?_
    exact j_iretP C0 hrt hlk dX6_person_19
  · have hvp0 := isPerson_in hI c_5
    refine j_iload_n C0 2 dX6_person_8 rfl rfl ?_
    refine j_iconst C0 (v := 0) dX6_person_9 (by decide) ?_
    refine j_bipush C0 (v := 8) dX6_person_10 (by decide) ?_
    refine j_callSi C0 (c_X6_isIn l z _ _ _ _) yk_X6_isIn w_872 ⟨Nat.le_of_ble_eq_true rfl, Nat.le_of_ble_eq_true rfl⟩ rfl rfl (Nat.le_of_ble_eq_true rfl) dX6_person_12 ?_
    refine j_if_ne C0 20 dX6_person_15 (by decide) (fun c_15 => ?_) (fun c_15 => ?_)
    · refine j_iconst C0 (v := (-1)) dX6_person_18 (by decide) ?_
      exact j_iretP C0 hrt hlk dX6_person_19
    · refine j_aload_n C0 0 dX6_person_20 rfl rfl ?_
      refine g_Model_s C0 w_800 dX6_person_21 ?_
      refine j_iload_n C0 1 dX6_person_24 rfl rfl ?_
      refine j_iconst C0 (v := 0) dX6_person_25 (by decide) ?_
      refine j_callSi C0 (c_X6_of l z _ _ _) yk_X6_of w_897 ⟨Nat.le_of_ble_eq_true rfl, Nat.le_of_ble_eq_true rfl⟩ rfl rfl (Nat.le_of_ble_eq_true rfl) dX6_person_26 ?_
      refine a_M C0 (by decide) (of_in0 hvp0) dX6_person_29 ?_
      refine j_istore_n C0 (lv' := [(3, _), (0, _), (1, _), (2, _)]) dX6_person_30 rfl (by decide) rfl ?_
      refine j_aload_n C0 1 dX6_person_31 rfl rfl ?_
      refine g_Model_s C0 w_800 dX6_person_32 ?_
      refine j_iload_n C0 2 dX6_person_35 rfl rfl ?_
      refine j_iconst C0 (v := 1) dX6_person_36 (by decide) ?_
      refine j_callSi C0 (c_X6_of l z _ _ _) yk_X6_of w_897 ⟨Nat.le_of_ble_eq_true rfl, Nat.le_of_ble_eq_true rfl⟩ rfl rfl (Nat.le_of_ble_eq_true rfl) dX6_person_37 ?_
      refine a_M C0 (by decide) (of_in1 hvp0) dX6_person_40 ?_
      refine j_istore C0 (lv' := [(4, _), (3, _), (0, _), (1, _), (2, _)]) dX6_person_41 (by decide) rfl ?_
      refine j_iload_n C0 4 dX6_person_43 rfl rfl ?_
      refine j_bipush C0 (v := 6) dX6_person_44 (by decide) ?_
      refine j_icmp_ge C0 62 dX6_person_46 (by decide) (fun c_46 => ?_) (fun c_46 => ?_)
      · refine j_iload_n C0 4 dX6_person_62 rfl rfl ?_
        refine j_bipush C0 (v := 6) dX6_person_63 (by decide) ?_
        refine j_icmp_ne C0 77 dX6_person_65 (by decide) (fun c_65 => ?_) (fun c_65 => ?_)
        · refine j_iload_n C0 1 dX6_person_68 rfl rfl ?_
          refine j_iload C0 0 dX6_person_69 rfl ?_
          refine j_callSi C0 (c_X6_bite l z _ _ _) yk_X6_bite w_922 ⟨Nat.le_of_ble_eq_true rfl, Nat.le_of_ble_eq_true rfl⟩ rfl rfl (Nat.le_of_ble_eq_true rfl) dX6_person_71 ?_
          refine j_goto C0 96 dX6_person_74 (by decide) ?_
          exact j_iretP C0 hrt hlk dX6_person_96
        · refine j_iload_n C0 4 dX6_person_77 rfl rfl ?_
          refine j_bipush C0 (v := 7) dX6_person_78 (by decide) ?_
          refine j_icmp_ne C0 92 dX6_person_80 (by decide) (fun c_80 => ?_) (fun c_80 => ?_)
          · refine j_iload_n C0 1 dX6_person_83 rfl rfl ?_
            refine j_iload C0 0 dX6_person_84 rfl ?_
            refine j_callSi C0 (c_X6_gaze l z _ _ _) yk_X6_gaze w_937 ⟨Nat.le_of_ble_eq_true rfl, Nat.le_of_ble_eq_true rfl⟩ rfl rfl (Nat.le_of_ble_eq_true rfl) dX6_person_86 ?_
            refine j_goto C0 96 dX6_person_89 (by decide) ?_
            exact j_iretP C0 hrt hlk dX6_person_96
          · refine j_iload_n C0 1 dX6_person_92 rfl rfl ?_
            refine j_callSi C0 (c_X6_shy l z _ _) yk_X6_shy w_928 ⟨Nat.le_of_ble_eq_true rfl, Nat.le_of_ble_eq_true rfl⟩ rfl rfl (Nat.le_of_ble_eq_true rfl) dX6_person_93 ?_
            exact j_iretP C0 hrt hlk dX6_person_96
      · refine j_aload_n C0 2 dX6_person_49 rfl rfl ?_
        refine g_Model_s C0 w_800 dX6_person_50 ?_
        refine j_iload_n C0 3 dX6_person_53 rfl rfl ?_
        refine j_iload_n C0 4 dX6_person_54 rfl rfl ?_
        refine j_callSi C0 (c_X6_of l z _ _ _) yk_X6_of w_897 ⟨Nat.le_of_ble_eq_true rfl, Nat.le_of_ble_eq_true rfl⟩ rfl rfl (Nat.le_of_ble_eq_true rfl) dX6_person_55 ?_
        refine a_M C0 (by decide) (of_in hvp0 (what_in c_15 c_46)) dX6_person_58 ?_
        refine j_goto C0 96 dX6_person_59 (by decide) ?_
        exact j_iretP C0 hrt hlk dX6_person_96
def f_X6_comes (g : Mem) (p0 p1 p2 : Int32) : Int32 × Mem := if (f_X6_isIn p1 (0 : Int32) (30 : Int32)) = 0 then (((-1 : Int32), g)) else (if (f_X6_isIn p2 (0 : Int32) (30 : Int32)) = 0 then (((-1 : Int32), g)) else (if (f_X6_wrongKept g p0) = 0 then (if (g 1 0) = (8 : Int32) then (((-2 : Int32), g)) else (((((f_X6_adds g 1 (g 9 (ix p0)) (g 10 (ix p0)) p1 p2) 1 0) - (1 : Int32)), (f_X6_adds g 1 (g 9 (ix p0)) (g 10 (ix p0)) p1 p2)))) else (((f_X6_wrongKept g p0), g))))
def r_X6_comes (g : Mem) (p0 p1 p2 : Int32) : Int32 := (f_X6_comes g p0 p1 p2).1
def m_X6_comes (g : Mem) (p0 p1 p2 : Int32) : Mem := (f_X6_comes g p0 p1 p2).2
theorem e_X6_comes (g : Mem) (p0 p1 p2 : Int32) : (r_X6_comes g p0 p1 p2, m_X6_comes g p0 p1 p2) = f_X6_comes g p0 p1 p2 := by unfold r_X6_comes m_X6_comes; exact pmk_eta _
theorem yk_X6_comes : yokV yX6_comes RX6 cX6_comes 5 (some .int) 3 := ⟨w_947, w_945, w_946, w_8, by decide +kernel⟩
set_option maxHeartbeats 4000000 in
set_option maxRecDepth 100000 in
theorem c_X6_comes (l : Launch) (z : ZM) (g : Mem) (p0 p1 p2 : Int32) (hI : InM g) : ctM l yX6_comes cX6_comes 5 (some .int) 3 63 z g [.ref (yad z 0), .int p0, .int p1, .int p2] (qIM z (r_X6_comes g p0 p1 p2, m_X6_comes g p0 p1 p2)) := by
  rw [e_X6_comes]
  refine ct_of (own := RX6) (q := fun r => qIM z r) (res := f_X6_comes g p0 p1 p2) (lv := [(0, .ref (yad z 0)), (1, .int p0), (2, .int p1), (3, .int p2)]) enokM rfl (by decide) (Nat.le_of_ble_eq_true rfl) rfl (fun p e s m args below meth c C0 hrt hlk => ?_)
  unfold f_X6_comes
  refine j_iload_n C0 2 dX6_comes_0 rfl rfl ?_
  refine j_iconst C0 (v := 0) dX6_comes_1 (by decide) ?_
  refine j_bipush C0 (v := 30) dX6_comes_2 (by decide) ?_
  refine j_callSi C0 (c_X6_isIn l z _ _ _ _) yk_X6_isIn w_872 ⟨Nat.le_of_ble_eq_true rfl, Nat.le_of_ble_eq_true rfl⟩ rfl rfl (Nat.le_of_ble_eq_true rfl) dX6_comes_4 ?_
  refine j_if_eq C0 20 dX6_comes_7 (by decide) (fun c_7 => ?_) (fun c_7 => ?_)
  · refine j_iconst C0 (v := (-1)) dX6_comes_20 (by decide) ?_
    exact j_iretM C0 hrt hlk dX6_comes_21
  · refine j_iload_n C0 3 dX6_comes_10 rfl rfl ?_
    refine j_iconst C0 (v := 0) dX6_comes_11 (by decide) ?_
    refine j_bipush C0 (v := 30) dX6_comes_12 (by decide) ?_
    refine j_callSi C0 (c_X6_isIn l z _ _ _ _) yk_X6_isIn w_872 ⟨Nat.le_of_ble_eq_true rfl, Nat.le_of_ble_eq_true rfl⟩ rfl rfl (Nat.le_of_ble_eq_true rfl) dX6_comes_14 ?_
    refine j_if_ne C0 22 dX6_comes_17 (by decide) (fun c_17 => ?_) (fun c_17 => ?_)
    · refine j_iconst C0 (v := (-1)) dX6_comes_20 (by decide) ?_
      exact j_iretM C0 hrt hlk dX6_comes_21
    · refine j_aload_n C0 0 dX6_comes_22 rfl rfl ?_
      refine j_iload_n C0 1 dX6_comes_23 rfl rfl ?_
      refine j_callVi C0 (c_X6_wrongKept l z _ _ hI) yk_X6_wrongKept w_948 (fun H locs hP _ => recvW C0 hP 0 (by decide) celM_0 rfl) ⟨Nat.le_of_ble_eq_true rfl, Nat.le_of_ble_eq_true rfl⟩ rfl rfl (Nat.le_of_ble_eq_true rfl) dX6_comes_24 ?_
      refine j_istore C0 (lv' := [(4, _), (0, _), (1, _), (2, _), (3, _)]) dX6_comes_27 (by decide) rfl ?_
      refine j_iload C0 0 dX6_comes_29 rfl ?_
      refine j_if_eq C0 37 dX6_comes_31 (by decide) (fun c_31 => ?_) (fun c_31 => ?_)
      · have hv := wrongKept_in c_31
        refine j_aload_n C0 1 dX6_comes_37 rfl rfl ?_
        refine g_Model_s C0 w_800 dX6_comes_38 ?_
        refine j_iconst C0 (v := 0) dX6_comes_41 (by decide) ?_
        refine a_Ml C0 (by decide) ixl_0 vl57_0 dX6_comes_42 ?_
        refine j_bipush C0 (v := 8) dX6_comes_43 (by decide) ?_
        refine j_icmp_ne C0 51 dX6_comes_45 (by decide) (fun c_45 => ?_) (fun c_45 => ?_)
        · refine j_bipush C0 (v := (-2)) dX6_comes_48 (by decide) ?_
          exact j_iretM C0 hrt hlk dX6_comes_50
        · refine j_aload_n C0 1 dX6_comes_51 rfl rfl ?_
          refine g_Model_s C0 w_800 dX6_comes_52 ?_
          refine j_aload_n C0 1 dX6_comes_55 rfl rfl ?_
          refine g_Model_keptKind C0 w_814 dX6_comes_56 ?_
          refine j_iload_n C0 2 dX6_comes_59 rfl rfl ?_
          refine a_M C0 (by decide) hv dX6_comes_60 ?_
          refine j_aload_n C0 1 dX6_comes_61 rfl rfl ?_
          refine g_Model_keptFigure C0 w_815 dX6_comes_62 ?_
          refine j_iload_n C0 2 dX6_comes_65 rfl rfl ?_
          refine a_M C0 (by decide) hv dX6_comes_66 ?_
          refine j_iload_n C0 3 dX6_comes_67 rfl rfl ?_
          refine j_iload_n C0 4 dX6_comes_68 rfl rfl ?_
          refine j_callSv C0 (c_X6_adds l z _ 1 rw4_1 _ _ _ _ (vin9 (s_lt8 hI c_45))) yk_X6_adds w_894 ⟨Nat.le_of_ble_eq_true rfl, Nat.le_of_ble_eq_true rfl⟩ rfl rfl (Nat.le_of_ble_eq_true rfl) dX6_comes_69 ?_
          refine j_aload_n C0 1 dX6_comes_72 rfl rfl ?_
          refine g_Model_s C0 w_800 dX6_comes_73 ?_
          refine j_iconst C0 (v := 0) dX6_comes_76 (by decide) ?_
          refine a_Ml C0 (by decide) ixl_0 vl57_0 dX6_comes_77 ?_
          refine j_iconst C0 (v := 1) dX6_comes_78 (by decide) ?_
          refine j_isub C0 dX6_comes_79 ?_
          exact j_iretM C0 hrt hlk dX6_comes_80
      · refine j_iload C0 0 dX6_comes_34 rfl ?_
        exact j_iretM C0 hrt hlk dX6_comes_36
def f_X6_feels (g : Mem) (p0 p1 p2 : Int32) : Int32 × Mem := if (f_X6_isPerson g p0) = 0 then (((-1 : Int32), g)) else (if (f_X6_isIn p1 (0 : Int32) (1 : Int32)) = 0 then (((-1 : Int32), g)) else (if (f_X6_isIn p2 (0 : Int32) (30 : Int32)) = 0 then (((-1 : Int32), g)) else (if p1 = 0 then (((g 1 (ix (f_X6_of p0 (2 : Int32)))), (up g 1 (ix (f_X6_of p0 (2 : Int32))) p2))) else (((g 1 (ix (f_X6_of p0 (3 : Int32)))), (up g 1 (ix (f_X6_of p0 (3 : Int32))) p2))))))
def r_X6_feels (g : Mem) (p0 p1 p2 : Int32) : Int32 := (f_X6_feels g p0 p1 p2).1
def m_X6_feels (g : Mem) (p0 p1 p2 : Int32) : Mem := (f_X6_feels g p0 p1 p2).2
theorem e_X6_feels (g : Mem) (p0 p1 p2 : Int32) : (r_X6_feels g p0 p1 p2, m_X6_feels g p0 p1 p2) = f_X6_feels g p0 p1 p2 := by unfold r_X6_feels m_X6_feels; exact pmk_eta _
theorem yk_X6_feels : yokV yX6_feels RX6 cX6_feels 6 (some .int) 3 := ⟨w_955, w_953, w_954, w_8, by decide +kernel⟩
set_option maxHeartbeats 4000000 in
set_option maxRecDepth 100000 in
theorem c_X6_feels (l : Launch) (z : ZM) (g : Mem) (p0 p1 p2 : Int32) (hI : InM g) : ctM l yX6_feels cX6_feels 6 (some .int) 2 43 z g [.ref (yad z 0), .int p0, .int p1, .int p2] (qIM z (r_X6_feels g p0 p1 p2, m_X6_feels g p0 p1 p2)) := by
  rw [e_X6_feels]
  refine ct_of (own := RX6) (q := fun r => qIM z r) (res := f_X6_feels g p0 p1 p2) (lv := [(0, .ref (yad z 0)), (1, .int p0), (2, .int p1), (3, .int p2)]) enokM rfl (by decide) (Nat.le_of_ble_eq_true rfl) rfl (fun p e s m args below meth c C0 hrt hlk => ?_)
  unfold f_X6_feels
  refine j_aload_n C0 0 dX6_feels_0 rfl rfl ?_
  refine j_iload_n C0 1 dX6_feels_1 rfl rfl ?_
  refine j_callVi C0 (c_X6_isPerson l z _ _ hI) yk_X6_isPerson w_900 (fun H locs hP _ => recvW C0 hP 0 (by decide) celM_0 rfl) ⟨Nat.le_of_ble_eq_true rfl, Nat.le_of_ble_eq_true rfl⟩ rfl rfl (Nat.le_of_ble_eq_true rfl) dX6_feels_2 ?_
  refine j_if_eq C0 27 dX6_feels_5 (by decide) (fun c_5 => ?_) (fun c_5 => ?_)
  · refine j_iconst C0 (v := (-1)) dX6_feels_27 (by decide) ?_
    exact j_iretM C0 hrt hlk dX6_feels_28
  · have hvp0 := isPerson_in hI c_5
    refine j_iload_n C0 2 dX6_feels_8 rfl rfl ?_
    refine j_iconst C0 (v := 0) dX6_feels_9 (by decide) ?_
    refine j_iconst C0 (v := 1) dX6_feels_10 (by decide) ?_
    refine j_callSi C0 (c_X6_isIn l z _ _ _ _) yk_X6_isIn w_872 ⟨Nat.le_of_ble_eq_true rfl, Nat.le_of_ble_eq_true rfl⟩ rfl rfl (Nat.le_of_ble_eq_true rfl) dX6_feels_11 ?_
    refine j_if_eq C0 27 dX6_feels_14 (by decide) (fun c_14 => ?_) (fun c_14 => ?_)
    · refine j_iconst C0 (v := (-1)) dX6_feels_27 (by decide) ?_
      exact j_iretM C0 hrt hlk dX6_feels_28
    · refine j_iload_n C0 3 dX6_feels_17 rfl rfl ?_
      refine j_iconst C0 (v := 0) dX6_feels_18 (by decide) ?_
      refine j_bipush C0 (v := 30) dX6_feels_19 (by decide) ?_
      refine j_callSi C0 (c_X6_isIn l z _ _ _ _) yk_X6_isIn w_872 ⟨Nat.le_of_ble_eq_true rfl, Nat.le_of_ble_eq_true rfl⟩ rfl rfl (Nat.le_of_ble_eq_true rfl) dX6_feels_21 ?_
      refine j_if_ne C0 29 dX6_feels_24 (by decide) (fun c_24 => ?_) (fun c_24 => ?_)
      · refine j_iconst C0 (v := (-1)) dX6_feels_27 (by decide) ?_
        exact j_iretM C0 hrt hlk dX6_feels_28
      · refine j_iload_n C0 1 dX6_feels_29 rfl rfl ?_
        refine j_iload_n C0 2 dX6_feels_30 rfl rfl ?_
        refine j_if_ne C0 38 dX6_feels_31 (by decide) (fun c_31 => ?_) (fun c_31 => ?_)
        · refine j_iconst C0 (v := 2) dX6_feels_34 (by decide) ?_
          refine j_goto C0 39 dX6_feels_35 (by decide) ?_
          refine j_callSi C0 (c_X6_of l z _ _ _) yk_X6_of w_897 ⟨Nat.le_of_ble_eq_true rfl, Nat.le_of_ble_eq_true rfl⟩ rfl rfl (Nat.le_of_ble_eq_true rfl) dX6_feels_39 ?_
          refine j_istore C0 (lv' := [(4, _), (0, _), (1, _), (2, _), (3, _)]) dX6_feels_42 (by decide) rfl ?_
          refine j_aload_n C0 1 dX6_feels_44 rfl rfl ?_
          refine g_Model_s C0 w_800 dX6_feels_45 ?_
          refine j_iload C0 0 dX6_feels_48 rfl ?_
          refine a_M C0 (by decide) (of_in2 hvp0) dX6_feels_50 ?_
          refine j_istore C0 (lv' := [(5, _), (4, _), (0, _), (1, _), (2, _), (3, _)]) dX6_feels_51 (by decide) rfl ?_
          refine j_aload_n C0 2 dX6_feels_53 rfl rfl ?_
          refine g_Model_s C0 w_800 dX6_feels_54 ?_
          refine j_iload C0 1 dX6_feels_57 rfl ?_
          refine j_iload_n C0 5 dX6_feels_59 rfl rfl ?_
          refine s_M C0 (by decide) (of_in2 hvp0) dX6_feels_60 ?_
          refine j_iload C0 0 dX6_feels_61 rfl ?_
          exact j_iretM C0 hrt hlk dX6_feels_63
        · refine j_iconst C0 (v := 3) dX6_feels_38 (by decide) ?_
          refine j_callSi C0 (c_X6_of l z _ _ _) yk_X6_of w_897 ⟨Nat.le_of_ble_eq_true rfl, Nat.le_of_ble_eq_true rfl⟩ rfl rfl (Nat.le_of_ble_eq_true rfl) dX6_feels_39 ?_
          refine j_istore C0 (lv' := [(4, _), (0, _), (1, _), (2, _), (3, _)]) dX6_feels_42 (by decide) rfl ?_
          refine j_aload_n C0 1 dX6_feels_44 rfl rfl ?_
          refine g_Model_s C0 w_800 dX6_feels_45 ?_
          refine j_iload C0 0 dX6_feels_48 rfl ?_
          refine a_M C0 (by decide) (of_in3 hvp0) dX6_feels_50 ?_
          refine j_istore C0 (lv' := [(5, _), (4, _), (0, _), (1, _), (2, _), (3, _)]) dX6_feels_51 (by decide) rfl ?_
          refine j_aload_n C0 2 dX6_feels_53 rfl rfl ?_
          refine g_Model_s C0 w_800 dX6_feels_54 ?_
          refine j_iload C0 1 dX6_feels_57 rfl ?_
          refine j_iload_n C0 5 dX6_feels_59 rfl rfl ?_
          refine s_M C0 (by decide) (of_in3 hvp0) dX6_feels_60 ?_
          refine j_iload C0 0 dX6_feels_61 rfl ?_
          exact j_iretM C0 hrt hlk dX6_feels_63
def f_X6_slices (g : Mem) (p0 : Int32) : Int32 × Mem := if (f_X6_isIn p0 (0 : Int32) (99 : Int32)) = 0 then (((-1 : Int32), g)) else (((g 1 1), (up g 1 1 p0)))
def r_X6_slices (g : Mem) (p0 : Int32) : Int32 := (f_X6_slices g p0).1
def m_X6_slices (g : Mem) (p0 : Int32) : Mem := (f_X6_slices g p0).2
theorem e_X6_slices (g : Mem) (p0 : Int32) : (r_X6_slices g p0, m_X6_slices g p0) = f_X6_slices g p0 := by unfold r_X6_slices m_X6_slices; exact pmk_eta _
theorem yk_X6_slices : yokV yX6_slices RX6 cX6_slices 3 (some .int) 1 := ⟨w_959, w_957, w_958, w_8, by decide +kernel⟩
set_option maxHeartbeats 4000000 in
set_option maxRecDepth 100000 in
theorem c_X6_slices (l : Launch) (z : ZM) (g : Mem) (p0 : Int32) (hI : InM g) : ctM l yX6_slices cX6_slices 3 (some .int) 1 22 z g [.ref (yad z 0), .int p0] (qIM z (r_X6_slices g p0, m_X6_slices g p0)) := by
  rw [e_X6_slices]
  refine ct_of (own := RX6) (q := fun r => qIM z r) (res := f_X6_slices g p0) (lv := [(0, .ref (yad z 0)), (1, .int p0)]) enokM rfl (by decide) (Nat.le_of_ble_eq_true rfl) rfl (fun p e s m args below meth c C0 hrt hlk => ?_)
  unfold f_X6_slices
  refine j_iload_n C0 1 dX6_slices_0 rfl rfl ?_
  refine j_iconst C0 (v := 0) dX6_slices_1 (by decide) ?_
  refine j_bipush C0 (v := 99) dX6_slices_2 (by decide) ?_
  refine j_callSi C0 (c_X6_isIn l z _ _ _ _) yk_X6_isIn w_872 ⟨Nat.le_of_ble_eq_true rfl, Nat.le_of_ble_eq_true rfl⟩ rfl rfl (Nat.le_of_ble_eq_true rfl) dX6_slices_4 ?_
  refine j_if_ne C0 12 dX6_slices_7 (by decide) (fun c_7 => ?_) (fun c_7 => ?_)
  · refine j_iconst C0 (v := (-1)) dX6_slices_10 (by decide) ?_
    exact j_iretM C0 hrt hlk dX6_slices_11
  · refine j_aload_n C0 0 dX6_slices_12 rfl rfl ?_
    refine g_Model_s C0 w_800 dX6_slices_13 ?_
    refine j_iconst C0 (v := 1) dX6_slices_16 (by decide) ?_
    refine a_Ml C0 (by decide) ixl_1 vl57_1 dX6_slices_17 ?_
    refine j_istore_n C0 (lv' := [(2, _), (0, _), (1, _)]) dX6_slices_18 rfl (by decide) rfl ?_
    refine j_aload_n C0 1 dX6_slices_19 rfl rfl ?_
    refine g_Model_s C0 w_800 dX6_slices_20 ?_
    refine j_iconst C0 (v := 1) dX6_slices_23 (by decide) ?_
    refine j_iload_n C0 2 dX6_slices_24 rfl rfl ?_
    refine s_Ml C0 (by decide) ixl_1 vl57_1 dX6_slices_25 ?_
    refine j_iload_n C0 0 dX6_slices_26 rfl rfl ?_
    exact j_iretM C0 hrt hlk dX6_slices_27
def f_X6_wrongTurn (g : Mem) (p0 p1 : Int32) : Int32 := if (f_X6_isPerson g p0) = 0 then ((-1 : Int32)) else (if (f_X6_isPerson g p1) = 0 then ((-1 : Int32)) else (if p0 = p1 then ((-1 : Int32)) else (if (f_X6_canEat g 1 p0 p1) = 0 then ((-3 : Int32)) else ((0 : Int32)))))
theorem yk_X6_wrongTurn : yokV yX6_wrongTurn RX6 cX6_wrongTurn 3 (some .int) 2 := ⟨w_967, w_966, wp_33, w_8, by decide +kernel⟩
set_option maxHeartbeats 4000000 in
set_option maxRecDepth 100000 in
theorem c_X6_wrongTurn (l : Launch) (z : ZM) (g : Mem) (p0 p1 : Int32) (hI : InM g) : ctM l yX6_wrongTurn cX6_wrongTurn 3 (some .int) 3 64 z g [.ref (yad z 0), .int p0, .int p1] (qIM z (f_X6_wrongTurn g p0 p1, g)) := by
  refine ct_of (own := RX6) (q := fun r => qIM z (r, g)) (res := f_X6_wrongTurn g p0 p1) (lv := [(0, .ref (yad z 0)), (1, .int p0), (2, .int p1)]) enokM rfl (by decide) (Nat.le_of_ble_eq_true rfl) rfl (fun p e s m args below meth c C0 hrt hlk => ?_)
  unfold f_X6_wrongTurn
  refine j_aload_n C0 0 dX6_wrongTurn_0 rfl rfl ?_
  refine j_iload_n C0 1 dX6_wrongTurn_1 rfl rfl ?_
  refine j_callVi C0 (c_X6_isPerson l z _ _ hI) yk_X6_isPerson w_900 (fun H locs hP _ => recvW C0 hP 0 (by decide) celM_0 rfl) ⟨Nat.le_of_ble_eq_true rfl, Nat.le_of_ble_eq_true rfl⟩ rfl rfl (Nat.le_of_ble_eq_true rfl) dX6_wrongTurn_2 ?_
  refine j_if_eq C0 21 dX6_wrongTurn_5 (by decide) (fun c_5 => ?_) (fun c_5 => ?_)
  · refine j_iconst C0 (v := (-1)) dX6_wrongTurn_21 (by decide) ?_
    refine j_goto C0 43 dX6_wrongTurn_22 (by decide) ?_
    exact j_iretP C0 hrt hlk dX6_wrongTurn_43
  · refine j_aload_n C0 0 dX6_wrongTurn_8 rfl rfl ?_
    refine j_iload_n C0 2 dX6_wrongTurn_9 rfl rfl ?_
    refine j_callVi C0 (c_X6_isPerson l z _ _ hI) yk_X6_isPerson w_900 (fun H locs hP _ => recvW C0 hP 0 (by decide) celM_0 rfl) ⟨Nat.le_of_ble_eq_true rfl, Nat.le_of_ble_eq_true rfl⟩ rfl rfl (Nat.le_of_ble_eq_true rfl) dX6_wrongTurn_10 ?_
    refine j_if_eq C0 21 dX6_wrongTurn_13 (by decide) (fun c_13 => ?_) (fun c_13 => ?_)
    · refine j_iconst C0 (v := (-1)) dX6_wrongTurn_21 (by decide) ?_
      refine j_goto C0 43 dX6_wrongTurn_22 (by decide) ?_
      exact j_iretP C0 hrt hlk dX6_wrongTurn_43
    · have hvp0 := isPerson_in hI c_5
      have hvp1 := isPerson_in hI c_13
      refine j_iload_n C0 1 dX6_wrongTurn_16 rfl rfl ?_
      refine j_iload_n C0 2 dX6_wrongTurn_17 rfl rfl ?_
      refine j_icmp_ne C0 25 dX6_wrongTurn_18 (by decide) (fun c_18 => ?_) (fun c_18 => ?_)
      · refine j_iconst C0 (v := (-1)) dX6_wrongTurn_21 (by decide) ?_
        refine j_goto C0 43 dX6_wrongTurn_22 (by decide) ?_
        exact j_iretP C0 hrt hlk dX6_wrongTurn_43
      · refine j_aload_n C0 0 dX6_wrongTurn_25 rfl rfl ?_
        refine g_Model_s C0 w_800 dX6_wrongTurn_26 ?_
        refine j_iload_n C0 1 dX6_wrongTurn_29 rfl rfl ?_
        refine j_iload_n C0 2 dX6_wrongTurn_30 rfl rfl ?_
        refine j_callSi C0 (c_X6_canEat l z _ 1 rw4_1 _ _ hvp0 hvp1) yk_X6_canEat w_904 ⟨Nat.le_of_ble_eq_true rfl, Nat.le_of_ble_eq_true rfl⟩ rfl rfl (Nat.le_of_ble_eq_true rfl) dX6_wrongTurn_31 ?_
        refine j_if_eq C0 41 dX6_wrongTurn_34 (by decide) (fun c_34 => ?_) (fun c_34 => ?_)
        · refine j_bipush C0 (v := (-3)) dX6_wrongTurn_41 (by decide) ?_
          exact j_iretP C0 hrt hlk dX6_wrongTurn_43
        · refine j_iconst C0 (v := 0) dX6_wrongTurn_37 (by decide) ?_
          refine j_goto C0 43 dX6_wrongTurn_38 (by decide) ?_
          exact j_iretP C0 hrt hlk dX6_wrongTurn_43
theorem wrongTurn_in {g : Mem} (hI : InM g) {a b : Int32} (h : f_X6_wrongTurn g a b = 0) : vp_in a 9 ∧ vp_in b 9 := by
  unfold f_X6_wrongTurn at h
  split at h
  · exact absurd h (by decide)
  · split at h
    · exact absurd h (by decide)
    · exact ⟨isPerson_in hI (by assumption), isPerson_in hI (by assumption)⟩

def f_X6_eats (g : Mem) (p0 p1 : Int32) : Int32 × Mem := if (f_X6_wrongTurn g p0 p1) = 0 then (if (g 1 2) = (999 : Int32) then (((-3 : Int32), g)) else (if (f_X6_wrongTurn g p0 p1) = 0 then (((r_X6_turn g 1 p0 p1), (m_X6_turn g 1 p0 p1))) else (((f_X6_wrongTurn g p0 p1), g)))) else (if (f_X6_wrongTurn g p0 p1) = 0 then (((r_X6_turn g 1 p0 p1), (m_X6_turn g 1 p0 p1))) else (((f_X6_wrongTurn g p0 p1), g)))
def r_X6_eats (g : Mem) (p0 p1 : Int32) : Int32 := (f_X6_eats g p0 p1).1
def m_X6_eats (g : Mem) (p0 p1 : Int32) : Mem := (f_X6_eats g p0 p1).2
theorem e_X6_eats (g : Mem) (p0 p1 : Int32) : (r_X6_eats g p0 p1, m_X6_eats g p0 p1) = f_X6_eats g p0 p1 := by unfold r_X6_eats m_X6_eats; exact pmk_eta _
theorem yk_X6_eats : yokV yX6_eats RX6 cX6_eats 4 (some .int) 2 := ⟨w_963, w_961, w_962, w_8, by decide +kernel⟩
set_option maxHeartbeats 4000000 in
set_option maxRecDepth 100000 in
theorem c_X6_eats (l : Launch) (z : ZM) (g : Mem) (p0 p1 : Int32) (hI : InM g) : ctM l yX6_eats cX6_eats 4 (some .int) 5 109 z g [.ref (yad z 0), .int p0, .int p1] (qIM z (r_X6_eats g p0 p1, m_X6_eats g p0 p1)) := by
  rw [e_X6_eats]
  refine ct_of (own := RX6) (q := fun r => qIM z r) (res := f_X6_eats g p0 p1) (lv := [(0, .ref (yad z 0)), (1, .int p0), (2, .int p1)]) enokM rfl (by decide) (Nat.le_of_ble_eq_true rfl) rfl (fun p e s m args below meth c C0 hrt hlk => ?_)
  unfold f_X6_eats
  refine j_aload_n C0 0 dX6_eats_0 rfl rfl ?_
  refine j_iload_n C0 1 dX6_eats_1 rfl rfl ?_
  refine j_iload_n C0 2 dX6_eats_2 rfl rfl ?_
  refine j_callVi C0 (c_X6_wrongTurn l z _ _ _ hI) yk_X6_wrongTurn w_964 (fun H locs hP _ => recvW C0 hP 0 (by decide) celM_0 rfl) ⟨Nat.le_of_ble_eq_true rfl, Nat.le_of_ble_eq_true rfl⟩ rfl rfl (Nat.le_of_ble_eq_true rfl) dX6_eats_3 ?_
  refine j_istore_n C0 (lv' := [(3, _), (0, _), (1, _), (2, _)]) dX6_eats_6 rfl (by decide) rfl ?_
  refine j_iload_n C0 0 dX6_eats_7 rfl rfl ?_
  refine j_if_ne C0 26 dX6_eats_8 (by decide) (fun c_8 => ?_) (fun c_8 => ?_)
  · refine j_aload_n C0 1 dX6_eats_11 rfl rfl ?_
    refine g_Model_s C0 w_800 dX6_eats_12 ?_
    refine j_iconst C0 (v := 2) dX6_eats_15 (by decide) ?_
    refine a_Ml C0 (by decide) ixl_2 vl57_2 dX6_eats_16 ?_
    refine j_sipush C0 (v := 999) dX6_eats_17 (by decide) ?_
    refine j_icmp_ne C0 26 dX6_eats_20 (by decide) (fun c_20 => ?_) (fun c_20 => ?_)
    · refine j_bipush C0 (v := (-3)) dX6_eats_23 (by decide) ?_
      refine j_istore_n C0 (lv' := [(3, _), (0, _), (1, _), (2, _)]) dX6_eats_25 rfl (by decide) rfl ?_
      refine j_iload_n C0 0 dX6_eats_26 rfl rfl ?_
      refine j_if_eqF C0 34 dX6_eats_27 (by decide) (by decide) ?_
      refine j_iload_n C0 0 dX6_eats_30 rfl rfl ?_
      refine j_goto C0 43 dX6_eats_31 (by decide) ?_
      exact j_iretM C0 hrt hlk dX6_eats_43
    · refine j_iload_n C0 0 dX6_eats_26 rfl rfl ?_
      refine j_if_eq C0 34 dX6_eats_27 (by decide) (fun c_27 => ?_) (fun c_27 => ?_)
      · have hwt := wrongTurn_in hI c_27
        refine j_aload_n C0 1 dX6_eats_34 rfl rfl ?_
        refine g_Model_s C0 w_800 dX6_eats_35 ?_
        refine j_iload_n C0 2 dX6_eats_38 rfl rfl ?_
        refine j_iload_n C0 3 dX6_eats_39 rfl rfl ?_
        refine j_callSi C0 (c_X6_turn l z _ 1 rw4_1 _ _ hwt.1 hwt.2) yk_X6_turn w_910 ⟨Nat.le_of_ble_eq_true rfl, Nat.le_of_ble_eq_true rfl⟩ rfl rfl (Nat.le_of_ble_eq_true rfl) dX6_eats_40 ?_
        exact j_iretM C0 hrt hlk dX6_eats_43
      · refine j_iload_n C0 0 dX6_eats_30 rfl rfl ?_
        refine j_goto C0 43 dX6_eats_31 (by decide) ?_
        exact j_iretM C0 hrt hlk dX6_eats_43
  · refine j_iload_n C0 0 dX6_eats_26 rfl rfl ?_
    refine j_if_eq C0 34 dX6_eats_27 (by decide) (fun c_27 => ?_) (fun c_27 => ?_)
    · have hwt := wrongTurn_in hI c_27
      refine j_aload_n C0 1 dX6_eats_34 rfl rfl ?_
      refine g_Model_s C0 w_800 dX6_eats_35 ?_
      refine j_iload_n C0 2 dX6_eats_38 rfl rfl ?_
      refine j_iload_n C0 3 dX6_eats_39 rfl rfl ?_
      refine j_callSi C0 (c_X6_turn l z _ 1 rw4_1 _ _ hwt.1 hwt.2) yk_X6_turn w_910 ⟨Nat.le_of_ble_eq_true rfl, Nat.le_of_ble_eq_true rfl⟩ rfl rfl (Nat.le_of_ble_eq_true rfl) dX6_eats_40 ?_
      exact j_iretM C0 hrt hlk dX6_eats_43
    · refine j_iload_n C0 0 dX6_eats_30 rfl rfl ?_
      refine j_goto C0 43 dX6_eats_31 (by decide) ?_
      exact j_iretM C0 hrt hlk dX6_eats_43
def f_X6_joys (g : Mem) (p0 p1 p2 : Int32) : Int32 := if (f_X6_isIn p2 (0 : Int32) (2 : Int32)) = 0 then ((-1 : Int32)) else (if (f_X6_wrongTurn g p0 p1) = 0 then (if p2 = 0 then ((f_X6_joysOf g 1 p0 p1)) else (if p2 = (1 : Int32) then ((f_X6_eaterJoy g 1 p0 p1)) else ((f_X6_gazes g 1 p1)))) else ((f_X6_wrongTurn g p0 p1)))
theorem yk_X6_joys : yokV yX6_joys RX6 cX6_joys 5 (some .int) 3 := ⟨w_971, w_969, w_970, w_8, by decide +kernel⟩
set_option maxHeartbeats 4000000 in
set_option maxRecDepth 100000 in
theorem c_X6_joys (l : Launch) (z : ZM) (g : Mem) (p0 p1 p2 : Int32) (hI : InM g) : ctM l yX6_joys cX6_joys 5 (some .int) 4 86 z g [.ref (yad z 0), .int p0, .int p1, .int p2] (qIM z (f_X6_joys g p0 p1 p2, g)) := by
  refine ct_of (own := RX6) (q := fun r => qIM z (r, g)) (res := f_X6_joys g p0 p1 p2) (lv := [(0, .ref (yad z 0)), (1, .int p0), (2, .int p1), (3, .int p2)]) enokM rfl (by decide) (Nat.le_of_ble_eq_true rfl) rfl (fun p e s m args below meth c C0 hrt hlk => ?_)
  unfold f_X6_joys
  refine j_iload_n C0 3 dX6_joys_0 rfl rfl ?_
  refine j_iconst C0 (v := 0) dX6_joys_1 (by decide) ?_
  refine j_iconst C0 (v := 2) dX6_joys_2 (by decide) ?_
  refine j_callSi C0 (c_X6_isIn l z _ _ _ _) yk_X6_isIn w_872 ⟨Nat.le_of_ble_eq_true rfl, Nat.le_of_ble_eq_true rfl⟩ rfl rfl (Nat.le_of_ble_eq_true rfl) dX6_joys_3 ?_
  refine j_if_ne C0 11 dX6_joys_6 (by decide) (fun c_6 => ?_) (fun c_6 => ?_)
  · refine j_iconst C0 (v := (-1)) dX6_joys_9 (by decide) ?_
    exact j_iretP C0 hrt hlk dX6_joys_10
  · refine j_aload_n C0 0 dX6_joys_11 rfl rfl ?_
    refine j_iload_n C0 1 dX6_joys_12 rfl rfl ?_
    refine j_iload_n C0 2 dX6_joys_13 rfl rfl ?_
    refine j_callVi C0 (c_X6_wrongTurn l z _ _ _ hI) yk_X6_wrongTurn w_964 (fun H locs hP _ => recvW C0 hP 0 (by decide) celM_0 rfl) ⟨Nat.le_of_ble_eq_true rfl, Nat.le_of_ble_eq_true rfl⟩ rfl rfl (Nat.le_of_ble_eq_true rfl) dX6_joys_14 ?_
    refine j_istore C0 (lv' := [(4, _), (0, _), (1, _), (2, _), (3, _)]) dX6_joys_17 (by decide) rfl ?_
    refine j_iload C0 0 dX6_joys_19 rfl ?_
    refine j_if_eq C0 27 dX6_joys_21 (by decide) (fun c_21 => ?_) (fun c_21 => ?_)
    · have hwt := wrongTurn_in hI c_21
      refine j_iload_n C0 4 dX6_joys_27 rfl rfl ?_
      refine j_if_ne C0 43 dX6_joys_28 (by decide) (fun c_28 => ?_) (fun c_28 => ?_)
      · refine j_aload_n C0 1 dX6_joys_31 rfl rfl ?_
        refine g_Model_s C0 w_800 dX6_joys_32 ?_
        refine j_iload_n C0 2 dX6_joys_35 rfl rfl ?_
        refine j_iload_n C0 3 dX6_joys_36 rfl rfl ?_
        refine j_callSi C0 (c_X6_joysOf l z _ 1 rw4_1 _ _ hwt.1 hwt.2) yk_X6_joysOf w_913 ⟨Nat.le_of_ble_eq_true rfl, Nat.le_of_ble_eq_true rfl⟩ rfl rfl (Nat.le_of_ble_eq_true rfl) dX6_joys_37 ?_
        refine j_goto C0 68 dX6_joys_40 (by decide) ?_
        exact j_iretP C0 hrt hlk dX6_joys_68
      · refine j_iload_n C0 4 dX6_joys_43 rfl rfl ?_
        refine j_iconst C0 (v := 1) dX6_joys_44 (by decide) ?_
        refine j_icmp_ne C0 60 dX6_joys_45 (by decide) (fun c_45 => ?_) (fun c_45 => ?_)
        · refine j_aload_n C0 1 dX6_joys_48 rfl rfl ?_
          refine g_Model_s C0 w_800 dX6_joys_49 ?_
          refine j_iload_n C0 2 dX6_joys_52 rfl rfl ?_
          refine j_iload_n C0 3 dX6_joys_53 rfl rfl ?_
          refine j_callSi C0 (c_X6_eaterJoy l z _ 1 rw4_1 _ _ hwt.1 hwt.2) yk_X6_eaterJoy w_916 ⟨Nat.le_of_ble_eq_true rfl, Nat.le_of_ble_eq_true rfl⟩ rfl rfl (Nat.le_of_ble_eq_true rfl) dX6_joys_54 ?_
          refine j_goto C0 68 dX6_joys_57 (by decide) ?_
          exact j_iretP C0 hrt hlk dX6_joys_68
        · refine j_aload_n C0 1 dX6_joys_60 rfl rfl ?_
          refine g_Model_s C0 w_800 dX6_joys_61 ?_
          refine j_iload_n C0 3 dX6_joys_64 rfl rfl ?_
          refine j_callSi C0 (c_X6_gazes l z _ 1 rw4_1 _ hwt.2) yk_X6_gazes w_934 ⟨Nat.le_of_ble_eq_true rfl, Nat.le_of_ble_eq_true rfl⟩ rfl rfl (Nat.le_of_ble_eq_true rfl) dX6_joys_65 ?_
          exact j_iretP C0 hrt hlk dX6_joys_68
    · refine j_iload C0 0 dX6_joys_24 rfl ?_
      exact j_iretP C0 hrt hlk dX6_joys_26
