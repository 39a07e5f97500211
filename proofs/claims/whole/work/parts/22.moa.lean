def f_X6_fete_m1 (g : Mem) (p0 : Int32) : Mem := up g 0 6 ((100 : Int32) * p0)
def f_X6_fete_m2 (g : Mem) (p0 : Int32) : Mem := up (f_X6_fete_m1 g p0) 0 7 ((f_X6_fete_m1 g p0) 12 (ix p0))
def f_X6_fete_m3 (g : Mem) (p0 : Int32) : Mem := up (f_X6_fete_m2 g p0) 0 5 (0 : Int32)
def f_X6_fete_m4 (g : Mem) (p0 : Int32) (g_41 : Mem) : Mem := up (f_X6_copies (m_X6_readsStatement g_41) 1 4) 0 5 (0 : Int32)
def f_X6_fete_93 (g : Mem) (p0 : Int32) : Nat → Int32 → Int32 → Mem → Int32 × Mem
  | 0, _, _, _ => (0, g)
  | n0 + 1, b3, b4, g_93 => if b4 = 0 then (if (g_93 0 7) ≤ (g_93 0 5) then (if b4 = 0 then ((b3, g_93)) else ((b4, g_93))) else (if (r_X6_isDone (m_X6_readsStatement g_93) (f_X6_here g_93)) = 0 then (f_X6_fete_93 g p0 n0 b3 ((-2000 : Int32) - (g_93 0 5)) (f_X6_copies (m_X6_isDone (m_X6_readsStatement g_93) (f_X6_here g_93)) 4 1)) else (f_X6_fete_93 g p0 n0 b3 b4 (m_X6_isDone (m_X6_readsStatement g_93) (f_X6_here g_93))))) else (if b4 = 0 then ((b3, g_93)) else ((b4, g_93)))
def f_X6_fete_m5 (g : Mem) (p0 : Int32) (g_41 : Mem) : Mem := up (f_X6_copies (m_X6_readsStatement g_41) 1 4) 0 5 (0 : Int32)
def f_X6_fete_41 (g : Mem) (p0 : Int32) : Nat → Int32 → Mem → Int32 × Mem
  | 0, _, _ => (0, g)
  | n0 + 1, a3, g_41 => if (r_X6_readsStatement g_41) = 0 then (f_X6_fete_93 g p0 102 (a3 + (1 : Int32)) ((-1000 : Int32) - ((m_X6_readsStatement g_41) 0 5)) (f_X6_fete_m4 g p0 g_41)) else (if ((m_X6_readsStatement g_41) 0 5) < ((m_X6_readsStatement g_41) 0 7) then (f_X6_fete_41 g p0 n0 (a3 + (1 : Int32)) (m_X6_readsStatement g_41)) else (f_X6_fete_93 g p0 102 (a3 + (1 : Int32)) (0 : Int32) (f_X6_fete_m5 g p0 g_41)))
def f_X6_fete (g : Mem) (p0 : Int32) : Int32 × Mem := if (f_X6_wrongRow g p0 (0 : Int32)) = 0 then (f_X6_fete_41 g p0 102 (0 : Int32) (f_X6_fete_m3 g p0)) else (((f_X6_wrongRow g p0 (0 : Int32)), g))
def r_X6_fete (g : Mem) (p0 : Int32) : Int32 := (f_X6_fete g p0).1
def m_X6_fete (g : Mem) (p0 : Int32) : Mem := (f_X6_fete g p0).2
theorem e_X6_fete (g : Mem) (p0 : Int32) : (r_X6_fete g p0, m_X6_fete g p0) = f_X6_fete g p0 := by unfold r_X6_fete m_X6_fete; exact pmk_eta _
theorem yk_X6_fete : yokV yX6_fete RX6 cX6_fete 8 (some .int) 1 := ⟨w_864, w_862, w_863, w_8, by decide +kernel⟩
set_option maxHeartbeats 4000000 in
set_option maxRecDepth 100000 in
theorem c_X6_fete (l : Launch) (z : ZM) (g : Mem) (p0 : Int32) (hI : InM g) : ctM l yX6_fete cX6_fete 8 (some .int) 6 133 z g [.ref (yad z 0), .int p0] (qIM z (r_X6_fete g p0, m_X6_fete g p0)) := by
  rw [e_X6_fete]
  refine ct_of (own := RX6) (q := fun r => qIM z r) (res := f_X6_fete g p0) (lv := [(0, .ref (yad z 0)), (1, .int p0)]) enokM rfl (by decide) (Nat.le_of_ble_eq_true rfl) rfl (fun p e s m args below meth c C0 hrt hlk => ?_)
  unfold f_X6_fete
  refine j_aload_n C0 0 dX6_fete_0 rfl rfl ?_
  refine j_iload_n C0 1 dX6_fete_1 rfl rfl ?_
  refine j_iconst C0 (v := 0) dX6_fete_2 (by decide) ?_
  refine j_callVi C0 (c_X6_wrongRow l z _ _ _ hI) yk_X6_wrongRow w_865 (fun H locs hP _ => recvW C0 hP 0 (by decide) celM_0 rfl) ⟨Nat.le_of_ble_eq_true rfl, Nat.le_of_ble_eq_true rfl⟩ rfl rfl (Nat.le_of_ble_eq_true rfl) dX6_fete_3 ?_
  refine j_istore_n C0 (lv' := [(2, _), (0, _), (1, _)]) dX6_fete_6 rfl (by decide) rfl ?_
  refine j_iload_n C0 0 dX6_fete_7 rfl rfl ?_
  refine j_if_eq C0 13 dX6_fete_8 (by decide) (fun c_8 => ?_) (fun c_8 => ?_)
  · have hv := wrongRow_in c_8
    have hW0 : WP (f_X6_fete_m3 g p0) 100 := fe_W0 hI hv
    refine j_aload_n C0 1 dX6_fete_13 rfl rfl ?_
    refine j_bipush C0 (v := 100) dX6_fete_14 (by decide) ?_
    refine j_iload_n C0 2 dX6_fete_16 rfl rfl ?_
    refine j_imul C0 dX6_fete_17 ?_
    refine p_Model_rowAt C0 w_806 dX6_fete_18 ?_
    refine j_aload_n C0 1 dX6_fete_21 rfl rfl ?_
    refine j_aload_n C0 1 dX6_fete_22 rfl rfl ?_
    refine g_Model_size C0 w_817 dX6_fete_23 ?_
    refine j_iload_n C0 2 dX6_fete_26 rfl rfl ?_
    refine a_M C0 (by decide) hv dX6_fete_27 ?_
    refine p_Model_rowEnd C0 w_807 dX6_fete_28 ?_
    refine j_aload_n C0 1 dX6_fete_31 rfl rfl ?_
    refine j_iconst C0 (v := 0) dX6_fete_32 (by decide) ?_
    refine p_Model_place C0 w_805 dX6_fete_33 ?_
    refine j_iconst C0 (v := 0) dX6_fete_36 (by decide) ?_
    refine j_istore_n C0 (lv' := [(3, _), (2, _), (0, _), (1, _)]) dX6_fete_37 rfl (by decide) rfl ?_
    refine j_iconst C0 (v := 0) dX6_fete_38 (by decide) ?_
    refine j_istore C0 (lv' := [(4, _), (3, _), (2, _), (0, _), (1, _)]) dX6_fete_39 (by decide) rfl ?_
    have L41 : ∀ (n0 : Nat) (a3 : Int32) (g_41 : Mem), ((g_41 0 7).toInt - (g_41 0 5).toInt).toNat < n0 → WP g_41 100 → InM g_41 → RS (f_X6_fete_m3 g p0) g_41 → (∀ k, Ok k g_41 → ∃ q, Ok q (f_X6_fete_m3 g p0)) → jj p l e { frames := 6, cells := 0, slots := 0, locals := 133 } s m args below meth c (yA z) (yD z) 14 (yad z) (celM z) 8 (fun r => MQ below (qIM z r) args s 0 0 (yA z)) (f_X6_fete_41 g p0 n0 a3 g_41) g_41 41 [(0, .ref (yad z 0)), (1, .int p0), (2, .int (f_X6_wrongRow g p0 (0 : Int32))), (3, .int a3), (4, .int (0 : Int32))] [] := by
      intro n0
      induction n0 with
      | zero => intro a3 g_41 hL hW hI1 hR hH; exact absurd hL (Nat.not_lt_zero _)
      | succ n0 ih0 =>
        intro a3 g_41 hL hW hI1 hR hH
        rw [f_X6_fete_41]
        refine j_aload_n C0 0 dX6_fete_41 rfl rfl ?_
        refine j_callVi C0 (c_X6_readsStatement l z _ (WP_up hW (by decide : (100 : Int) ≤ 500))) yk_X6_readsStatement w_875 (fun H locs hP _ => recvW C0 hP 0 (by decide) celM_0 rfl) ⟨Nat.le_of_ble_eq_true rfl, Nat.le_of_ble_eq_true rfl⟩ rfl rfl (Nat.le_of_ble_eq_true rfl) dX6_fete_42 ?_
        refine j_if_ne C0 58 dX6_fete_45 (by decide) (fun c_45 => ?_) (fun c_45 => ?_)
        · refine j_sipush C0 (v := (-1000)) dX6_fete_48 (by decide) ?_
          refine j_aload_n C0 0 dX6_fete_51 rfl rfl ?_
          refine g_Model_place C0 w_805 dX6_fete_52 ?_
          refine j_isub C0 dX6_fete_55 ?_
          refine j_istore C0 (lv' := [(4, _), (0, _), (1, _), (2, _), (3, _)]) dX6_fete_56 (by decide) rfl ?_
          refine j_iinc C0 (lv' := [(3, _), (4, _), (0, _), (1, _), (2, _)]) (v := _ + (1)) 4 dX6_fete_58 rfl (by rfl) (by decide) rfl ?_
          refine j_iload C0 1 dX6_fete_61 rfl ?_
          refine j_if_neT C0 77 dX6_fete_63 (by decide) (msub_ne (by decide) (WP_rs (WP_up hW (by decide : (100 : Int) ≤ 500))).2.2.2.1) ?_
          refine j_aload_n C0 2 dX6_fete_77 rfl rfl ?_
          refine g_Model_s C0 w_800 dX6_fete_78 ?_
          refine j_aload_n C0 2 dX6_fete_81 rfl rfl ?_
          refine g_Model_was C0 w_803 dX6_fete_82 ?_
          refine j_callSv C0 (c_X6_copies l z _ 1 rw4_1 4 rw4_4) yk_X6_copies w_887 ⟨Nat.le_of_ble_eq_true rfl, Nat.le_of_ble_eq_true rfl⟩ rfl rfl (Nat.le_of_ble_eq_true rfl) dX6_fete_85 ?_
          refine j_aload_n C0 2 dX6_fete_88 rfl rfl ?_
          refine j_iconst C0 (v := 0) dX6_fete_89 (by decide) ?_
          refine p_Model_place C0 w_805 dX6_fete_90 ?_
          have L93 : ∀ (n0 : Nat) (b3 : Int32) (b4 : Int32) (g_93 : Mem), ((g_93 0 7).toInt - (g_93 0 5).toInt).toNat < n0 → WP g_93 100 → InM g_93 → 0 ≤ (g_93 4 0).toInt ∧ (g_93 4 0).toInt ≤ 8 → (b4 = 0 → ∃ q, Ok q g_93) → jj p l e { frames := 6, cells := 0, slots := 0, locals := 133 } s m args below meth c (yA z) (yD z) 14 (yad z) (celM z) 8 (fun r => MQ below (qIM z r) args s 0 0 (yA z)) (f_X6_fete_93 g p0 n0 b3 b4 g_93) g_93 93 [(0, .ref (yad z 0)), (1, .int p0), (2, .int (f_X6_wrongRow g p0 (0 : Int32))), (3, .int b3), (4, .int b4)] [] := by
            intro n0
            induction n0 with
            | zero => intro b3 b4 g_93 hL9 hW9 hI9 h49 hO9; exact absurd hL9 (Nat.not_lt_zero _)
            | succ n0 ih0 =>
              intro b3 b4 g_93 hL9 hW9 hI9 h49 hO9
              rw [f_X6_fete_93]
              refine j_iload C0 4 dX6_fete_93 rfl ?_
              refine j_if_ne C0 161 dX6_fete_95 (by decide) (fun c_95 => ?_) (fun c_95 => ?_)
              · refine j_aload_n C0 0 dX6_fete_98 rfl rfl ?_
                refine g_Model_place C0 w_805 dX6_fete_99 ?_
                refine j_aload_n C0 0 dX6_fete_102 rfl rfl ?_
                refine g_Model_rowEnd C0 w_807 dX6_fete_103 ?_
                refine j_icmp_ge C0 161 dX6_fete_106 (by decide) (fun c_106 => ?_) (fun c_106 => ?_)
                · refine j_iload C0 4 dX6_fete_161 rfl ?_
                  refine j_if_ne C0 170 dX6_fete_163 (by decide) (fun c_163 => ?_) (fun c_163 => ?_)
                  · refine j_iload_n C0 3 dX6_fete_166 rfl rfl ?_
                    refine j_goto C0 172 dX6_fete_167 (by decide) ?_
                    exact j_iretM C0 hrt hlk dX6_fete_172
                  · refine j_iload C0 4 dX6_fete_170 rfl ?_
                    exact j_iretM C0 hrt hlk dX6_fete_172
                · have hst := fe_step (hO9 c_95) c_106
                  have hq := fe_r hst
                  have hWm := rs_WP hW9 hq
                  refine j_aload_n C0 0 dX6_fete_109 rfl rfl ?_
                  refine g_Model_place C0 w_805 dX6_fete_110 ?_
                  refine j_istore C0 (lv' := [(5, _), (0, _), (1, _), (2, _), (3, _), (4, _)]) dX6_fete_113 (by decide) rfl ?_
                  refine j_aload_n C0 1 dX6_fete_115 rfl rfl ?_
                  refine j_callVi C0 (c_X6_here l z _ (WP_up (WP_up hW9 (by decide : (100 : Int) ≤ 500)) (by decide))) yk_X6_here w_879 (fun H locs hP _ => recvW C0 hP 0 (by decide) celM_0 rfl) ⟨Nat.le_of_ble_eq_true rfl, Nat.le_of_ble_eq_true rfl⟩ rfl rfl (Nat.le_of_ble_eq_true rfl) dX6_fete_116 ?_
                  refine j_istore C0 (lv' := [(6, _), (5, _), (0, _), (1, _), (2, _), (3, _), (4, _)]) dX6_fete_119 (by decide) rfl ?_
                  refine j_aload_n C0 2 dX6_fete_121 rfl rfl ?_
                  refine j_callVi C0 (c_X6_readsStatement l z _ (WP_up hW9 (by decide : (100 : Int) ≤ 500))) yk_X6_readsStatement w_875 (fun H locs hP _ => recvW C0 hP 0 (by decide) celM_0 rfl) ⟨Nat.le_of_ble_eq_true rfl, Nat.le_of_ble_eq_true rfl⟩ rfl rfl (Nat.le_of_ble_eq_true rfl) dX6_fete_122 ?_
                  refine j_istore C0 (lv' := [(7, _), (6, _), (5, _), (0, _), (1, _), (2, _), (3, _), (4, _)]) dX6_fete_125 (by decide) rfl ?_
                  refine j_aload_n C0 3 dX6_fete_127 rfl rfl ?_
                  refine j_iload C0 1 dX6_fete_128 rfl ?_
                  refine j_callVi C0 (c_X6_isDone l z _ _ (InM_RS RS_rs hI9)) yk_X6_isDone w_890 (fun H locs hP _ => recvW C0 hP 0 (by decide) celM_0 rfl) ⟨Nat.le_of_ble_eq_true rfl, Nat.le_of_ble_eq_true rfl⟩ rfl rfl (Nat.le_of_ble_eq_true rfl) dX6_fete_130 ?_
                  refine j_if_eq C0 139 dX6_fete_133 (by decide) (fun c_133 => ?_) (fun c_133 => ?_)
                  · refine j_sipush C0 (v := (-2000)) dX6_fete_139 (by decide) ?_
                    refine j_iload C0 2 dX6_fete_142 rfl ?_
                    refine j_isub C0 dX6_fete_144 ?_
                    refine j_istore C0 (lv' := [(4, _), (7, _), (6, _), (5, _), (0, _), (1, _), (2, _), (3, _)]) dX6_fete_145 (by decide) rfl ?_
                    refine j_aload_n C0 4 dX6_fete_147 rfl rfl ?_
                    refine g_Model_was C0 w_803 dX6_fete_148 ?_
                    refine j_aload_n C0 4 dX6_fete_151 rfl rfl ?_
                    refine g_Model_s C0 w_800 dX6_fete_152 ?_
                    refine j_callSv C0 (c_X6_copies l z _ 4 rw4_4 1 rw4_1) yk_X6_copies w_887 ⟨Nat.le_of_ble_eq_true rfl, Nat.le_of_ble_eq_true rfl⟩ rfl rfl (Nat.le_of_ble_eq_true rfl) dX6_fete_155 ?_
                    refine j_goto C0 93 dX6_fete_158 (by decide) ?_
                    exact j_sub [4, 5, 6, 7, 0] rfl (ih0 _ _ _ (by first | with_reducible exact fe_L9 hW9 hq hL9 RE_isDone | exact fe_L9 hW9 hq hL9 RE_failed) (by first | with_reducible exact WP_RE RE_isDone hWm | exact WP_RE RE_failed hWm) (InM_fail hI9 h49) (by first | with_reducible exact fe_49 h49 NK_isDone | exact fe_49 h49 NK_failed) (by first | exact fun _ => fe_okd hst RE_isDone | exact fun q => absurd q (msub_ne (by decide) hW9.2.2.2.1)))
                  · refine j_goto C0 93 dX6_fete_136 (by decide) ?_
                    exact j_sub [3, 4, 5, 6, 7] rfl (ih0 _ _ _ (by first | with_reducible exact fe_L9 hW9 hq hL9 RE_isDone | exact fe_L9 hW9 hq hL9 RE_failed) (by first | with_reducible exact WP_RE RE_isDone hWm | exact WP_RE RE_failed hWm) (InM_isDone (InM_RS RS_rs hI9)) (by first | with_reducible exact fe_49 h49 NK_isDone | exact fe_49 h49 NK_failed) (by first | exact fun _ => fe_okd hst RE_isDone | exact fun q => absurd q (msub_ne (by decide) hW9.2.2.2.1)))
              · refine j_iload C0 4 dX6_fete_161 rfl ?_
                refine j_if_ne C0 170 dX6_fete_163 (by decide) (fun c_163 => ?_) (fun c_163 => ?_)
                · refine j_iload_n C0 3 dX6_fete_166 rfl rfl ?_
                  refine j_goto C0 172 dX6_fete_167 (by decide) ?_
                  exact j_iretM C0 hrt hlk dX6_fete_172
                · refine j_iload C0 4 dX6_fete_170 rfl ?_
                  exact j_iretM C0 hrt hlk dX6_fete_172
          exact j_sub [2, 3, 4, 0, 1] rfl (L93 102 _ _ _ (fe_L0 (WP_RE (fe_R9 up_eq hR) hW0)) (WP_RE (fe_R9 up_eq hR) hW0) (InM_up (InM_cp1_4 (InM_RS RS_rs hI1)) (by decide) (by decide) (by decide)) (fe_40 hI1) (by first | exact fun _ => fe_O up_eq hR hH c_45 c_74 | exact fun q => absurd q (msub_ne (by decide) (WP_rs (WP_up hW (by decide : (100 : Int) ≤ 500))).2.2.2.1)))
        · refine j_iinc C0 (lv' := [(3, _), (0, _), (1, _), (2, _), (4, _)]) (v := _ + (1)) 3 dX6_fete_58 rfl (by rfl) (by decide) rfl ?_
          refine j_iload C0 4 dX6_fete_61 rfl ?_
          refine j_if_neF C0 77 dX6_fete_63 (by decide) (by decide) ?_
          refine j_aload_n C0 1 dX6_fete_66 rfl rfl ?_
          refine g_Model_place C0 w_805 dX6_fete_67 ?_
          refine j_aload_n C0 1 dX6_fete_70 rfl rfl ?_
          refine g_Model_rowEnd C0 w_807 dX6_fete_71 ?_
          refine j_icmp_lt C0 41 dX6_fete_74 (by decide) (fun c_74 => ?_) (fun c_74 => ?_)
          · exact j_sub [1, 2, 3, 0, 4] rfl (ih0 _ _ (fe_L9 hW c_45 hL RE_rf) (rs_WP hW c_45) (InM_RS RS_rs hI1) (RS_tr hR RS_rs) (fun k h => hH (k + 1) (Or.inr ⟨c_45, h⟩)))
          · refine j_aload_n C0 1 dX6_fete_77 rfl rfl ?_
            refine g_Model_s C0 w_800 dX6_fete_78 ?_
            refine j_aload_n C0 1 dX6_fete_81 rfl rfl ?_
            refine g_Model_was C0 w_803 dX6_fete_82 ?_
            refine j_callSv C0 (c_X6_copies l z _ 1 rw4_1 4 rw4_4) yk_X6_copies w_887 ⟨Nat.le_of_ble_eq_true rfl, Nat.le_of_ble_eq_true rfl⟩ rfl rfl (Nat.le_of_ble_eq_true rfl) dX6_fete_85 ?_
            refine j_aload_n C0 1 dX6_fete_88 rfl rfl ?_
            refine j_iconst C0 (v := 0) dX6_fete_89 (by decide) ?_
            refine p_Model_place C0 w_805 dX6_fete_90 ?_
            have L93 : ∀ (n0 : Nat) (b3 : Int32) (b4 : Int32) (g_93 : Mem), ((g_93 0 7).toInt - (g_93 0 5).toInt).toNat < n0 → WP g_93 100 → InM g_93 → 0 ≤ (g_93 4 0).toInt ∧ (g_93 4 0).toInt ≤ 8 → (b4 = 0 → ∃ q, Ok q g_93) → jj p l e { frames := 6, cells := 0, slots := 0, locals := 133 } s m args below meth c (yA z) (yD z) 14 (yad z) (celM z) 8 (fun r => MQ below (qIM z r) args s 0 0 (yA z)) (f_X6_fete_93 g p0 n0 b3 b4 g_93) g_93 93 [(0, .ref (yad z 0)), (1, .int p0), (2, .int (f_X6_wrongRow g p0 (0 : Int32))), (3, .int b3), (4, .int b4)] [] := by
              intro n0
              induction n0 with
              | zero => intro b3 b4 g_93 hL9 hW9 hI9 h49 hO9; exact absurd hL9 (Nat.not_lt_zero _)
              | succ n0 ih0 =>
                intro b3 b4 g_93 hL9 hW9 hI9 h49 hO9
                rw [f_X6_fete_93]
                refine j_iload C0 4 dX6_fete_93 rfl ?_
                refine j_if_ne C0 161 dX6_fete_95 (by decide) (fun c_95 => ?_) (fun c_95 => ?_)
                · refine j_aload_n C0 0 dX6_fete_98 rfl rfl ?_
                  refine g_Model_place C0 w_805 dX6_fete_99 ?_
                  refine j_aload_n C0 0 dX6_fete_102 rfl rfl ?_
                  refine g_Model_rowEnd C0 w_807 dX6_fete_103 ?_
                  refine j_icmp_ge C0 161 dX6_fete_106 (by decide) (fun c_106 => ?_) (fun c_106 => ?_)
                  · refine j_iload C0 4 dX6_fete_161 rfl ?_
                    refine j_if_ne C0 170 dX6_fete_163 (by decide) (fun c_163 => ?_) (fun c_163 => ?_)
                    · refine j_iload_n C0 3 dX6_fete_166 rfl rfl ?_
                      refine j_goto C0 172 dX6_fete_167 (by decide) ?_
                      exact j_iretM C0 hrt hlk dX6_fete_172
                    · refine j_iload C0 4 dX6_fete_170 rfl ?_
                      exact j_iretM C0 hrt hlk dX6_fete_172
                  · have hst := fe_step (hO9 c_95) c_106
                    have hq := fe_r hst
                    have hWm := rs_WP hW9 hq
                    refine j_aload_n C0 0 dX6_fete_109 rfl rfl ?_
                    refine g_Model_place C0 w_805 dX6_fete_110 ?_
                    refine j_istore C0 (lv' := [(5, _), (0, _), (1, _), (2, _), (3, _), (4, _)]) dX6_fete_113 (by decide) rfl ?_
                    refine j_aload_n C0 1 dX6_fete_115 rfl rfl ?_
                    refine j_callVi C0 (c_X6_here l z _ (WP_up (WP_up hW9 (by decide : (100 : Int) ≤ 500)) (by decide))) yk_X6_here w_879 (fun H locs hP _ => recvW C0 hP 0 (by decide) celM_0 rfl) ⟨Nat.le_of_ble_eq_true rfl, Nat.le_of_ble_eq_true rfl⟩ rfl rfl (Nat.le_of_ble_eq_true rfl) dX6_fete_116 ?_
                    refine j_istore C0 (lv' := [(6, _), (5, _), (0, _), (1, _), (2, _), (3, _), (4, _)]) dX6_fete_119 (by decide) rfl ?_
                    refine j_aload_n C0 2 dX6_fete_121 rfl rfl ?_
                    refine j_callVi C0 (c_X6_readsStatement l z _ (WP_up hW9 (by decide : (100 : Int) ≤ 500))) yk_X6_readsStatement w_875 (fun H locs hP _ => recvW C0 hP 0 (by decide) celM_0 rfl) ⟨Nat.le_of_ble_eq_true rfl, Nat.le_of_ble_eq_true rfl⟩ rfl rfl (Nat.le_of_ble_eq_true rfl) dX6_fete_122 ?_
                    refine j_istore C0 (lv' := [(7, _), (6, _), (5, _), (0, _), (1, _), (2, _), (3, _), (4, _)]) dX6_fete_125 (by decide) rfl ?_
                    refine j_aload_n C0 3 dX6_fete_127 rfl rfl ?_
                    refine j_iload C0 1 dX6_fete_128 rfl ?_
                    refine j_callVi C0 (c_X6_isDone l z _ _ (InM_RS RS_rs hI9)) yk_X6_isDone w_890 (fun H locs hP _ => recvW C0 hP 0 (by decide) celM_0 rfl) ⟨Nat.le_of_ble_eq_true rfl, Nat.le_of_ble_eq_true rfl⟩ rfl rfl (Nat.le_of_ble_eq_true rfl) dX6_fete_130 ?_
                    refine j_if_eq C0 139 dX6_fete_133 (by decide) (fun c_133 => ?_) (fun c_133 => ?_)
                    · refine j_sipush C0 (v := (-2000)) dX6_fete_139 (by decide) ?_
                      refine j_iload C0 2 dX6_fete_142 rfl ?_
                      refine j_isub C0 dX6_fete_144 ?_
                      refine j_istore C0 (lv' := [(4, _), (7, _), (6, _), (5, _), (0, _), (1, _), (2, _), (3, _)]) dX6_fete_145 (by decide) rfl ?_
                      refine j_aload_n C0 4 dX6_fete_147 rfl rfl ?_
                      refine g_Model_was C0 w_803 dX6_fete_148 ?_
                      refine j_aload_n C0 4 dX6_fete_151 rfl rfl ?_
                      refine g_Model_s C0 w_800 dX6_fete_152 ?_
                      refine j_callSv C0 (c_X6_copies l z _ 4 rw4_4 1 rw4_1) yk_X6_copies w_887 ⟨Nat.le_of_ble_eq_true rfl, Nat.le_of_ble_eq_true rfl⟩ rfl rfl (Nat.le_of_ble_eq_true rfl) dX6_fete_155 ?_
                      refine j_goto C0 93 dX6_fete_158 (by decide) ?_
                      exact j_sub [4, 5, 6, 7, 0] rfl (ih0 _ _ _ (by first | with_reducible exact fe_L9 hW9 hq hL9 RE_isDone | exact fe_L9 hW9 hq hL9 RE_failed) (by first | with_reducible exact WP_RE RE_isDone hWm | exact WP_RE RE_failed hWm) (InM_fail hI9 h49) (by first | with_reducible exact fe_49 h49 NK_isDone | exact fe_49 h49 NK_failed) (by first | exact fun _ => fe_okd hst RE_isDone | exact fun q => absurd q (msub_ne (by decide) hW9.2.2.2.1)))
                    · refine j_goto C0 93 dX6_fete_136 (by decide) ?_
                      exact j_sub [3, 4, 5, 6, 7] rfl (ih0 _ _ _ (by first | with_reducible exact fe_L9 hW9 hq hL9 RE_isDone | exact fe_L9 hW9 hq hL9 RE_failed) (by first | with_reducible exact WP_RE RE_isDone hWm | exact WP_RE RE_failed hWm) (InM_isDone (InM_RS RS_rs hI9)) (by first | with_reducible exact fe_49 h49 NK_isDone | exact fe_49 h49 NK_failed) (by first | exact fun _ => fe_okd hst RE_isDone | exact fun q => absurd q (msub_ne (by decide) hW9.2.2.2.1)))
                · refine j_iload C0 4 dX6_fete_161 rfl ?_
                  refine j_if_ne C0 170 dX6_fete_163 (by decide) (fun c_163 => ?_) (fun c_163 => ?_)
                  · refine j_iload_n C0 3 dX6_fete_166 rfl rfl ?_
                    refine j_goto C0 172 dX6_fete_167 (by decide) ?_
                    exact j_iretM C0 hrt hlk dX6_fete_172
                  · refine j_iload C0 4 dX6_fete_170 rfl ?_
                    exact j_iretM C0 hrt hlk dX6_fete_172
            exact j_sub [1, 2, 3, 0, 4] rfl (L93 102 _ _ _ (fe_L0 (WP_RE (fe_R9 up_eq hR) hW0)) (WP_RE (fe_R9 up_eq hR) hW0) (InM_up (InM_cp1_4 (InM_RS RS_rs hI1)) (by decide) (by decide) (by decide)) (fe_40 hI1) (by first | exact fun _ => fe_O up_eq hR hH c_45 c_74 | exact fun q => absurd q (msub_ne (by decide) (WP_rs (WP_up hW (by decide : (100 : Int) ≤ 500))).2.2.2.1)))
    exact j_sub [3, 4, 2, 1, 0] rfl (L41 102 _ _ (fe_L0 hW0) hW0 (InM_up (InM_up (InM_up hI (by decide) (by decide) (by decide)) (by decide) (by decide) (by decide)) (by decide) (by decide) (by decide)) RS_rf (fun k h => ⟨k, h⟩))
  · refine j_iload_n C0 0 dX6_fete_11 rfl rfl ?_
    exact j_iretM C0 hrt hlk dX6_fete_12
