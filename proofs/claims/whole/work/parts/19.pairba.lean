def f_X2_leastOf_2 (g : Mem) (p0 : Int32) : Nat → Int32 → Int32
  | 0, _ => 0
  | n0 + 1, a2 => if (7 : Int32) ≤ a2 then (a2) else (if ((p0 >>> (a2 &&& 31)) &&& (1 : Int32)) = 0 then (f_X2_leastOf_2 g p0 n0 (a2 + (1 : Int32))) else (a2))
def f_X2_leastOf (g : Mem) (p0 : Int32) : Int32 := f_X2_leastOf_2 g p0 8 (0 : Int32)
theorem yk_X2_leastOf : yokV yX2_leastOf RX2 cX2_leastOf 3 (some .int) 1 := ⟨w_424, w_423, wp_12, w_6, by decide +kernel⟩
set_option maxHeartbeats 4000000 in
set_option maxRecDepth 100000 in
theorem c_X2_leastOf (l : Launch) (z : ZC) (g : Mem) (p0 : Int32) : ctC l yX2_leastOf cX2_leastOf 3 (some .int) 0 0 z g [.ref (zad z 48), .int p0] (qIC z (f_X2_leastOf g p0, g)) := by
  refine ct_of (own := RX2) (q := fun r => qIC z (r, g)) (res := f_X2_leastOf g p0) (lv := [(0, .ref (zad z 48)), (1, .int p0)]) (enokC z) rfl (by decide) (Nat.le_of_ble_eq_true rfl) rfl (fun p e s m args below meth c C0 hrt hlk => ?_)
  unfold f_X2_leastOf
  refine j_iconst C0 (v := 0) dX2_leastOf_0 (by decide) ?_
  refine j_istore_n C0 (lv' := [(2, _), (0, _), (1, _)]) dX2_leastOf_1 rfl (by decide) rfl ?_
  have L2 : ∀ (n0 : Nat) (a2 : Int32), lc a2 7 n0 → jj p l e { frames := 0, cells := 0, slots := 0, locals := 0 } s m args below meth c (zA z) (zD z) 52 (zad z) (celC z) 3 (fun r => MQ below (qIC z (r, g)) args s 0 0 (zA z)) (f_X2_leastOf_2 g p0 n0 a2) g 2 [(0, .ref (zad z 48)), (1, .int p0), (2, .int a2)] [] := by
    intro n0
    induction n0 with
    | zero => intro a2 hL; exact absurd hL.2 (Nat.not_lt_zero _)
    | succ n0 ih0 =>
      intro a2 hL
      rw [f_X2_leastOf_2]
      refine j_iload_n C0 2 dX2_leastOf_2 rfl rfl ?_
      refine j_bipush C0 (v := 7) dX2_leastOf_3 (by decide) ?_
      refine j_icmp_ge C0 22 dX2_leastOf_5 (by decide) (fun c_5 => ?_) (fun c_5 => ?_)
      · refine j_iload_n C0 2 dX2_leastOf_22 rfl rfl ?_
        exact j_iretP C0 hrt hlk dX2_leastOf_23
      · refine j_iload_n C0 1 dX2_leastOf_8 rfl rfl ?_
        refine j_iload_n C0 2 dX2_leastOf_9 rfl rfl ?_
        refine j_ishr C0 dX2_leastOf_10 ?_
        refine j_iconst C0 (v := 1) dX2_leastOf_11 (by decide) ?_
        refine j_iand C0 dX2_leastOf_12 ?_
        refine j_if_ne C0 22 dX2_leastOf_13 (by decide) (fun c_13 => ?_) (fun c_13 => ?_)
        · refine j_iinc C0 (lv' := [(2, _), (0, _), (1, _)]) (v := _ + (1)) 2 dX2_leastOf_16 rfl (by rfl) (by decide) rfl ?_
          refine j_goto C0 2 dX2_leastOf_19 (by decide) ?_
          exact j_sub [1, 2, 0] rfl (ih0 _ (lc_stepN hL c_5))
        · refine j_iload_n C0 2 dX2_leastOf_22 rfl rfl ?_
          exact j_iretP C0 hrt hlk dX2_leastOf_23
  exact j_sub [1, 2, 0] rfl (L2 8 _ (lc_0 (by decide) (by decide)))
theorem leastOf_L {g : Mem} {p0 : Int32} : ∀ (n : Nat) (a2 : Int32), lc a2 7 n → vp_in a2 8 → vp_in (f_X2_leastOf_2 g p0 n a2) 8 := by
  intro n
  induction n with
  | zero => intro a2 hL; exact absurd hL.2 (Nat.not_lt_zero _)
  | succ n ih =>
    intro a2 hL h
    rw [f_X2_leastOf_2]
    split
    · exact h
    · have c := (by assumption : ¬ (7 : Int32) ≤ a2)
      have h7 : (7 : Int32).toInt = 7 := rfl
      have h3 := vin_lc (k := 7) hL c (by decide)
      have h4 := vp_in_iff.mp h3
      split
      · exact ih _ (lc_stepN hL c) (vin_of (by rw [inc_toInt (b := 7) (by omega) (by omega)]; omega) (by rw [inc_toInt (b := 7) (by omega) (by omega)]; omega))
      · exact h
theorem leastOf_in {g : Mem} {p0 : Int32} : vp_in (f_X2_leastOf g p0) 8 := leastOf_L 8 0 (lc_0 (by decide) (by decide)) vin_lit0

def f_X2_joysIfPaired (g : Mem) (p0 p1 p2 p3 : Int32) : Int32 := if (g 50 (ix ((p0 * (8 : Int32)) + p1))) < 0 then ((-4 : Int32)) else (if p3 = 0 then ((-4 : Int32)) else (((g 50 (ix ((p0 * (8 : Int32)) + p1))) + (g 51 (ix (((p3 - (1 : Int32)) * (256 : Int32)) + ((p2 &&& (((1 : Int32) <<< (p0 &&& 31)) ^^^ (-1 : Int32))) &&& (((1 : Int32) <<< (p1 &&& 31)) ^^^ (-1 : Int32)))))))))
theorem yk_X2_joysIfPaired : yokV yX2_joysIfPaired RX2 cX2_joysIfPaired 7 (some .int) 4 := ⟨w_428, w_427, wp_13, w_6, by decide +kernel⟩
set_option maxHeartbeats 4000000 in
set_option maxRecDepth 100000 in
theorem c_X2_joysIfPaired (l : Launch) (z : ZC) (g : Mem) (p0 p1 p2 p3 : Int32) (hv0 : vp_in p0 8) (hv1 : vp_in p1 8) (hr : vp_in p2 256) (hs : vp_in p3 5) : ctC l yX2_joysIfPaired cX2_joysIfPaired 7 (some .int) 0 0 z g [.ref (zad z 48), .int p0, .int p1, .int p2, .int p3] (qIC z (f_X2_joysIfPaired g p0 p1 p2 p3, g)) := by
  refine ct_of (own := RX2) (q := fun r => qIC z (r, g)) (res := f_X2_joysIfPaired g p0 p1 p2 p3) (lv := [(0, .ref (zad z 48)), (1, .int p0), (2, .int p1), (3, .int p2), (4, .int p3)]) (enokC z) rfl (by decide) (Nat.le_of_ble_eq_true rfl) rfl (fun p e s m args below meth c C0 hrt hlk => ?_)
  unfold f_X2_joysIfPaired
  refine j_aload_n C0 0 dX2_joysIfPaired_0 rfl rfl ?_
  refine g_Pairing_joysOfTwo C0 w_110 dX2_joysIfPaired_1 ?_
  refine j_iload_n C0 1 dX2_joysIfPaired_4 rfl rfl ?_
  refine j_bipush C0 (v := 8) dX2_joysIfPaired_5 (by decide) ?_
  refine j_imul C0 dX2_joysIfPaired_7 ?_
  refine j_iload_n C0 2 dX2_joysIfPaired_8 rfl rfl ?_
  refine j_iadd C0 dX2_joysIfPaired_9 ?_
  refine a_joysOfTwo C0 (idx_joys hv0 hv1) dX2_joysIfPaired_10 ?_
  refine j_istore C0 (lv' := [(5, _), (0, _), (1, _), (2, _), (3, _), (4, _)]) dX2_joysIfPaired_11 (by decide) rfl ?_
  refine j_iload_n C0 4 dX2_joysIfPaired_13 rfl rfl ?_
  refine j_iconst C0 (v := 1) dX2_joysIfPaired_14 (by decide) ?_
  refine j_iload_n C0 2 dX2_joysIfPaired_15 rfl rfl ?_
  refine j_ishl C0 dX2_joysIfPaired_16 ?_
  refine j_iconst C0 (v := (-1)) dX2_joysIfPaired_17 (by decide) ?_
  refine j_ixor C0 dX2_joysIfPaired_18 ?_
  refine j_iand C0 dX2_joysIfPaired_19 ?_
  refine j_iconst C0 (v := 1) dX2_joysIfPaired_20 (by decide) ?_
  refine j_iload_n C0 3 dX2_joysIfPaired_21 rfl rfl ?_
  refine j_ishl C0 dX2_joysIfPaired_22 ?_
  refine j_iconst C0 (v := (-1)) dX2_joysIfPaired_23 (by decide) ?_
  refine j_ixor C0 dX2_joysIfPaired_24 ?_
  refine j_iand C0 dX2_joysIfPaired_25 ?_
  refine j_istore C0 (lv' := [(6, _), (5, _), (0, _), (1, _), (2, _), (3, _), (4, _)]) dX2_joysIfPaired_26 (by decide) rfl ?_
  refine j_iload C0 1 dX2_joysIfPaired_28 rfl ?_
  refine j_if_lt C0 38 dX2_joysIfPaired_30 (by decide) (fun c_30 => ?_) (fun c_30 => ?_)
  · refine j_bipush C0 (v := (-4)) dX2_joysIfPaired_38 (by decide) ?_
    refine j_goto C0 62 dX2_joysIfPaired_40 (by decide) ?_
    exact j_iretP C0 hrt hlk dX2_joysIfPaired_62
  · refine j_iload C0 6 dX2_joysIfPaired_33 rfl ?_
    refine j_if_ne C0 43 dX2_joysIfPaired_35 (by decide) (fun c_35 => ?_) (fun c_35 => ?_)
    · refine j_bipush C0 (v := (-4)) dX2_joysIfPaired_38 (by decide) ?_
      refine j_goto C0 62 dX2_joysIfPaired_40 (by decide) ?_
      exact j_iretP C0 hrt hlk dX2_joysIfPaired_62
    · refine j_iload C0 1 dX2_joysIfPaired_43 rfl ?_
      refine j_aload_n C0 2 dX2_joysIfPaired_45 rfl rfl ?_
      refine g_Pairing_most C0 w_111 dX2_joysIfPaired_46 ?_
      refine j_iload C0 6 dX2_joysIfPaired_49 rfl ?_
      refine j_iconst C0 (v := 1) dX2_joysIfPaired_51 (by decide) ?_
      refine j_isub C0 dX2_joysIfPaired_52 ?_
      refine j_sipush C0 (v := 256) dX2_joysIfPaired_53 (by decide) ?_
      refine j_imul C0 dX2_joysIfPaired_56 ?_
      refine j_iload C0 0 dX2_joysIfPaired_57 rfl ?_
      refine j_iadd C0 dX2_joysIfPaired_59 ?_
      refine a_most C0 (idx_most (pred_in hs c_35) (and_in (and_in hr))) dX2_joysIfPaired_60 ?_
      refine j_iadd C0 dX2_joysIfPaired_61 ?_
      exact j_iretP C0 hrt hlk dX2_joysIfPaired_62
def f_X2_mostOf_45 (g : Mem) (p0 p1 : Int32) : Nat → Int32 → Int32 → Int32
  | 0, _, _ => 0
  | n0 + 1, a5, a6 => if (g 48 4) ≤ a6 then (a5) else (if (((p1 &&& (((1 : Int32) <<< ((f_X2_leastOf g p1) &&& 31)) ^^^ (-1 : Int32))) >>> (a6 &&& 31)) &&& (1 : Int32)) = (1 : Int32) then (f_X2_mostOf_45 g p0 p1 n0 (if (if a5 < (f_X2_joysIfPaired g (f_X2_leastOf g p1) a6 (p1 &&& (((1 : Int32) <<< ((f_X2_leastOf g p1) &&& 31)) ^^^ (-1 : Int32))) p0) then (f_X2_joysIfPaired g (f_X2_leastOf g p1) a6 (p1 &&& (((1 : Int32) <<< ((f_X2_leastOf g p1) &&& 31)) ^^^ (-1 : Int32))) p0) else a5) < (f_X2_joysIfPaired g a6 (f_X2_leastOf g p1) (p1 &&& (((1 : Int32) <<< ((f_X2_leastOf g p1) &&& 31)) ^^^ (-1 : Int32))) p0) then (f_X2_joysIfPaired g a6 (f_X2_leastOf g p1) (p1 &&& (((1 : Int32) <<< ((f_X2_leastOf g p1) &&& 31)) ^^^ (-1 : Int32))) p0) else (if a5 < (f_X2_joysIfPaired g (f_X2_leastOf g p1) a6 (p1 &&& (((1 : Int32) <<< ((f_X2_leastOf g p1) &&& 31)) ^^^ (-1 : Int32))) p0) then (f_X2_joysIfPaired g (f_X2_leastOf g p1) a6 (p1 &&& (((1 : Int32) <<< ((f_X2_leastOf g p1) &&& 31)) ^^^ (-1 : Int32))) p0) else a5)) (a6 + (1 : Int32))) else (f_X2_mostOf_45 g p0 p1 n0 a5 (a6 + (1 : Int32))))
def f_X2_mostOf (g : Mem) (p0 p1 : Int32) : Int32 := if p0 = 0 then ((0 : Int32)) else (if p1 = 0 then ((0 : Int32)) else (f_X2_mostOf_45 g p0 p1 9 (g 51 (ix ((p0 * (256 : Int32)) + (p1 &&& (((1 : Int32) <<< ((f_X2_leastOf g p1) &&& 31)) ^^^ (-1 : Int32)))))) ((f_X2_leastOf g p1) + (1 : Int32))))
theorem yk_X2_mostOf : yokV yX2_mostOf RX2 cX2_mostOf 7 (some .int) 2 := ⟨w_420, w_419, wp_11, w_6, by decide +kernel⟩
set_option maxHeartbeats 4000000 in
set_option maxRecDepth 100000 in
theorem c_X2_mostOf (l : Launch) (z : ZC) (g : Mem) (p0 p1 : Int32) (hs : vp_in p0 5) (hf : vp_in p1 256) (hz : (g 48 4).toInt ≤ 8) : ctC l yX2_mostOf cX2_mostOf 7 (some .int) 1 26 z g [.ref (zad z 48), .int p0, .int p1] (qIC z (f_X2_mostOf g p0 p1, g)) := by
  refine ct_of (own := RX2) (q := fun r => qIC z (r, g)) (res := f_X2_mostOf g p0 p1) (lv := [(0, .ref (zad z 48)), (1, .int p0), (2, .int p1)]) (enokC z) rfl (by decide) (Nat.le_of_ble_eq_true rfl) rfl (fun p e s m args below meth c C0 hrt hlk => ?_)
  unfold f_X2_mostOf
  refine j_iload_n C0 1 dX2_mostOf_0 rfl rfl ?_
  refine j_if_eq C0 8 dX2_mostOf_1 (by decide) (fun c_1 => ?_) (fun c_1 => ?_)
  · refine j_iconst C0 (v := 0) dX2_mostOf_8 (by decide) ?_
    exact j_iretP C0 hrt hlk dX2_mostOf_9
  · refine j_iload_n C0 2 dX2_mostOf_4 rfl rfl ?_
    refine j_if_ne C0 10 dX2_mostOf_5 (by decide) (fun c_5 => ?_) (fun c_5 => ?_)
    · refine j_iconst C0 (v := 0) dX2_mostOf_8 (by decide) ?_
      exact j_iretP C0 hrt hlk dX2_mostOf_9
    · refine j_aload_n C0 0 dX2_mostOf_10 rfl rfl ?_
      refine j_iload_n C0 2 dX2_mostOf_11 rfl rfl ?_
      refine j_callVi C0 (c_X2_leastOf l z _ _) yk_X2_leastOf w_421 (fun H locs hP _ => recvW C0 hP _ (by decide) cel_pairing rfl) ⟨Nat.le_of_ble_eq_true rfl, Nat.le_of_ble_eq_true rfl⟩ rfl rfl (Nat.le_of_ble_eq_true rfl) dX2_mostOf_12 ?_
      refine j_istore_n C0 (lv' := [(3, _), (0, _), (1, _), (2, _)]) dX2_mostOf_15 rfl (by decide) rfl ?_
      refine j_iload_n C0 3 dX2_mostOf_16 rfl rfl ?_
      refine j_iconst C0 (v := 1) dX2_mostOf_17 (by decide) ?_
      refine j_iload_n C0 0 dX2_mostOf_18 rfl rfl ?_
      refine j_ishl C0 dX2_mostOf_19 ?_
      refine j_iconst C0 (v := (-1)) dX2_mostOf_20 (by decide) ?_
      refine j_ixor C0 dX2_mostOf_21 ?_
      refine j_iand C0 dX2_mostOf_22 ?_
      refine j_istore C0 (lv' := [(4, _), (3, _), (0, _), (1, _), (2, _)]) dX2_mostOf_23 (by decide) rfl ?_
      refine j_aload_n C0 2 dX2_mostOf_25 rfl rfl ?_
      refine g_Pairing_most C0 w_111 dX2_mostOf_26 ?_
      refine j_iload_n C0 3 dX2_mostOf_29 rfl rfl ?_
      refine j_sipush C0 (v := 256) dX2_mostOf_30 (by decide) ?_
      refine j_imul C0 dX2_mostOf_33 ?_
      refine j_iload C0 0 dX2_mostOf_34 rfl ?_
      refine j_iadd C0 dX2_mostOf_36 ?_
      refine a_most C0 (idx_most hs (and_in hf)) dX2_mostOf_37 ?_
      refine j_istore C0 (lv' := [(5, _), (4, _), (3, _), (0, _), (1, _), (2, _)]) dX2_mostOf_38 (by decide) rfl ?_
      refine j_iload_n C0 2 dX2_mostOf_40 rfl rfl ?_
      refine j_iconst C0 (v := 1) dX2_mostOf_41 (by decide) ?_
      refine j_iadd C0 dX2_mostOf_42 ?_
      refine j_istore C0 (lv' := [(6, _), (5, _), (4, _), (3, _), (0, _), (1, _), (2, _)]) dX2_mostOf_43 (by decide) rfl ?_
      have L45 : ∀ (n0 : Nat) (a5 : Int32) (a6 : Int32), lc a6 (g 48 4) n0 → jj p l e { frames := 1, cells := 0, slots := 0, locals := 26 } s m args below meth c (zA z) (zD z) 52 (zad z) (celC z) 7 (fun r => MQ below (qIC z (r, g)) args s 0 0 (zA z)) (f_X2_mostOf_45 g p0 p1 n0 a5 a6) g 45 [(0, .ref (zad z 48)), (1, .int p0), (2, .int p1), (3, .int (f_X2_leastOf g p1)), (4, .int (p1 &&& (((1 : Int32) <<< ((f_X2_leastOf g p1) &&& 31)) ^^^ (-1 : Int32)))), (5, .int a5), (6, .int a6)] [] := by
        intro n0
        induction n0 with
        | zero => intro a5 a6 hL; exact absurd hL.2 (Nat.not_lt_zero _)
        | succ n0 ih0 =>
          intro a5 a6 hL
          rw [f_X2_mostOf_45]
          refine j_iload C0 6 dX2_mostOf_45 rfl ?_
          refine j_aload_n C0 0 dX2_mostOf_47 rfl rfl ?_
          refine g_Pairing_size C0 w_112 dX2_mostOf_48 ?_
          refine j_icmp_ge C0 105 dX2_mostOf_51 (by decide) (fun c_51 => ?_) (fun c_51 => ?_)
          · refine j_iload C0 5 dX2_mostOf_105 rfl ?_
            exact j_iretP C0 hrt hlk dX2_mostOf_107
          · have hv_a6 : vp_in a6 8 := vin_lc hL c_51 hz
            refine j_iload C0 4 dX2_mostOf_54 rfl ?_
            refine j_iload C0 6 dX2_mostOf_56 rfl ?_
            refine j_ishr C0 dX2_mostOf_58 ?_
            refine j_iconst C0 (v := 1) dX2_mostOf_59 (by decide) ?_
            refine j_iand C0 dX2_mostOf_60 ?_
            refine j_iconst C0 (v := 1) dX2_mostOf_61 (by decide) ?_
            refine j_icmp_ne C0 99 dX2_mostOf_62 (by decide) (fun c_62 => ?_) (fun c_62 => ?_)
            · refine j_iload C0 5 dX2_mostOf_65 rfl ?_
              refine j_aload_n C0 0 dX2_mostOf_67 rfl rfl ?_
              refine j_iload_n C0 3 dX2_mostOf_68 rfl rfl ?_
              refine j_iload C0 6 dX2_mostOf_69 rfl ?_
              refine j_iload C0 4 dX2_mostOf_71 rfl ?_
              refine j_iload_n C0 1 dX2_mostOf_73 rfl rfl ?_
              refine j_callVi C0 (c_X2_joysIfPaired l z _ _ _ _ _ leastOf_in hv_a6 (and_in hf) hs) yk_X2_joysIfPaired w_425 (fun H locs hP _ => recvW C0 hP _ (by decide) cel_pairing rfl) ⟨Nat.le_of_ble_eq_true rfl, Nat.le_of_ble_eq_true rfl⟩ rfl rfl (Nat.le_of_ble_eq_true rfl) dX2_mostOf_74 ?_
              refine j_mmax C0 w_429 w_316 w_9 w_317 (Nat.le_of_ble_eq_true rfl) (Nat.le_of_ble_eq_true rfl) dX2_mostOf_77 ?_
              refine j_istore C0 (lv' := [(5, _), (0, _), (1, _), (2, _), (3, _), (4, _), (6, _)]) dX2_mostOf_80 (by decide) rfl ?_
              refine j_iload C0 0 dX2_mostOf_82 rfl ?_
              refine j_aload_n C0 1 dX2_mostOf_84 rfl rfl ?_
              refine j_iload C0 6 dX2_mostOf_85 rfl ?_
              refine j_iload_n C0 4 dX2_mostOf_87 rfl rfl ?_
              refine j_iload C0 5 dX2_mostOf_88 rfl ?_
              refine j_iload_n C0 2 dX2_mostOf_90 rfl rfl ?_
              refine j_callVi C0 (c_X2_joysIfPaired l z _ _ _ _ _ hv_a6 leastOf_in (and_in hf) hs) yk_X2_joysIfPaired w_425 (fun H locs hP _ => recvW C0 hP _ (by decide) cel_pairing rfl) ⟨Nat.le_of_ble_eq_true rfl, Nat.le_of_ble_eq_true rfl⟩ rfl rfl (Nat.le_of_ble_eq_true rfl) dX2_mostOf_91 ?_
              refine j_mmax C0 w_429 w_316 w_9 w_317 (Nat.le_of_ble_eq_true rfl) (Nat.le_of_ble_eq_true rfl) dX2_mostOf_94 ?_
              refine j_istore C0 (lv' := [(5, _), (0, _), (1, _), (2, _), (3, _), (4, _), (6, _)]) dX2_mostOf_97 (by decide) rfl ?_
              refine j_iinc C0 (lv' := [(6, _), (5, _), (0, _), (1, _), (2, _), (3, _), (4, _)]) (v := _ + (1)) 6 dX2_mostOf_99 rfl (by rfl) (by decide) rfl ?_
              refine j_goto C0 45 dX2_mostOf_102 (by decide) ?_
              exact j_sub [2, 3, 4, 5, 6, 1, 0] rfl (ih0 _ _ (lc_stepN hL c_51))
            · refine j_iinc C0 (lv' := [(6, _), (0, _), (1, _), (2, _), (3, _), (4, _), (5, _)]) (v := _ + (1)) 6 dX2_mostOf_99 rfl (by rfl) (by decide) rfl ?_
              refine j_goto C0 45 dX2_mostOf_102 (by decide) ?_
              exact j_sub [1, 2, 3, 4, 5, 6, 0] rfl (ih0 _ _ (lc_stepN hL c_51))
      exact j_sub [4, 5, 6, 3, 2, 1, 0] rfl (L45 9 _ _ (next_lc leastOf_in hz))
def f_X2_firstOther_28 (g : Mem) (p0 p1 p2 p3 : Int32) : Nat → Int32 → Int32
  | 0, _ => 0
  | n0 + 1, a7 => if (g 48 4) ≤ a7 then ((-4 : Int32)) else (if (((p1 &&& (((1 : Int32) <<< (p0 &&& 31)) ^^^ (-1 : Int32))) >>> (a7 &&& 31)) &&& (1 : Int32)) = (1 : Int32) then (if p3 = 0 then (if (f_X2_joysIfPaired g a7 p0 (p1 &&& (((1 : Int32) <<< (p0 &&& 31)) ^^^ (-1 : Int32))) p2) = (g 51 (ix ((p2 * (256 : Int32)) + p1))) then (a7) else (f_X2_firstOther_28 g p0 p1 p2 p3 n0 (a7 + (1 : Int32)))) else (if (f_X2_joysIfPaired g p0 a7 (p1 &&& (((1 : Int32) <<< (p0 &&& 31)) ^^^ (-1 : Int32))) p2) = (g 51 (ix ((p2 * (256 : Int32)) + p1))) then (a7) else (f_X2_firstOther_28 g p0 p1 p2 p3 n0 (a7 + (1 : Int32))))) else (f_X2_firstOther_28 g p0 p1 p2 p3 n0 (a7 + (1 : Int32))))
def f_X2_firstOther (g : Mem) (p0 p1 p2 p3 : Int32) : Int32 := f_X2_firstOther_28 g p0 p1 p2 p3 9 (p0 + (1 : Int32))
theorem yk_X2_firstOther : yokV yX2_firstOther RX2 cX2_firstOther 9 (some .int) 4 := ⟨w_437, w_436, wp_15, w_6, by decide +kernel⟩
set_option maxHeartbeats 4000000 in
set_option maxRecDepth 100000 in
theorem c_X2_firstOther (l : Launch) (z : ZC) (g : Mem) (p0 p1 p2 p3 : Int32) (hv0 : vp_in p0 8) (hf : vp_in p1 256) (hs : vp_in p2 5) (hz : (g 48 4).toInt ≤ 8) : ctC l yX2_firstOther cX2_firstOther 9 (some .int) 1 26 z g [.ref (zad z 48), .int p0, .int p1, .int p2, .int p3] (qIC z (f_X2_firstOther g p0 p1 p2 p3, g)) := by
  refine ct_of (own := RX2) (q := fun r => qIC z (r, g)) (res := f_X2_firstOther g p0 p1 p2 p3) (lv := [(0, .ref (zad z 48)), (1, .int p0), (2, .int p1), (3, .int p2), (4, .int p3)]) (enokC z) rfl (by decide) (Nat.le_of_ble_eq_true rfl) rfl (fun p e s m args below meth c C0 hrt hlk => ?_)
  unfold f_X2_firstOther
  refine j_iload_n C0 2 dX2_firstOther_0 rfl rfl ?_
  refine j_iconst C0 (v := 1) dX2_firstOther_1 (by decide) ?_
  refine j_iload_n C0 1 dX2_firstOther_2 rfl rfl ?_
  refine j_ishl C0 dX2_firstOther_3 ?_
  refine j_iconst C0 (v := (-1)) dX2_firstOther_4 (by decide) ?_
  refine j_ixor C0 dX2_firstOther_5 ?_
  refine j_iand C0 dX2_firstOther_6 ?_
  refine j_istore C0 (lv' := [(5, _), (0, _), (1, _), (2, _), (3, _), (4, _)]) dX2_firstOther_7 (by decide) rfl ?_
  refine j_aload_n C0 1 dX2_firstOther_9 rfl rfl ?_
  refine g_Pairing_most C0 w_111 dX2_firstOther_10 ?_
  refine j_iload_n C0 4 dX2_firstOther_13 rfl rfl ?_
  refine j_sipush C0 (v := 256) dX2_firstOther_14 (by decide) ?_
  refine j_imul C0 dX2_firstOther_17 ?_
  refine j_iload_n C0 3 dX2_firstOther_18 rfl rfl ?_
  refine j_iadd C0 dX2_firstOther_19 ?_
  refine a_most C0 (idx_most hs hf) dX2_firstOther_20 ?_
  refine j_istore C0 (lv' := [(6, _), (5, _), (0, _), (1, _), (2, _), (3, _), (4, _)]) dX2_firstOther_21 (by decide) rfl ?_
  refine j_iload_n C0 3 dX2_firstOther_23 rfl rfl ?_
  refine j_iconst C0 (v := 1) dX2_firstOther_24 (by decide) ?_
  refine j_iadd C0 dX2_firstOther_25 ?_
  refine j_istore C0 (lv' := [(7, _), (6, _), (5, _), (0, _), (1, _), (2, _), (3, _), (4, _)]) dX2_firstOther_26 (by decide) rfl ?_
  have L28 : ∀ (n0 : Nat) (a7 : Int32), lc a7 (g 48 4) n0 → jj p l e { frames := 1, cells := 0, slots := 0, locals := 26 } s m args below meth c (zA z) (zD z) 52 (zad z) (celC z) 9 (fun r => MQ below (qIC z (r, g)) args s 0 0 (zA z)) (f_X2_firstOther_28 g p0 p1 p2 p3 n0 a7) g 28 [(0, .ref (zad z 48)), (1, .int p0), (2, .int p1), (3, .int p2), (4, .int p3), (5, .int (p1 &&& (((1 : Int32) <<< (p0 &&& 31)) ^^^ (-1 : Int32)))), (6, .int (g 51 (ix ((p2 * (256 : Int32)) + p1)))), (7, .int a7)] [] := by
    intro n0
    induction n0 with
    | zero => intro a7 hL; exact absurd hL.2 (Nat.not_lt_zero _)
    | succ n0 ih0 =>
      intro a7 hL
      rw [f_X2_firstOther_28]
      refine j_iload C0 7 dX2_firstOther_28 rfl ?_
      refine j_aload_n C0 0 dX2_firstOther_30 rfl rfl ?_
      refine g_Pairing_size C0 w_112 dX2_firstOther_31 ?_
      refine j_icmp_ge C0 94 dX2_firstOther_34 (by decide) (fun c_34 => ?_) (fun c_34 => ?_)
      · refine j_bipush C0 (v := (-4)) dX2_firstOther_94 (by decide) ?_
        exact j_iretP C0 hrt hlk dX2_firstOther_96
      · have hv_a7 : vp_in a7 8 := vin_lc hL c_34 hz
        refine j_iload C0 5 dX2_firstOther_37 rfl ?_
        refine j_iload C0 7 dX2_firstOther_39 rfl ?_
        refine j_ishr C0 dX2_firstOther_41 ?_
        refine j_iconst C0 (v := 1) dX2_firstOther_42 (by decide) ?_
        refine j_iand C0 dX2_firstOther_43 ?_
        refine j_iconst C0 (v := 1) dX2_firstOther_44 (by decide) ?_
        refine j_icmp_ne C0 88 dX2_firstOther_45 (by decide) (fun c_45 => ?_) (fun c_45 => ?_)
        · refine j_iload C0 4 dX2_firstOther_48 rfl ?_
          refine j_if_eq C0 66 dX2_firstOther_50 (by decide) (fun c_50 => ?_) (fun c_50 => ?_)
          · refine j_aload_n C0 0 dX2_firstOther_66 rfl rfl ?_
            refine j_iload C0 7 dX2_firstOther_67 rfl ?_
            refine j_iload_n C0 1 dX2_firstOther_69 rfl rfl ?_
            refine j_iload C0 5 dX2_firstOther_70 rfl ?_
            refine j_iload_n C0 3 dX2_firstOther_72 rfl rfl ?_
            refine j_callVi C0 (c_X2_joysIfPaired l z _ _ _ _ _ hv_a7 hv0 (and_in hf) hs) yk_X2_joysIfPaired w_425 (fun H locs hP _ => recvW C0 hP _ (by decide) cel_pairing rfl) ⟨Nat.le_of_ble_eq_true rfl, Nat.le_of_ble_eq_true rfl⟩ rfl rfl (Nat.le_of_ble_eq_true rfl) dX2_firstOther_73 ?_
            refine j_istore C0 (lv' := [(8, _), (0, _), (1, _), (2, _), (3, _), (4, _), (5, _), (6, _), (7, _)]) dX2_firstOther_76 (by decide) rfl ?_
            refine j_iload C0 0 dX2_firstOther_78 rfl ?_
            refine j_iload C0 7 dX2_firstOther_80 rfl ?_
            refine j_icmp_ne C0 88 dX2_firstOther_82 (by decide) (fun c_82 => ?_) (fun c_82 => ?_)
            · refine j_iload C0 8 dX2_firstOther_85 rfl ?_
              exact j_iretP C0 hrt hlk dX2_firstOther_87
            · refine j_iinc C0 (lv' := [(7, _), (8, _), (0, _), (1, _), (2, _), (3, _), (4, _), (5, _), (6, _)]) (v := _ + (1)) 8 dX2_firstOther_88 rfl (by rfl) (by decide) rfl ?_
              refine j_goto C0 28 dX2_firstOther_91 (by decide) ?_
              exact j_sub [2, 3, 4, 5, 6, 7, 8, 0] rfl (ih0 _ (lc_stepN hL c_34))
          · refine j_aload_n C0 0 dX2_firstOther_53 rfl rfl ?_
            refine j_iload_n C0 1 dX2_firstOther_54 rfl rfl ?_
            refine j_iload C0 7 dX2_firstOther_55 rfl ?_
            refine j_iload C0 5 dX2_firstOther_57 rfl ?_
            refine j_iload_n C0 3 dX2_firstOther_59 rfl rfl ?_
            refine j_callVi C0 (c_X2_joysIfPaired l z _ _ _ _ _ hv0 hv_a7 (and_in hf) hs) yk_X2_joysIfPaired w_425 (fun H locs hP _ => recvW C0 hP _ (by decide) cel_pairing rfl) ⟨Nat.le_of_ble_eq_true rfl, Nat.le_of_ble_eq_true rfl⟩ rfl rfl (Nat.le_of_ble_eq_true rfl) dX2_firstOther_60 ?_
            refine j_goto C0 76 dX2_firstOther_63 (by decide) ?_
            refine j_istore C0 (lv' := [(8, _), (0, _), (1, _), (2, _), (3, _), (4, _), (5, _), (6, _), (7, _)]) dX2_firstOther_76 (by decide) rfl ?_
            refine j_iload C0 0 dX2_firstOther_78 rfl ?_
            refine j_iload C0 7 dX2_firstOther_80 rfl ?_
            refine j_icmp_ne C0 88 dX2_firstOther_82 (by decide) (fun c_82 => ?_) (fun c_82 => ?_)
            · refine j_iload C0 8 dX2_firstOther_85 rfl ?_
              exact j_iretP C0 hrt hlk dX2_firstOther_87
            · refine j_iinc C0 (lv' := [(7, _), (8, _), (0, _), (1, _), (2, _), (3, _), (4, _), (5, _), (6, _)]) (v := _ + (1)) 8 dX2_firstOther_88 rfl (by rfl) (by decide) rfl ?_
              refine j_goto C0 28 dX2_firstOther_91 (by decide) ?_
              exact j_sub [2, 3, 4, 5, 6, 7, 8, 0] rfl (ih0 _ (lc_stepN hL c_34))
        · refine j_iinc C0 (lv' := [(7, _), (0, _), (1, _), (2, _), (3, _), (4, _), (5, _), (6, _)]) (v := _ + (1)) 7 dX2_firstOther_88 rfl (by rfl) (by decide) rfl ?_
          refine j_goto C0 28 dX2_firstOther_91 (by decide) ?_
          exact j_sub [1, 2, 3, 4, 5, 6, 7, 0] rfl (ih0 _ (lc_stepN hL c_34))
  exact j_sub [3, 4, 5, 6, 7, 2, 1, 0] rfl (L28 9 _ (next_lc hv0 hz))
theorem jip_ge {g : Mem} {p0 p1 p2 p3 : Int32} (hj : 0 ≤ (f_X2_joysIfPaired g p0 p1 p2 p3).toInt) : ¬ p3 = 0 := by
  intro h
  have e : f_X2_joysIfPaired g p0 p1 p2 p3 = -4 := by
    unfold f_X2_joysIfPaired
    split
    · rfl
    · rfl
  rw [e] at hj
  exact absurd hj (by decide)
theorem firstOther_L {g : Mem} (hI : In g) (hz : (g 48 4).toInt ≤ 8) {p0 p1 p2 p3 : Int32} : ∀ (n : Nat) (a7 : Int32), lc a7 (g 48 4) n → (f_X2_firstOther_28 g p0 p1 p2 p3 n a7 < 0 ∨ (vp_in (f_X2_firstOther_28 g p0 p1 p2 p3 n a7) 8 ∧ ¬ p2 = 0)) := by
  intro n
  induction n with
  | zero => intro a7 hL; exact absurd hL.2 (Nat.not_lt_zero _)
  | succ n ih =>
    intro a7 hL
    rw [f_X2_firstOther_28]
    split
    · exact Or.inl (by decide)
    · have c := (by assumption : ¬ g 48 4 ≤ a7)
      have hv := vin_lc hL c hz
      split
      · split
        · split
          · refine Or.inr ⟨hv, jip_ge (g := g) (p0 := a7) (p1 := p0) (p2 := p1 &&& (1 <<< (p0 &&& 31) ^^^ -1)) ?_⟩
            rw [(by assumption : f_X2_joysIfPaired g _ _ _ _ = _)]
            exact In_mo hI _
          · exact ih _ (lc_stepN hL c)
        · split
          · refine Or.inr ⟨hv, jip_ge (g := g) (p0 := p0) (p1 := a7) (p2 := p1 &&& (1 <<< (p0 &&& 31) ^^^ -1)) ?_⟩
            rw [(by assumption : f_X2_joysIfPaired g _ _ _ _ = _)]
            exact In_mo hI _
          · exact ih _ (lc_stepN hL c)
      · exact ih _ (lc_stepN hL c)
theorem firstOther_in {g : Mem} (hI : In g) (hz : (g 48 4).toInt ≤ 8) {p0 p1 p2 p3 : Int32} (hv0 : vp_in p0 8) (c : ¬ f_X2_firstOther g p0 p1 p2 p3 < 0) : vp_in (f_X2_firstOther g p0 p1 p2 p3) 8 ∧ ¬ p2 = 0 :=
  (firstOther_L hI hz 9 (p0 + 1) (next_lc hv0 hz)).resolve_left c

