def f_X5_hungerFellSo_5 (g : Mem) (d : Nat) (p1 p2 : Int32) : Nat → Int32 → Int32 → Int32
  | 0, _, _ => 0
  | n0 + 1, a3, a4 => if (g (24 + d) 5) ≤ a4 then ((1 : Int32)) else (if (f_X4_at g d a4) = (if a3 < p2 then a3 else p2) then (f_X5_hungerFellSo_5 g d p1 p2 n0 (a3 - (if a3 < p2 then a3 else p2)) (a4 + (1 : Int32))) else ((0 : Int32)))
def f_X5_hungerFellSo (g : Mem) (d : Nat) (p1 p2 : Int32) : Int32 := f_X5_hungerFellSo_5 g d p1 p2 101 p1 (0 : Int32)
theorem b01_f_X5_hungerFellSo_5 (g : Mem) (d : Nat) (p1 p2 : Int32) : ∀ (n : Nat) (x0 : Int32) (x1 : Int32), f_X5_hungerFellSo_5 g d p1 p2 n x0 x1 = 0 ∨ f_X5_hungerFellSo_5 g d p1 p2 n x0 x1 = 1 := by
  intro n
  induction n with
  | zero => intros; exact Or.inl rfl
  | succ n ih =>
    intros
    rw [f_X5_hungerFellSo_5]
    repeat' split
    all_goals first | (with_reducible exact Or.inl rfl) | (with_reducible exact Or.inr rfl) | exact ih _ _
theorem b01_X5_hungerFellSo (g : Mem) (d : Nat) (p1 p2 : Int32) : f_X5_hungerFellSo g d p1 p2 = 0 ∨ f_X5_hungerFellSo g d p1 p2 = 1 := by
  unfold f_X5_hungerFellSo
  repeat' split
  all_goals first | (with_reducible exact Or.inl rfl) | (with_reducible exact Or.inr rfl) | assumption | exact b01_f_X5_hungerFellSo_5 _ _ _ _ _ _ _
theorem yk_X5_hungerFellSo : yokS yX5_hungerFellSo RX5 cX5_hungerFellSo 6 (some .boolean) 3 := ⟨w_518, w_517, w_1, by decide +kernel⟩
set_option maxHeartbeats 4000000 in
set_option maxRecDepth 100000 in
theorem c_X5_hungerFellSo (l : Launch) (z : ZC) (g : Mem) (d : Nat) (hd : d < 8) (p1 p2 : Int32) (hI : In g) : ctC l yX5_hungerFellSo cX5_hungerFellSo 6 (some .boolean) 2 42 z g [.ref (zad z (24 + d)), .int p1, .int p2] (qIC z (f_X5_hungerFellSo g d p1 p2, g)) := by
  refine ct_of (own := RX5) (q := fun r => qIC z (r, g)) (res := f_X5_hungerFellSo g d p1 p2) (lv := [(0, .ref (zad z (24 + d))), (1, .int p1), (2, .int p2)]) (enokC z) rfl (by decide) (Nat.le_of_ble_eq_true rfl) rfl (fun p e s m args below meth c C0 hrt hlk => ?_)
  unfold f_X5_hungerFellSo
  refine j_iload_n C0 1 dX5_hungerFellSo_0 rfl rfl ?_
  refine j_istore_n C0 (lv' := [(3, _), (0, _), (1, _), (2, _)]) dX5_hungerFellSo_1 rfl (by decide) rfl ?_
  refine j_iconst C0 (v := 0) dX5_hungerFellSo_2 (by decide) ?_
  refine j_istore C0 (lv' := [(4, _), (3, _), (0, _), (1, _), (2, _)]) dX5_hungerFellSo_3 (by decide) rfl ?_
  have L5 : ∀ (n0 : Nat) (a3 : Int32) (a4 : Int32), lc a4 (g (24 + d) 5) n0 → jj p l e { frames := 2, cells := 0, slots := 0, locals := 42 } s m args below meth c (zA z) (zD z) 52 (zad z) (celC z) 6 (fun r => MQ below (qIC z (r, g)) args s 0 0 (zA z)) (f_X5_hungerFellSo_5 g d p1 p2 n0 a3 a4) g 5 [(0, .ref (zad z (24 + d))), (1, .int p1), (2, .int p2), (3, .int a3), (4, .int a4)] [] := by
    intro n0
    induction n0 with
    | zero => intro a3 a4 hL; exact absurd hL.2 (Nat.not_lt_zero _)
    | succ n0 ih0 =>
      intro a3 a4 hL
      rw [f_X5_hungerFellSo_5]
      refine j_iload C0 4 dX5_hungerFellSo_5 rfl ?_
      refine j_aload_n C0 0 dX5_hungerFellSo_7 rfl rfl ?_
      refine g_Shelf_length C0 hd w_142 dX5_hungerFellSo_8 ?_
      refine j_icmp_ge C0 45 dX5_hungerFellSo_11 (by decide) (fun c_11 => ?_) (fun c_11 => ?_)
      · refine j_iconst C0 (v := 1) dX5_hungerFellSo_45 (by decide) ?_
        exact j_zretP C0 hrt hlk (Or.inr rfl) dX5_hungerFellSo_46
      · refine j_iload_n C0 2 dX5_hungerFellSo_14 rfl rfl ?_
        refine j_iload_n C0 3 dX5_hungerFellSo_15 rfl rfl ?_
        refine j_mmin C0 w_451 w_313 w_9 w_314 (Nat.le_of_ble_eq_true rfl) (Nat.le_of_ble_eq_true rfl) dX5_hungerFellSo_16 ?_
        refine j_istore C0 (lv' := [(5, _), (0, _), (1, _), (2, _), (3, _), (4, _)]) dX5_hungerFellSo_19 (by decide) rfl ?_
        refine j_aload_n C0 1 dX5_hungerFellSo_21 rfl rfl ?_
        refine j_iload C0 5 dX5_hungerFellSo_22 rfl ?_
        refine j_callVi C0 (c_X4_at l z _ d hd _ hI) yk_X4_at w_196 (fun H locs hP _ => recvW C0 hP _ (by have := hd; omega) (cel_shelf hd) rfl) ⟨Nat.le_of_ble_eq_true rfl, Nat.le_of_ble_eq_true rfl⟩ rfl rfl (Nat.le_of_ble_eq_true rfl) dX5_hungerFellSo_24 ?_
        refine j_iload C0 0 dX5_hungerFellSo_27 rfl ?_
        refine j_icmp_eq C0 34 dX5_hungerFellSo_29 (by decide) (fun c_29 => ?_) (fun c_29 => ?_)
        · refine j_iload_n C0 4 dX5_hungerFellSo_34 rfl rfl ?_
          refine j_iload C0 0 dX5_hungerFellSo_35 rfl ?_
          refine j_isub C0 dX5_hungerFellSo_37 ?_
          refine j_istore_n C0 (lv' := [(3, _), (5, _), (0, _), (1, _), (2, _), (4, _)]) dX5_hungerFellSo_38 rfl (by decide) rfl ?_
          refine j_iinc C0 (lv' := [(4, _), (3, _), (5, _), (0, _), (1, _), (2, _)]) (v := _ + (1)) 5 dX5_hungerFellSo_39 rfl (by rfl) (by decide) rfl ?_
          refine j_goto C0 5 dX5_hungerFellSo_42 (by decide) ?_
          exact j_sub [3, 4, 5, 1, 0] rfl (ih0 _ _ (lc_stepN hL c_11))
        · refine j_iconst C0 (v := 0) dX5_hungerFellSo_32 (by decide) ?_
          exact j_zretP C0 hrt hlk (Or.inl rfl) dX5_hungerFellSo_33
  exact j_sub [2, 3, 4, 1, 0] rfl (L5 101 _ _ (lc_0 (by have := (In_len hI hd); omega) (by decide)))
theorem lt_of_nle {a b : Int32} (c : ¬ b ≤ a) : a.toInt < b.toInt := by
  have : ¬ b.toInt ≤ a.toInt := fun q => c (Int32.le_iff_toInt_le.mpr q)
  omega

def f_X5_throat_52 (g : Mem) (p0 p1 p2 p3 : Int32) : Nat → Int32 → Int32 → Int32
  | 0, _, _ => 0
  | n0 + 1, a6, a7 => if (8 : Int32) ≤ a7 then (if p3 = 0 then (a6) else ((f_J6_bitCount_0f7a4 a6))) else (if (f_X5_hungerFellSo g (ix p0) p1 (f_X1_biteWith a7 p2)) = 0 then (f_X5_throat_52 g p0 p1 p2 p3 n0 a6 (a7 + (1 : Int32))) else (f_X5_throat_52 g p0 p1 p2 p3 n0 (a6 ||| ((1 : Int32) <<< (a7 &&& 31))) (a7 + (1 : Int32))))
def f_X5_throat (g : Mem) (p0 p1 p2 p3 : Int32) : Int32 := if (f_X5_isShelf p0) = 0 then ((-1 : Int32)) else (if (f_X5_isFeeling p1) = 0 then ((-1 : Int32)) else (if (f_X5_isFigure p2) = 0 then ((-1 : Int32)) else (if (f_X5_isOneOfTwo p3) = 0 then ((-1 : Int32)) else (if (f_X5_refusalOfRow g p0) = 0 then (f_X5_throat_52 g p0 p1 p2 p3 9 (0 : Int32) (0 : Int32)) else ((f_X5_refusalOfRow g p0))))))
theorem yk_X5_throat : yokV yX5_throat RX5 cX5_throat 8 (some .int) 4 := ⟨w_514, w_512, w_513, w_1, by decide +kernel⟩
set_option maxHeartbeats 4000000 in
set_option maxRecDepth 100000 in
theorem c_X5_throat (l : Launch) (z : ZC) (g : Mem) (p0 p1 p2 p3 : Int32) (hI : In g) : ctC l yX5_throat cX5_throat 8 (some .int) 4 86 z g [.ref (zad z 46), .int p0, .int p1, .int p2, .int p3] (qIC z (f_X5_throat g p0 p1 p2 p3, g)) := by
  refine ct_of (own := RX5) (q := fun r => qIC z (r, g)) (res := f_X5_throat g p0 p1 p2 p3) (lv := [(0, .ref (zad z 46)), (1, .int p0), (2, .int p1), (3, .int p2), (4, .int p3)]) (enokC z) rfl (by decide) (Nat.le_of_ble_eq_true rfl) rfl (fun p e s m args below meth c C0 hrt hlk => ?_)
  unfold f_X5_throat
  refine j_iload_n C0 1 dX5_throat_0 rfl rfl ?_
  refine j_callSi C0 (c_X5_isShelf l z _ _) yk_X5_isShelf w_187 ⟨Nat.le_of_ble_eq_true rfl, Nat.le_of_ble_eq_true rfl⟩ rfl rfl (Nat.le_of_ble_eq_true rfl) dX5_throat_1 ?_
  refine j_if_eq C0 29 dX5_throat_4 (by decide) (fun c_4 => ?_) (fun c_4 => ?_)
  · refine j_iconst C0 (v := (-1)) dX5_throat_29 (by decide) ?_
    exact j_iretP C0 hrt hlk dX5_throat_30
  · refine j_iload_n C0 2 dX5_throat_7 rfl rfl ?_
    refine j_callSi C0 (c_X5_isFeeling l z _ _) yk_X5_isFeeling w_245 ⟨Nat.le_of_ble_eq_true rfl, Nat.le_of_ble_eq_true rfl⟩ rfl rfl (Nat.le_of_ble_eq_true rfl) dX5_throat_8 ?_
    refine j_if_eq C0 29 dX5_throat_11 (by decide) (fun c_11 => ?_) (fun c_11 => ?_)
    · refine j_iconst C0 (v := (-1)) dX5_throat_29 (by decide) ?_
      exact j_iretP C0 hrt hlk dX5_throat_30
    · refine j_iload_n C0 3 dX5_throat_14 rfl rfl ?_
      refine j_callSi C0 (c_X5_isFigure l z _ _) yk_X5_isFigure w_242 ⟨Nat.le_of_ble_eq_true rfl, Nat.le_of_ble_eq_true rfl⟩ rfl rfl (Nat.le_of_ble_eq_true rfl) dX5_throat_15 ?_
      refine j_if_eq C0 29 dX5_throat_18 (by decide) (fun c_18 => ?_) (fun c_18 => ?_)
      · refine j_iconst C0 (v := (-1)) dX5_throat_29 (by decide) ?_
        exact j_iretP C0 hrt hlk dX5_throat_30
      · refine j_iload C0 4 dX5_throat_21 rfl ?_
        refine j_callSi C0 (c_X5_isOneOfTwo l z _ _) yk_X5_isOneOfTwo w_353 ⟨Nat.le_of_ble_eq_true rfl, Nat.le_of_ble_eq_true rfl⟩ rfl rfl (Nat.le_of_ble_eq_true rfl) dX5_throat_23 ?_
        refine j_if_ne C0 31 dX5_throat_26 (by decide) (fun c_26 => ?_) (fun c_26 => ?_)
        · refine j_iconst C0 (v := (-1)) dX5_throat_29 (by decide) ?_
          exact j_iretP C0 hrt hlk dX5_throat_30
        · refine j_aload_n C0 0 dX5_throat_31 rfl rfl ?_
          refine j_iload_n C0 1 dX5_throat_32 rfl rfl ?_
          refine j_callVi C0 (c_X5_refusalOfRow l z _ _ hI) yk_X5_refusalOfRow w_179 (fun H locs hP _ => recvW C0 hP _ (by decide) cel_main rfl) ⟨Nat.le_of_ble_eq_true rfl, Nat.le_of_ble_eq_true rfl⟩ rfl rfl (Nat.le_of_ble_eq_true rfl) dX5_throat_33 ?_
          refine j_istore C0 (lv' := [(5, _), (0, _), (1, _), (2, _), (3, _), (4, _)]) dX5_throat_36 (by decide) rfl ?_
          refine j_iload C0 0 dX5_throat_38 rfl ?_
          refine j_if_eq C0 46 dX5_throat_40 (by decide) (fun c_40 => ?_) (fun c_40 => ?_)
          · have hv := refusalR_in c_40
            refine j_iconst C0 (v := 0) dX5_throat_46 (by decide) ?_
            refine j_istore C0 (lv' := [(6, _), (5, _), (0, _), (1, _), (2, _), (3, _), (4, _)]) dX5_throat_47 (by decide) rfl ?_
            refine j_iconst C0 (v := 0) dX5_throat_49 (by decide) ?_
            refine j_istore C0 (lv' := [(7, _), (6, _), (5, _), (0, _), (1, _), (2, _), (3, _), (4, _)]) dX5_throat_50 (by decide) rfl ?_
            have L52 : ∀ (n0 : Nat) (a6 : Int32) (a7 : Int32), lc a7 8 n0 → jj p l e { frames := 4, cells := 0, slots := 0, locals := 86 } s m args below meth c (zA z) (zD z) 52 (zad z) (celC z) 8 (fun r => MQ below (qIC z (r, g)) args s 0 0 (zA z)) (f_X5_throat_52 g p0 p1 p2 p3 n0 a6 a7) g 52 [(0, .ref (zad z 46)), (1, .int p0), (2, .int p1), (3, .int p2), (4, .int p3), (6, .int a6), (7, .int a7)] [] := by
              intro n0
              induction n0 with
              | zero => intro a6 a7 hL; exact absurd hL.2 (Nat.not_lt_zero _)
              | succ n0 ih0 =>
                intro a6 a7 hL
                rw [f_X5_throat_52]
                refine j_iload C0 6 dX5_throat_52 rfl ?_
                refine k_KINDS C0 w_240 dX5_throat_54 ?_
                refine k_len C0 dX5_throat_57 ?_
                refine j_icmp_ge C0 99 dX5_throat_58 (by decide) (fun c_58 => ?_) (fun c_58 => ?_)
                · refine j_iload C0 4 dX5_throat_99 rfl ?_
                  refine j_if_ne C0 109 dX5_throat_101 (by decide) (fun c_101 => ?_) (fun c_101 => ?_)
                  · refine j_iload C0 5 dX5_throat_104 rfl ?_
                    refine j_goto C0 114 dX5_throat_106 (by decide) ?_
                    exact j_iretP C0 hrt hlk dX5_throat_114
                  · refine j_iload C0 5 dX5_throat_109 rfl ?_
                    refine j_callXi C0 (na := 1) (c_J6_bitCount_0f7a4 l z _ _) (gSX w_519 w_520 w_10 w_521) (by decide +kernel) ⟨Nat.le_of_ble_eq_true rfl, Nat.le_of_ble_eq_true rfl⟩ rfl rfl (Nat.le_of_ble_eq_true rfl) dX5_throat_111 ?_
                    exact j_iretP C0 hrt hlk dX5_throat_114
                · have hv_a7 : vp_in a7 8 := vin_lc hL c_58 (by decide : (8 : Int32).toInt ≤ 8)
                  refine j_aload_n C0 0 dX5_throat_61 rfl rfl ?_
                  refine g_Cakes_shelves C0 w_156 dX5_throat_62 ?_
                  refine j_iload_n C0 1 dX5_throat_65 rfl rfl ?_
                  refine a_shelves C0 hv dX5_throat_66 ?_
                  refine j_iload_n C0 2 dX5_throat_67 rfl rfl ?_
                  refine k_KINDS C0 w_240 dX5_throat_68 ?_
                  refine j_iload C0 6 dX5_throat_71 rfl ?_
                  refine k_at C0 hv_a7 dX5_throat_73 ?_
                  refine j_iload_n C0 3 dX5_throat_74 rfl rfl ?_
                  refine j_callVi C0 (c_X1_biteWith l z _ a7 _ hv_a7) yk_X1_biteWith w_515 (fun H locs _ hS => recvE C0 hv_a7 hS) ⟨Nat.le_of_ble_eq_true rfl, Nat.le_of_ble_eq_true rfl⟩ rfl rfl (Nat.le_of_ble_eq_true rfl) dX5_throat_75 ?_
                  refine j_callSi C0 (c_X5_hungerFellSo l z _ (ix p0) (vin_lt hv) _ _ hI) yk_X5_hungerFellSo w_516 ⟨Nat.le_of_ble_eq_true rfl, Nat.le_of_ble_eq_true rfl⟩ rfl rfl (Nat.le_of_ble_eq_true rfl) dX5_throat_78 ?_
                  refine j_if_eq C0 93 dX5_throat_81 (by decide) (fun c_81 => ?_) (fun c_81 => ?_)
                  · refine j_iinc C0 (lv' := [(7, _), (0, _), (1, _), (2, _), (3, _), (4, _), (6, _)]) (v := _ + (1)) 6 dX5_throat_93 rfl (by rfl) (by decide) rfl ?_
                    refine j_goto C0 52 dX5_throat_96 (by decide) ?_
                    exact j_sub [1, 2, 3, 4, 5, 6, 0] rfl (ih0 _ _ (lc_stepN hL c_58))
                  · refine j_iload C0 5 dX5_throat_84 rfl ?_
                    refine j_iconst C0 (v := 1) dX5_throat_86 (by decide) ?_
                    refine j_iload C0 6 dX5_throat_87 rfl ?_
                    refine j_ishl C0 dX5_throat_89 ?_
                    refine j_ior C0 dX5_throat_90 ?_
                    refine j_istore C0 (lv' := [(6, _), (0, _), (1, _), (2, _), (3, _), (4, _), (7, _)]) dX5_throat_91 (by decide) rfl ?_
                    refine j_iinc C0 (lv' := [(7, _), (6, _), (0, _), (1, _), (2, _), (3, _), (4, _)]) (v := _ + (1)) 6 dX5_throat_93 rfl (by rfl) (by decide) rfl ?_
                    refine j_goto C0 52 dX5_throat_96 (by decide) ?_
                    exact j_sub [2, 3, 4, 5, 6, 1, 0] rfl (ih0 _ _ (lc_stepN hL c_58))
            exact j_sub [3, 4, 5, 6, 7, 1, 0] rfl (L52 9 _ _ (lc_0 (by have := (by decide : (8 : Int32).toInt ≤ 8); omega) (by decide)))
          · refine j_iload C0 0 dX5_throat_43 rfl ?_
            exact j_iretP C0 hrt hlk dX5_throat_45
def f_X5_gainOfSwap (g : Mem) (d : Nat) (p1 p2 : Int32) : Int32 := (((f_X0_joysOf g 0 (f_X4_at g d ((2 : Int32) * p1)) (f_X4_at g d (((2 : Int32) * p2) + (1 : Int32)))) + (f_X0_joysOf g 0 (f_X4_at g d ((2 : Int32) * p2)) (f_X4_at g d (((2 : Int32) * p1) + (1 : Int32))))) - ((f_X0_joysOf g 0 (f_X4_at g d ((2 : Int32) * p1)) (f_X4_at g d (((2 : Int32) * p1) + (1 : Int32)))) + (f_X0_joysOf g 0 (f_X4_at g d ((2 : Int32) * p2)) (f_X4_at g d (((2 : Int32) * p2) + (1 : Int32))))))
theorem yk_X5_gainOfSwap : yokV yX5_gainOfSwap RX5 cX5_gainOfSwap 9 (some .int) 3 := ⟨w_510, w_509, wp_22, w_1, by decide +kernel⟩
set_option maxHeartbeats 4000000 in
set_option maxRecDepth 100000 in
theorem c_X5_gainOfSwap (l : Launch) (z : ZC) (g : Mem) (d : Nat) (hd : d < 8) (p1 p2 : Int32) (h4 : vp_in (f_X4_at g d ((2 : Int32) * p1)) 8) (h5 : vp_in (f_X4_at g d (((2 : Int32) * p1) + (1 : Int32))) 8) (h6 : vp_in (f_X4_at g d ((2 : Int32) * p2)) 8) (h7 : vp_in (f_X4_at g d (((2 : Int32) * p2) + (1 : Int32))) 8) (hI : In g) : ctC l yX5_gainOfSwap cX5_gainOfSwap 9 (some .int) 4 78 z g [.ref (zad z 46), .ref (zad z (24 + d)), .int p1, .int p2] (qIC z (f_X5_gainOfSwap g d p1 p2, g)) := by
  refine ct_of (own := RX5) (q := fun r => qIC z (r, g)) (res := f_X5_gainOfSwap g d p1 p2) (lv := [(0, .ref (zad z 46)), (1, .ref (zad z (24 + d))), (2, .int p1), (3, .int p2)]) (enokC z) rfl (by decide) (Nat.le_of_ble_eq_true rfl) rfl (fun p e s m args below meth c C0 hrt hlk => ?_)
  unfold f_X5_gainOfSwap
  refine j_aload_n C0 1 dX5_gainOfSwap_0 rfl rfl ?_
  refine j_iconst C0 (v := 2) dX5_gainOfSwap_1 (by decide) ?_
  refine j_iload_n C0 2 dX5_gainOfSwap_2 rfl rfl ?_
  refine j_imul C0 dX5_gainOfSwap_3 ?_
  refine j_callVi C0 (c_X4_at l z _ d hd _ hI) yk_X4_at w_196 (fun H locs hP _ => recvW C0 hP _ (by have := hd; omega) (cel_shelf hd) rfl) ⟨Nat.le_of_ble_eq_true rfl, Nat.le_of_ble_eq_true rfl⟩ rfl rfl (Nat.le_of_ble_eq_true rfl) dX5_gainOfSwap_4 ?_
  refine j_istore C0 (lv' := [(4, _), (0, _), (1, _), (2, _), (3, _)]) dX5_gainOfSwap_7 (by decide) rfl ?_
  refine j_aload_n C0 2 dX5_gainOfSwap_9 rfl rfl ?_
  refine j_iconst C0 (v := 2) dX5_gainOfSwap_10 (by decide) ?_
  refine j_iload_n C0 3 dX5_gainOfSwap_11 rfl rfl ?_
  refine j_imul C0 dX5_gainOfSwap_12 ?_
  refine j_iconst C0 (v := 1) dX5_gainOfSwap_13 (by decide) ?_
  refine j_iadd C0 dX5_gainOfSwap_14 ?_
  refine j_callVi C0 (c_X4_at l z _ d hd _ hI) yk_X4_at w_196 (fun H locs hP _ => recvW C0 hP _ (by have := hd; omega) (cel_shelf hd) rfl) ⟨Nat.le_of_ble_eq_true rfl, Nat.le_of_ble_eq_true rfl⟩ rfl rfl (Nat.le_of_ble_eq_true rfl) dX5_gainOfSwap_15 ?_
  refine j_istore C0 (lv' := [(5, _), (4, _), (0, _), (1, _), (2, _), (3, _)]) dX5_gainOfSwap_18 (by decide) rfl ?_
  refine j_aload_n C0 3 dX5_gainOfSwap_20 rfl rfl ?_
  refine j_iconst C0 (v := 2) dX5_gainOfSwap_21 (by decide) ?_
  refine j_iload_n C0 5 dX5_gainOfSwap_22 rfl rfl ?_
  refine j_imul C0 dX5_gainOfSwap_23 ?_
  refine j_callVi C0 (c_X4_at l z _ d hd _ hI) yk_X4_at w_196 (fun H locs hP _ => recvW C0 hP _ (by have := hd; omega) (cel_shelf hd) rfl) ⟨Nat.le_of_ble_eq_true rfl, Nat.le_of_ble_eq_true rfl⟩ rfl rfl (Nat.le_of_ble_eq_true rfl) dX5_gainOfSwap_24 ?_
  refine j_istore C0 (lv' := [(6, _), (5, _), (4, _), (0, _), (1, _), (2, _), (3, _)]) dX5_gainOfSwap_27 (by decide) rfl ?_
  refine j_aload_n C0 4 dX5_gainOfSwap_29 rfl rfl ?_
  refine j_iconst C0 (v := 2) dX5_gainOfSwap_30 (by decide) ?_
  refine j_iload_n C0 6 dX5_gainOfSwap_31 rfl rfl ?_
  refine j_imul C0 dX5_gainOfSwap_32 ?_
  refine j_iconst C0 (v := 1) dX5_gainOfSwap_33 (by decide) ?_
  refine j_iadd C0 dX5_gainOfSwap_34 ?_
  refine j_callVi C0 (c_X4_at l z _ d hd _ hI) yk_X4_at w_196 (fun H locs hP _ => recvW C0 hP _ (by have := hd; omega) (cel_shelf hd) rfl) ⟨Nat.le_of_ble_eq_true rfl, Nat.le_of_ble_eq_true rfl⟩ rfl rfl (Nat.le_of_ble_eq_true rfl) dX5_gainOfSwap_35 ?_
  refine j_istore C0 (lv' := [(7, _), (6, _), (5, _), (4, _), (0, _), (1, _), (2, _), (3, _)]) dX5_gainOfSwap_38 (by decide) rfl ?_
  refine j_aload_n C0 4 dX5_gainOfSwap_40 rfl rfl ?_
  refine g_Cakes_now C0 w_157 dX5_gainOfSwap_41 ?_
  refine j_iload C0 3 dX5_gainOfSwap_44 rfl ?_
  refine j_iload C0 2 dX5_gainOfSwap_46 rfl ?_
  refine j_callVi C0 (c_X0_joysOf l z _ 0 lt3_0 _ _ h4 h5 hI) yk_X0_joysOf w_370 (fun H locs hP _ => recvW C0 hP _ (by have := lt3_0; omega) (cel_fete lt3_0) rfl) ⟨Nat.le_of_ble_eq_true rfl, Nat.le_of_ble_eq_true rfl⟩ rfl rfl (Nat.le_of_ble_eq_true rfl) dX5_gainOfSwap_48 ?_
  refine j_aload_n C0 4 dX5_gainOfSwap_51 rfl rfl ?_
  refine g_Cakes_now C0 w_157 dX5_gainOfSwap_52 ?_
  refine j_iload C0 1 dX5_gainOfSwap_55 rfl ?_
  refine j_iload C0 0 dX5_gainOfSwap_57 rfl ?_
  refine j_callVi C0 (c_X0_joysOf l z _ 0 lt3_0 _ _ h6 h7 hI) yk_X0_joysOf w_370 (fun H locs hP _ => recvW C0 hP _ (by have := lt3_0; omega) (cel_fete lt3_0) rfl) ⟨Nat.le_of_ble_eq_true rfl, Nat.le_of_ble_eq_true rfl⟩ rfl rfl (Nat.le_of_ble_eq_true rfl) dX5_gainOfSwap_59 ?_
  refine j_iadd C0 dX5_gainOfSwap_62 ?_
  refine j_istore C0 (lv' := [(8, _), (7, _), (6, _), (5, _), (4, _), (0, _), (1, _), (2, _), (3, _)]) dX5_gainOfSwap_63 (by decide) rfl ?_
  refine j_aload_n C0 5 dX5_gainOfSwap_65 rfl rfl ?_
  refine g_Cakes_now C0 w_157 dX5_gainOfSwap_66 ?_
  refine j_iload C0 4 dX5_gainOfSwap_69 rfl ?_
  refine j_iload C0 1 dX5_gainOfSwap_71 rfl ?_
  refine j_callVi C0 (c_X0_joysOf l z _ 0 lt3_0 _ _ h4 h7 hI) yk_X0_joysOf w_370 (fun H locs hP _ => recvW C0 hP _ (by have := lt3_0; omega) (cel_fete lt3_0) rfl) ⟨Nat.le_of_ble_eq_true rfl, Nat.le_of_ble_eq_true rfl⟩ rfl rfl (Nat.le_of_ble_eq_true rfl) dX5_gainOfSwap_73 ?_
  refine j_aload_n C0 5 dX5_gainOfSwap_76 rfl rfl ?_
  refine g_Cakes_now C0 w_157 dX5_gainOfSwap_77 ?_
  refine j_iload C0 2 dX5_gainOfSwap_80 rfl ?_
  refine j_iload C0 3 dX5_gainOfSwap_82 rfl ?_
  refine j_callVi C0 (c_X0_joysOf l z _ 0 lt3_0 _ _ h6 h5 hI) yk_X0_joysOf w_370 (fun H locs hP _ => recvW C0 hP _ (by have := lt3_0; omega) (cel_fete lt3_0) rfl) ⟨Nat.le_of_ble_eq_true rfl, Nat.le_of_ble_eq_true rfl⟩ rfl rfl (Nat.le_of_ble_eq_true rfl) dX5_gainOfSwap_84 ?_
  refine j_iadd C0 dX5_gainOfSwap_87 ?_
  refine j_iload C0 0 dX5_gainOfSwap_88 rfl ?_
  refine j_isub C0 dX5_gainOfSwap_90 ?_
  exact j_iretP C0 hrt hlk dX5_gainOfSwap_91
theorem step2 {a len : Int32} {n : Nat} (h : 0 ≤ a.toInt ∧ a.toInt ≤ 102 ∧ (len.toInt - a.toInt).toNat < n + 1) (c : ¬ len ≤ a) (hl : len.toInt ≤ 100) : 0 ≤ (a + 2).toInt ∧ (a + 2).toInt ≤ 102 ∧ (len.toInt - (a + 2).toInt).toNat < n := by
  have c2 : a.toInt < len.toInt := by
    have : ¬ len.toInt ≤ a.toInt := fun q => c (Int32.le_iff_toInt_le.mpr q)
    omega
  rw [inc2_toInt h.1 (by omega)]
  omega
theorem half_le {x : Int32} (h0 : 0 ≤ x.toInt) (h : x.toInt ≤ 100) : (x / 2).toInt ≤ 50 := by
  have e2 : (2 : Int32).toInt = 2 := rfl
  rw [div_toInt h0 (by omega), e2]
  omega

def f_X5_arePairsApart_78 (g : Mem) (d : Nat) : Nat → Int32 → Int32
  | 0, _ => 0
  | n0s + 1, b3 => if (g (24 + d) 5) ≤ b3 then ((1 : Int32)) else (if (f_X0_canEat g 0 (f_X4_at g d b3) (f_X4_at g d (b3 + (1 : Int32)))) = 0 then ((0 : Int32)) else (f_X5_arePairsApart_78 g d n0s (b3 + (2 : Int32))))
def f_X5_arePairsApart_24 (g : Mem) (d : Nat) : Nat → Int32 → Int32 → Int32
  | 0, _, _ => 0
  | n0 + 1, a2, a3 => if (g (24 + d) 5) ≤ a3 then (f_X5_arePairsApart_78 g d 102 (0 : Int32)) else (if (f_X0_isThere g 0 (f_X4_at g d a3)) = 0 then ((0 : Int32)) else (if ((a2 >>> ((f_X4_at g d a3) &&& 31)) &&& (1 : Int32)) = (1 : Int32) then ((0 : Int32)) else (f_X5_arePairsApart_24 g d n0 (a2 ||| ((1 : Int32) <<< ((f_X4_at g d a3) &&& 31))) (a3 + (1 : Int32)))))
def f_X5_arePairsApart (g : Mem) (d : Nat) : Int32 := if ((g (24 + d) 5) - (g (24 + d) 5) / (2 : Int32) * (2 : Int32)) = 0 then (if (g (24 + d) 5) ≤ (8 : Int32) then (f_X5_arePairsApart_24 g d 9 (0 : Int32) (0 : Int32)) else ((0 : Int32))) else ((0 : Int32))
theorem b01_f_X5_arePairsApart_78 (g : Mem) (d : Nat) : ∀ (n : Nat) (x0 : Int32), f_X5_arePairsApart_78 g d n x0 = 0 ∨ f_X5_arePairsApart_78 g d n x0 = 1 := by
  intro n
  induction n with
  | zero => intros; exact Or.inl rfl
  | succ n ih =>
    intros
    rw [f_X5_arePairsApart_78]
    repeat' split
    all_goals first | (with_reducible exact Or.inl rfl) | (with_reducible exact Or.inr rfl) | exact ih _
theorem b01_f_X5_arePairsApart_24 (g : Mem) (d : Nat) : ∀ (n : Nat) (x0 : Int32) (x1 : Int32), f_X5_arePairsApart_24 g d n x0 x1 = 0 ∨ f_X5_arePairsApart_24 g d n x0 x1 = 1 := by
  intro n
  induction n with
  | zero => intros; exact Or.inl rfl
  | succ n ih =>
    intros
    rw [f_X5_arePairsApart_24]
    repeat' split
    all_goals first | (with_reducible exact Or.inl rfl) | (with_reducible exact Or.inr rfl) | exact ih _ _ | exact b01_f_X5_arePairsApart_78 _ _ _ _
theorem b01_X5_arePairsApart (g : Mem) (d : Nat) : f_X5_arePairsApart g d = 0 ∨ f_X5_arePairsApart g d = 1 := by
  unfold f_X5_arePairsApart
  repeat' split
  all_goals first | (with_reducible exact Or.inl rfl) | (with_reducible exact Or.inr rfl) | assumption | exact b01_f_X5_arePairsApart_78 _ _ _ _ | exact b01_f_X5_arePairsApart_24 _ _ _ _ _
theorem yk_X5_arePairsApart : yokV yX5_arePairsApart RX5 cX5_arePairsApart 5 (some .boolean) 1 := ⟨w_506, w_505, wp_21, w_1, by decide +kernel⟩
set_option maxHeartbeats 4000000 in
set_option maxRecDepth 100000 in
theorem c_X5_arePairsApart (l : Launch) (z : ZC) (g : Mem) (d : Nat) (hd : d < 8) (hI : In g) : ctC l yX5_arePairsApart cX5_arePairsApart 5 (some .boolean) 3 65 z g [.ref (zad z 46), .ref (zad z (24 + d))] (qIC z (f_X5_arePairsApart g d, g)) := by
  refine ct_of (own := RX5) (q := fun r => qIC z (r, g)) (res := f_X5_arePairsApart g d) (lv := [(0, .ref (zad z 46)), (1, .ref (zad z (24 + d)))]) (enokC z) rfl (by decide) (Nat.le_of_ble_eq_true rfl) rfl (fun p e s m args below meth c C0 hrt hlk => ?_)
  unfold f_X5_arePairsApart
  refine j_aload_n C0 1 dX5_arePairsApart_0 rfl rfl ?_
  refine g_Shelf_length C0 hd w_142 dX5_arePairsApart_1 ?_
  refine j_iconst C0 (v := 2) dX5_arePairsApart_4 (by decide) ?_
  refine j_irem C0 dX5_arePairsApart_5 (by decide) ?_
  refine j_if_ne C0 18 dX5_arePairsApart_6 (by decide) (fun c_6 => ?_) (fun c_6 => ?_)
  · refine j_aload_n C0 1 dX5_arePairsApart_9 rfl rfl ?_
    refine g_Shelf_length C0 hd w_142 dX5_arePairsApart_10 ?_
    refine j_bipush C0 (v := 8) dX5_arePairsApart_13 (by decide) ?_
    refine j_icmp_le C0 20 dX5_arePairsApart_15 (by decide) (fun c_15 => ?_) (fun c_15 => ?_)
    · refine j_iconst C0 (v := 0) dX5_arePairsApart_20 (by decide) ?_
      refine j_istore_n C0 (lv' := [(2, _), (0, _), (1, _)]) dX5_arePairsApart_21 rfl (by decide) rfl ?_
      refine j_iconst C0 (v := 0) dX5_arePairsApart_22 (by decide) ?_
      refine j_istore_n C0 (lv' := [(3, _), (2, _), (0, _), (1, _)]) dX5_arePairsApart_23 rfl (by decide) rfl ?_
      have L24 : ∀ (n0 : Nat) (a2 : Int32) (a3 : Int32), lc a3 (g (24 + d) 5) n0 → jj p l e { frames := 3, cells := 0, slots := 0, locals := 65 } s m args below meth c (zA z) (zD z) 52 (zad z) (celC z) 5 (fun r => MQ below (qIC z (r, g)) args s 0 0 (zA z)) (f_X5_arePairsApart_24 g d n0 a2 a3) g 24 [(0, .ref (zad z 46)), (1, .ref (zad z (24 + d))), (2, .int a2), (3, .int a3)] [] := by
        intro n0
        induction n0 with
        | zero => intro a2 a3 hL0; exact absurd hL0.2 (Nat.not_lt_zero _)
        | succ n0 ih0 =>
          intro a2 a3 hL0
          rw [f_X5_arePairsApart_24]
          refine j_iload_n C0 3 dX5_arePairsApart_24 rfl rfl ?_
          refine j_aload_n C0 1 dX5_arePairsApart_25 rfl rfl ?_
          refine g_Shelf_length C0 hd w_142 dX5_arePairsApart_26 ?_
          refine j_icmp_ge C0 76 dX5_arePairsApart_29 (by decide) (fun c_29 => ?_) (fun c_29 => ?_)
          · refine j_iconst C0 (v := 0) dX5_arePairsApart_76 (by decide) ?_
            refine j_istore_n C0 (lv' := [(3, _), (0, _), (1, _), (2, _)]) dX5_arePairsApart_77 rfl (by decide) rfl ?_
            have L78 : ∀ (n0s : Nat) (b3 : Int32), (0 ≤ b3.toInt ∧ b3.toInt ≤ 102 ∧ ((g (24 + d) 5).toInt - b3.toInt).toNat < n0s) → jj p l e { frames := 3, cells := 0, slots := 0, locals := 65 } s m args below meth c (zA z) (zD z) 52 (zad z) (celC z) 5 (fun r => MQ below (qIC z (r, g)) args s 0 0 (zA z)) (f_X5_arePairsApart_78 g d n0s b3) g 78 [(0, .ref (zad z 46)), (1, .ref (zad z (24 + d))), (3, .int b3)] [] := by
              intro n0s
              induction n0s with
              | zero => intro b3 hL1; exact absurd hL1.2.2 (Nat.not_lt_zero _)
              | succ n0s ih0s =>
                intro b3 hL1
                rw [f_X5_arePairsApart_78]
                refine j_iload_n C0 2 dX5_arePairsApart_78 rfl rfl ?_
                refine j_aload_n C0 1 dX5_arePairsApart_79 rfl rfl ?_
                refine g_Shelf_length C0 hd w_142 dX5_arePairsApart_80 ?_
                refine j_icmp_ge C0 116 dX5_arePairsApart_83 (by decide) (fun c_83 => ?_) (fun c_83 => ?_)
                · refine j_iconst C0 (v := 1) dX5_arePairsApart_116 (by decide) ?_
                  exact j_zretP C0 hrt hlk (Or.inr rfl) dX5_arePairsApart_117
                · refine j_aload_n C0 0 dX5_arePairsApart_86 rfl rfl ?_
                  refine g_Cakes_now C0 w_157 dX5_arePairsApart_87 ?_
                  refine j_aload_n C0 1 dX5_arePairsApart_90 rfl rfl ?_
                  refine j_iload_n C0 2 dX5_arePairsApart_91 rfl rfl ?_
                  refine j_callVi C0 (c_X4_at l z _ d hd _ hI) yk_X4_at w_196 (fun H locs hP _ => recvW C0 hP _ (by have := hd; omega) (cel_shelf hd) rfl) ⟨Nat.le_of_ble_eq_true rfl, Nat.le_of_ble_eq_true rfl⟩ rfl rfl (Nat.le_of_ble_eq_true rfl) dX5_arePairsApart_92 ?_
                  refine j_aload_n C0 1 dX5_arePairsApart_95 rfl rfl ?_
                  refine j_iload_n C0 2 dX5_arePairsApart_96 rfl rfl ?_
                  refine j_iconst C0 (v := 1) dX5_arePairsApart_97 (by decide) ?_
                  refine j_iadd C0 dX5_arePairsApart_98 ?_
                  refine j_callVi C0 (c_X4_at l z _ d hd _ hI) yk_X4_at w_196 (fun H locs hP _ => recvW C0 hP _ (by have := hd; omega) (cel_shelf hd) rfl) ⟨Nat.le_of_ble_eq_true rfl, Nat.le_of_ble_eq_true rfl⟩ rfl rfl (Nat.le_of_ble_eq_true rfl) dX5_arePairsApart_99 ?_
                  refine j_callVi C0 (c_X0_canEat l z _ 0 lt3_0 _ _ hI) yk_X0_canEat w_369 (fun H locs hP _ => recvW C0 hP _ (by have := lt3_0; omega) (cel_fete lt3_0) rfl) ⟨Nat.le_of_ble_eq_true rfl, Nat.le_of_ble_eq_true rfl⟩ rfl rfl (Nat.le_of_ble_eq_true rfl) dX5_arePairsApart_102 ?_
                  refine j_if_ne C0 110 dX5_arePairsApart_105 (by decide) (fun c_105 => ?_) (fun c_105 => ?_)
                  · refine j_iconst C0 (v := 0) dX5_arePairsApart_108 (by decide) ?_
                    exact j_zretP C0 hrt hlk (Or.inl rfl) dX5_arePairsApart_109
                  · refine j_iinc C0 (lv' := [(3, _), (0, _), (1, _)]) (v := _ + (2)) 2 dX5_arePairsApart_110 rfl (by rfl) (by decide) rfl ?_
                    refine j_goto C0 78 dX5_arePairsApart_113 (by decide) ?_
                    exact j_sub [1, 2, 0] rfl (ih0s _ (step2 hL1 c_83 (In_len hI hd)))
            exact j_sub [1, 2, 0] rfl (L78 102 _ (by have := In_len hI hd; have e0 : (0 : Int32).toInt = 0 := rfl; omega))
          · refine j_aload_n C0 1 dX5_arePairsApart_32 rfl rfl ?_
            refine j_iload_n C0 3 dX5_arePairsApart_33 rfl rfl ?_
            refine j_callVi C0 (c_X4_at l z _ d hd _ hI) yk_X4_at w_196 (fun H locs hP _ => recvW C0 hP _ (by have := hd; omega) (cel_shelf hd) rfl) ⟨Nat.le_of_ble_eq_true rfl, Nat.le_of_ble_eq_true rfl⟩ rfl rfl (Nat.le_of_ble_eq_true rfl) dX5_arePairsApart_34 ?_
            refine j_istore C0 (lv' := [(4, _), (0, _), (1, _), (2, _), (3, _)]) dX5_arePairsApart_37 (by decide) rfl ?_
            refine j_aload_n C0 1 dX5_arePairsApart_39 rfl rfl ?_
            refine g_Cakes_now C0 w_157 dX5_arePairsApart_40 ?_
            refine j_iload C0 0 dX5_arePairsApart_43 rfl ?_
            refine j_callVi C0 (c_X0_isThere l z _ 0 lt3_0 _) yk_X0_isThere w_331 (fun H locs hP _ => recvW C0 hP _ (by have := lt3_0; omega) (cel_fete lt3_0) rfl) ⟨Nat.le_of_ble_eq_true rfl, Nat.le_of_ble_eq_true rfl⟩ rfl rfl (Nat.le_of_ble_eq_true rfl) dX5_arePairsApart_45 ?_
            refine j_if_eq C0 61 dX5_arePairsApart_48 (by decide) (fun c_48 => ?_) (fun c_48 => ?_)
            · refine j_iconst C0 (v := 0) dX5_arePairsApart_61 (by decide) ?_
              exact j_zretP C0 hrt hlk (Or.inl rfl) dX5_arePairsApart_62
            · refine j_iload_n C0 3 dX5_arePairsApart_51 rfl rfl ?_
              refine j_iload C0 0 dX5_arePairsApart_52 rfl ?_
              refine j_ishr C0 dX5_arePairsApart_54 ?_
              refine j_iconst C0 (v := 1) dX5_arePairsApart_55 (by decide) ?_
              refine j_iand C0 dX5_arePairsApart_56 ?_
              refine j_iconst C0 (v := 1) dX5_arePairsApart_57 (by decide) ?_
              refine j_icmp_ne C0 63 dX5_arePairsApart_58 (by decide) (fun c_58 => ?_) (fun c_58 => ?_)
              · refine j_iconst C0 (v := 0) dX5_arePairsApart_61 (by decide) ?_
                exact j_zretP C0 hrt hlk (Or.inl rfl) dX5_arePairsApart_62
              · refine j_iload_n C0 3 dX5_arePairsApart_63 rfl rfl ?_
                refine j_iconst C0 (v := 1) dX5_arePairsApart_64 (by decide) ?_
                refine j_iload C0 0 dX5_arePairsApart_65 rfl ?_
                refine j_ishl C0 dX5_arePairsApart_67 ?_
                refine j_ior C0 dX5_arePairsApart_68 ?_
                refine j_istore_n C0 (lv' := [(2, _), (4, _), (0, _), (1, _), (3, _)]) dX5_arePairsApart_69 rfl (by decide) rfl ?_
                refine j_iinc C0 (lv' := [(3, _), (2, _), (4, _), (0, _), (1, _)]) (v := _ + (1)) 4 dX5_arePairsApart_70 rfl (by rfl) (by decide) rfl ?_
                refine j_goto C0 24 dX5_arePairsApart_73 (by decide) ?_
                exact j_sub [3, 4, 1, 0] rfl (ih0 _ _ (lc_stepN hL0 c_29))
      exact j_sub [2, 3, 1, 0] rfl (L24 9 _ _ (lc_0 (by have := Int32.le_iff_toInt_le.mp c_15; have e8 : (8 : Int32).toInt = 8 := rfl; omega) (by decide)))
    · refine j_iconst C0 (v := 0) dX5_arePairsApart_18 (by decide) ?_
      exact j_zretP C0 hrt hlk (Or.inl rfl) dX5_arePairsApart_19
  · refine j_iconst C0 (v := 0) dX5_arePairsApart_18 (by decide) ?_
    exact j_zretP C0 hrt hlk (Or.inl rfl) dX5_arePairsApart_19
theorem apart_L {g : Mem} (hI : In g) {d : Nat} (hd : d < 8) : ∀ (n : Nat) (a2 a3 : Int32), lc a3 (g (24 + d) 5) n → ¬ f_X5_arePairsApart_24 g d n a2 a3 = 0 → ∀ i : Int32, a3.toInt ≤ i.toInt → i.toInt < (g (24 + d) 5).toInt → vp_in (f_X4_at g d i) 8 := by
  intro n
  induction n with
  | zero => intro a2 a3 hL; exact absurd hL.2 (Nat.not_lt_zero _)
  | succ n ih =>
    intro a2 a3 hL h i h1 h2
    rw [f_X5_arePairsApart_24] at h
    split at h
    · have c := Int32.le_iff_toInt_le.mp (by assumption : g (24 + d) 5 ≤ a3)
      omega
    · have c := (by assumption : ¬ g (24 + d) 5 ≤ a3)
      have c2 : a3.toInt < (g (24 + d) 5).toInt := by
        have : ¬ (g (24 + d) 5).toInt ≤ a3.toInt := fun q => c (Int32.le_iff_toInt_le.mpr q)
        omega
      split at h
      · exact absurd rfl h
      · have ct := (by assumption : ¬ f_X0_isThere g 0 (f_X4_at g d a3) = 0)
        split at h
        · exact absurd rfl h
        · by_cases e : i = a3
          · rw [e]; exact isThere_in hI lt3_0 ct
          · refine ih _ _ (lc_stepN hL c) h i ?_ h2
            have : i.toInt ≠ a3.toInt := ne_toInt e
            rw [inc_toInt hL.1 c2]
            omega
theorem apart_in {g : Mem} (hI : In g) {d : Nat} (hd : d < 8) (h : ¬ f_X5_arePairsApart g d = 0) {i : Int32} (h0 : 0 ≤ i.toInt) (h1 : i.toInt < (g (24 + d) 5).toInt) : vp_in (f_X4_at g d i) 8 := by
  unfold f_X5_arePairsApart at h
  split at h
  · split at h
    · have c := Int32.le_iff_toInt_le.mp (by assumption : g (24 + d) 5 ≤ 8)
      have e8 : (8 : Int32).toInt = 8 := rfl
      exact apart_L hI hd 9 0 0 (lc_0 (by omega) (by decide)) h i h0 h1
    · exact absurd rfl h
  · exact absurd rfl h
theorem swap_in {g : Mem} (hI : In g) {d : Nat} (hd : d < 8) (h : ¬ f_X5_arePairsApart g d = 0) {a : Int32} (h0 : 0 ≤ a.toInt) (c : ¬ g (24 + d) 5 / 2 ≤ a) : vp_in (f_X4_at g d (2 * a)) 8 ∧ vp_in (f_X4_at g d (2 * a + 1)) 8 := by
  have hl := In_len hI hd
  have hl0 := In_len0 hI hd
  have e2 : (2 : Int32).toInt = 2 := rfl
  have e1 : (1 : Int32).toInt = 1 := rfl
  have c2 : a.toInt < (g (24 + d) 5).toInt / 2 := by
    have : ¬ (g (24 + d) 5 / 2).toInt ≤ a.toInt := fun q => c (Int32.le_iff_toInt_le.mpr q)
    rw [div_toInt hl0 (by omega), e2] at this
    omega
  have h2 : (2 * a).toInt = 2 * a.toInt := by rw [mul_toInt (by omega) (by omega) (by omega) (by omega), e2]
  have h3 : (2 * a + 1).toInt = 2 * a.toInt + 1 := by rw [add_toInt (by omega) (by omega) (by omega) (by omega), h2, e1]
  exact ⟨apart_in hI hd h (by omega) (by omega), apart_in hI hd h (by omega) (by omega)⟩

def f_X5_swap_57 (g : Mem) (p0 : Int32) (K0 : Int32 → Int32 → Int32 → Int32) (a4 : Int32) (a5 : Int32) (a6 : Int32) : Nat → Int32 → Int32 → Int32 → Int32
  | 0, _, _, _ => 0
  | n1 + 1, b4, b5, b7 => if ((g (24 + ix p0) 5) / (2 : Int32)) ≤ b7 then (K0 b4 b5 (a6 + (1 : Int32))) else (if (f_X5_gainOfSwap g (ix p0) a6 b7) ≤ b4 then (f_X5_swap_57 g p0 K0 a4 a5 a6 n1 b4 b5 (b7 + (1 : Int32))) else (f_X5_swap_57 g p0 K0 a4 a5 a6 n1 (f_X5_gainOfSwap g (ix p0) a6 b7) (((10 : Int32) * a6) + b7) (b7 + (1 : Int32))))
def f_X5_swap_40 (g : Mem) (p0 : Int32) : Nat → Int32 → Int32 → Int32 → Int32
  | 0, _, _, _ => 0
  | n0 + 1, a4, a5, a6 => if ((g (24 + ix p0) 5) / (2 : Int32)) ≤ a6 then (a5) else (f_X5_swap_57 g p0 (fun a4' a5' a6' => f_X5_swap_40 g p0 n0 a4' a5' a6') a4 a5 a6 51 a4 a5 (a6 + (1 : Int32)))
def f_X5_swap (g : Mem) (p0 : Int32) : Int32 := if (f_X5_refusalOfRow g p0) = 0 then (if (f_X5_arePairsApart g (ix p0)) = 0 then ((-13 : Int32)) else (f_X5_swap_40 g p0 51 (0 : Int32) (-4 : Int32) (0 : Int32))) else ((f_X5_refusalOfRow g p0))
theorem yk_X5_swap : yokV yX5_swap RX5 cX5_swap 9 (some .int) 1 := ⟨w_502, w_500, w_501, w_1, by decide +kernel⟩
set_option maxHeartbeats 4000000 in
set_option maxRecDepth 100000 in
theorem c_X5_swap (l : Launch) (z : ZC) (g : Mem) (p0 : Int32) (hI : In g) : ctC l yX5_swap cX5_swap 9 (some .int) 5 106 z g [.ref (zad z 46), .int p0] (qIC z (f_X5_swap g p0, g)) := by
  refine ct_of (own := RX5) (q := fun r => qIC z (r, g)) (res := f_X5_swap g p0) (lv := [(0, .ref (zad z 46)), (1, .int p0)]) (enokC z) rfl (by decide) (Nat.le_of_ble_eq_true rfl) rfl (fun p e s m args below meth c C0 hrt hlk => ?_)
  unfold f_X5_swap
  refine j_aload_n C0 0 dX5_swap_0 rfl rfl ?_
  refine j_iload_n C0 1 dX5_swap_1 rfl rfl ?_
  refine j_callVi C0 (c_X5_refusalOfRow l z _ _ hI) yk_X5_refusalOfRow w_179 (fun H locs hP _ => recvW C0 hP _ (by decide) cel_main rfl) ⟨Nat.le_of_ble_eq_true rfl, Nat.le_of_ble_eq_true rfl⟩ rfl rfl (Nat.le_of_ble_eq_true rfl) dX5_swap_2 ?_
  refine j_istore_n C0 (lv' := [(2, _), (0, _), (1, _)]) dX5_swap_5 rfl (by decide) rfl ?_
  refine j_iload_n C0 0 dX5_swap_6 rfl rfl ?_
  refine j_if_eq C0 12 dX5_swap_7 (by decide) (fun c_7 => ?_) (fun c_7 => ?_)
  · have hv := refusalR_in c_7
    refine j_aload_n C0 1 dX5_swap_12 rfl rfl ?_
    refine g_Cakes_shelves C0 w_156 dX5_swap_13 ?_
    refine j_iload_n C0 2 dX5_swap_16 rfl rfl ?_
    refine a_shelves C0 hv dX5_swap_17 ?_
    refine j_astore_n C0 (lv' := [(3, _), (2, _), (0, _), (1, _)]) dX5_swap_18 rfl (by decide) rfl ?_
    refine j_aload_n C0 2 dX5_swap_19 rfl rfl ?_
    refine j_aload_n C0 0 dX5_swap_20 rfl rfl ?_
    refine j_callVi C0 (c_X5_arePairsApart l z _ (ix p0) (vin_lt hv) hI) yk_X5_arePairsApart w_503 (fun H locs hP _ => recvW C0 hP _ (by decide) cel_main rfl) ⟨Nat.le_of_ble_eq_true rfl, Nat.le_of_ble_eq_true rfl⟩ rfl rfl (Nat.le_of_ble_eq_true rfl) dX5_swap_21 ?_
    refine j_if_ne C0 30 dX5_swap_24 (by decide) (fun c_24 => ?_) (fun c_24 => ?_)
    · refine j_bipush C0 (v := (-13)) dX5_swap_27 (by decide) ?_
      exact j_iretP C0 hrt hlk dX5_swap_29
    · refine j_iconst C0 (v := 0) dX5_swap_30 (by decide) ?_
      refine j_istore C0 (lv' := [(4, _), (3, _), (2, _), (0, _), (1, _)]) dX5_swap_31 (by decide) rfl ?_
      refine j_bipush C0 (v := (-4)) dX5_swap_33 (by decide) ?_
      refine j_istore C0 (lv' := [(5, _), (4, _), (3, _), (2, _), (0, _), (1, _)]) dX5_swap_35 (by decide) rfl ?_
      refine j_iconst C0 (v := 0) dX5_swap_37 (by decide) ?_
      refine j_istore C0 (lv' := [(6, _), (5, _), (4, _), (3, _), (2, _), (0, _), (1, _)]) dX5_swap_38 (by decide) rfl ?_
      have L40 : ∀ (n0 : Nat) (a4 : Int32) (a5 : Int32) (a6 : Int32), lc a6 ((g (24 + (ix p0)) 5) / (2 : Int32)) n0 → jj p l e { frames := 5, cells := 0, slots := 0, locals := 106 } s m args below meth c (zA z) (zD z) 52 (zad z) (celC z) 9 (fun r => MQ below (qIC z (r, g)) args s 0 0 (zA z)) (f_X5_swap_40 g p0 n0 a4 a5 a6) g 40 [(0, .ref (zad z 46)), (1, .int p0), (3, .ref (zad z (24 + ix p0))), (4, .int a4), (5, .int a5), (6, .int a6)] [] := by
        intro n0
        induction n0 with
        | zero => intro a4 a5 a6 hL0; exact absurd hL0.2 (Nat.not_lt_zero _)
        | succ n0 ih0 =>
          intro a4 a5 a6 hL0
          rw [f_X5_swap_40]
          refine j_iload C0 5 dX5_swap_40 rfl ?_
          refine j_aload_n C0 2 dX5_swap_42 rfl rfl ?_
          refine g_Shelf_length C0 (vin_lt hv) w_142 dX5_swap_43 ?_
          refine j_iconst C0 (v := 2) dX5_swap_46 (by decide) ?_
          refine j_idiv C0 dX5_swap_47 (by decide) ?_
          refine j_icmp_ge C0 112 dX5_swap_48 (by decide) (fun c_48 => ?_) (fun c_48 => ?_)
          · refine j_iload C0 4 dX5_swap_112 rfl ?_
            exact j_iretP C0 hrt hlk dX5_swap_114
          · refine j_iload C0 5 dX5_swap_51 rfl ?_
            refine j_iconst C0 (v := 1) dX5_swap_53 (by decide) ?_
            refine j_iadd C0 dX5_swap_54 ?_
            refine j_istore C0 (lv' := [(7, _), (0, _), (1, _), (3, _), (4, _), (5, _), (6, _)]) dX5_swap_55 (by decide) rfl ?_
            have L57 : ∀ (n1 : Nat) (b4 : Int32) (b5 : Int32) (b7 : Int32), lc b7 ((g (24 + (ix p0)) 5) / (2 : Int32)) n1 → jj p l e { frames := 5, cells := 0, slots := 0, locals := 106 } s m args below meth c (zA z) (zD z) 52 (zad z) (celC z) 9 (fun r => MQ below (qIC z (r, g)) args s 0 0 (zA z)) (f_X5_swap_57 g p0 (fun a4' a5' a6' => f_X5_swap_40 g p0 n0 a4' a5' a6') a4 a5 a6 n1 b4 b5 b7) g 57 [(0, .ref (zad z 46)), (1, .int p0), (3, .ref (zad z (24 + ix p0))), (4, .int b4), (5, .int b5), (6, .int a6), (7, .int b7)] [] := by
              intro n1
              induction n1 with
              | zero => intro b4 b5 b7 hL1; exact absurd hL1.2 (Nat.not_lt_zero _)
              | succ n1 ih1 =>
                intro b4 b5 b7 hL1
                rw [f_X5_swap_57]
                refine j_iload C0 6 dX5_swap_57 rfl ?_
                refine j_aload_n C0 2 dX5_swap_59 rfl rfl ?_
                refine g_Shelf_length C0 (vin_lt hv) w_142 dX5_swap_60 ?_
                refine j_iconst C0 (v := 2) dX5_swap_63 (by decide) ?_
                refine j_idiv C0 dX5_swap_64 (by decide) ?_
                refine j_icmp_ge C0 106 dX5_swap_65 (by decide) (fun c_65 => ?_) (fun c_65 => ?_)
                · refine j_iinc C0 (lv' := [(6, _), (0, _), (1, _), (3, _), (4, _), (5, _), (7, _)]) (v := _ + (1)) 5 dX5_swap_106 rfl (by rfl) (by decide) rfl ?_
                  refine j_goto C0 40 dX5_swap_109 (by decide) ?_
                  exact j_sub [1, 2, 3, 4, 5, 0] rfl (ih0 _ _ _ (lc_stepN hL0 c_48))
                · have hs1 := swap_in hI (vin_lt hv) c_24 hL0.1 c_48
                  have hs2 := swap_in hI (vin_lt hv) c_24 hL1.1 c_65
                  refine j_aload_n C0 0 dX5_swap_68 rfl rfl ?_
                  refine j_aload_n C0 2 dX5_swap_69 rfl rfl ?_
                  refine j_iload C0 5 dX5_swap_70 rfl ?_
                  refine j_iload C0 6 dX5_swap_72 rfl ?_
                  refine j_callVi C0 (c_X5_gainOfSwap l z _ (ix p0) (vin_lt hv) _ _ hs1.1 hs1.2 hs2.1 hs2.2 hI) yk_X5_gainOfSwap w_507 (fun H locs hP _ => recvW C0 hP _ (by decide) cel_main rfl) ⟨Nat.le_of_ble_eq_true rfl, Nat.le_of_ble_eq_true rfl⟩ rfl rfl (Nat.le_of_ble_eq_true rfl) dX5_swap_74 ?_
                  refine j_istore C0 (lv' := [(8, _), (0, _), (1, _), (3, _), (4, _), (5, _), (6, _), (7, _)]) dX5_swap_77 (by decide) rfl ?_
                  refine j_iload C0 0 dX5_swap_79 rfl ?_
                  refine j_iload C0 4 dX5_swap_81 rfl ?_
                  refine j_icmp_le C0 100 dX5_swap_83 (by decide) (fun c_83 => ?_) (fun c_83 => ?_)
                  · refine j_iinc C0 (lv' := [(7, _), (8, _), (0, _), (1, _), (3, _), (4, _), (5, _), (6, _)]) (v := _ + (1)) 7 dX5_swap_100 rfl (by rfl) (by decide) rfl ?_
                    refine j_goto C0 57 dX5_swap_103 (by decide) ?_
                    exact j_sub [2, 3, 4, 5, 6, 7, 0] rfl (ih1 _ _ _ (lc_stepN hL1 c_65))
                  · refine j_iload C0 0 dX5_swap_86 rfl ?_
                    refine j_istore C0 (lv' := [(4, _), (8, _), (0, _), (1, _), (3, _), (5, _), (6, _), (7, _)]) dX5_swap_88 (by decide) rfl ?_
                    refine j_bipush C0 (v := 10) dX5_swap_90 (by decide) ?_
                    refine j_iload C0 6 dX5_swap_92 rfl ?_
                    refine j_imul C0 dX5_swap_94 ?_
                    refine j_iload C0 7 dX5_swap_95 rfl ?_
                    refine j_iadd C0 dX5_swap_97 ?_
                    refine j_istore C0 (lv' := [(5, _), (4, _), (8, _), (0, _), (1, _), (3, _), (6, _), (7, _)]) dX5_swap_98 (by decide) rfl ?_
                    refine j_iinc C0 (lv' := [(7, _), (5, _), (4, _), (8, _), (0, _), (1, _), (3, _), (6, _)]) (v := _ + (1)) 7 dX5_swap_100 rfl (by rfl) (by decide) rfl ?_
                    refine j_goto C0 57 dX5_swap_103 (by decide) ?_
                    exact j_sub [4, 5, 6, 2, 1, 7, 0] rfl (ih1 _ _ _ (lc_stepN hL1 c_65))
            exact j_sub [1, 2, 3, 4, 5, 6, 0] rfl (L57 51 _ _ _ (by have h1 := (half_le (In_len0 hI (vin_lt hv)) (In_len hI (vin_lt hv))); have h2 : (a6 + 1).toInt = a6.toInt + 1 := inc_toInt hL0.1 (lt_of_nle c_48); have h3 := hL0.1; exact lc_from (by omega) (by omega) (by decide)))
      exact j_sub [5, 6, 3, 2, 1, 0] rfl (L40 51 _ _ _ (lc_0 (by have := (half_le (In_len0 hI (vin_lt hv)) (In_len hI (vin_lt hv))); omega) (by decide)))
  · refine j_iload_n C0 0 dX5_swap_10 rfl rfl ?_
    exact j_iretP C0 hrt hlk dX5_swap_11
