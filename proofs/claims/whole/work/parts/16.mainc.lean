def f_X5_bestPair (g : Mem) (p0 : Int32) : Int32 := if (f_X5_isOneOfTwo p0) = 0 then ((-1 : Int32)) else (if (f_X0_bestTurn g 0) < 0 then ((f_X0_bestTurn g 0)) else (if p0 = 0 then ((f_X0_bestTurn g 0)) else ((f_X0_joysOf g 0 ((f_X0_bestTurn g 0) / (10 : Int32)) ((f_X0_bestTurn g 0) - (f_X0_bestTurn g 0) / (10 : Int32) * (10 : Int32))))))
theorem yk_X5_bestPair : yokV yX5_bestPair RX5 cX5_bestPair 3 (some .int) 1 := ⟨w_380, w_378, w_379, w_1, by decide +kernel⟩
set_option maxHeartbeats 4000000 in
set_option maxRecDepth 100000 in
theorem c_X5_bestPair (l : Launch) (z : ZC) (g : Mem) (p0 : Int32) (hI : In g) : ctC l yX5_bestPair cX5_bestPair 3 (some .int) 6 126 z g [.ref (zad z 46), .int p0] (qIC z (f_X5_bestPair g p0, g)) := by
  refine ct_of (own := RX5) (q := fun r => qIC z (r, g)) (res := f_X5_bestPair g p0) (lv := [(0, .ref (zad z 46)), (1, .int p0)]) (enokC z) rfl (by decide) (Nat.le_of_ble_eq_true rfl) rfl (fun p e s m args below meth c C0 hrt hlk => ?_)
  unfold f_X5_bestPair
  refine j_iload_n C0 1 dX5_bestPair_0 rfl rfl ?_
  refine j_callSi C0 (c_X5_isOneOfTwo l z _ _) yk_X5_isOneOfTwo w_353 ⟨Nat.le_of_ble_eq_true rfl, Nat.le_of_ble_eq_true rfl⟩ rfl rfl (Nat.le_of_ble_eq_true rfl) dX5_bestPair_1 ?_
  refine j_if_ne C0 9 dX5_bestPair_4 (by decide) (fun c_4 => ?_) (fun c_4 => ?_)
  · refine j_iconst C0 (v := (-1)) dX5_bestPair_7 (by decide) ?_
    exact j_iretP C0 hrt hlk dX5_bestPair_8
  · refine j_aload_n C0 0 dX5_bestPair_9 rfl rfl ?_
    refine g_Cakes_now C0 w_157 dX5_bestPair_10 ?_
    refine j_callVi C0 (c_X0_bestTurn l z _ 0 lt3_0 hI) yk_X0_bestTurn w_381 (fun H locs hP _ => recvW C0 hP _ (by have := lt3_0; omega) (cel_fete lt3_0) rfl) ⟨Nat.le_of_ble_eq_true rfl, Nat.le_of_ble_eq_true rfl⟩ rfl rfl (Nat.le_of_ble_eq_true rfl) dX5_bestPair_13 ?_
    refine j_istore_n C0 (lv' := [(2, _), (0, _), (1, _)]) dX5_bestPair_16 rfl (by decide) rfl ?_
    refine j_iload_n C0 0 dX5_bestPair_17 rfl rfl ?_
    refine j_if_lt C0 25 dX5_bestPair_18 (by decide) (fun c_18 => ?_) (fun c_18 => ?_)
    · refine j_iload_n C0 0 dX5_bestPair_25 rfl rfl ?_
      exact j_iretP C0 hrt hlk dX5_bestPair_26
    · have hbt := bestTurn_in hI lt3_0 (x := _) rfl c_18
      refine j_iload_n C0 2 dX5_bestPair_21 rfl rfl ?_
      refine j_if_ne C0 27 dX5_bestPair_22 (by decide) (fun c_22 => ?_) (fun c_22 => ?_)
      · refine j_iload_n C0 0 dX5_bestPair_25 rfl rfl ?_
        exact j_iretP C0 hrt hlk dX5_bestPair_26
      · refine j_aload_n C0 1 dX5_bestPair_27 rfl rfl ?_
        refine g_Cakes_now C0 w_157 dX5_bestPair_28 ?_
        refine j_iload_n C0 0 dX5_bestPair_31 rfl rfl ?_
        refine j_bipush C0 (v := 10) dX5_bestPair_32 (by decide) ?_
        refine j_idiv C0 dX5_bestPair_34 (by decide) ?_
        refine j_iload_n C0 0 dX5_bestPair_35 rfl rfl ?_
        refine j_bipush C0 (v := 10) dX5_bestPair_36 (by decide) ?_
        refine j_irem C0 dX5_bestPair_38 (by decide) ?_
        refine j_callVi C0 (c_X0_joysOf l z _ 0 lt3_0 _ _ hbt.1 hbt.2 hI) yk_X0_joysOf w_370 (fun H locs hP _ => recvW C0 hP _ (by have := lt3_0; omega) (cel_fete lt3_0) rfl) ⟨Nat.le_of_ble_eq_true rfl, Nat.le_of_ble_eq_true rfl⟩ rfl rfl (Nat.le_of_ble_eq_true rfl) dX5_bestPair_39 ?_
        exact j_iretP C0 hrt hlk dX5_bestPair_42
def f_X5_bestLooker (g : Mem) (p0 : Int32) : Int32 := if (f_X0_isThere g 0 p0) = 0 then ((-1 : Int32)) else ((f_X0_bestLookerAt g 0 p0))
theorem yk_X5_bestLooker : yokV yX5_bestLooker RX5 cX5_bestLooker 2 (some .int) 1 := ⟨w_392, w_390, w_391, w_1, by decide +kernel⟩
set_option maxHeartbeats 4000000 in
set_option maxRecDepth 100000 in
theorem c_X5_bestLooker (l : Launch) (z : ZC) (g : Mem) (p0 : Int32) (hI : In g) : ctC l yX5_bestLooker cX5_bestLooker 2 (some .int) 5 102 z g [.ref (zad z 46), .int p0] (qIC z (f_X5_bestLooker g p0, g)) := by
  refine ct_of (own := RX5) (q := fun r => qIC z (r, g)) (res := f_X5_bestLooker g p0) (lv := [(0, .ref (zad z 46)), (1, .int p0)]) (enokC z) rfl (by decide) (Nat.le_of_ble_eq_true rfl) rfl (fun p e s m args below meth c C0 hrt hlk => ?_)
  unfold f_X5_bestLooker
  refine j_aload_n C0 0 dX5_bestLooker_0 rfl rfl ?_
  refine g_Cakes_now C0 w_157 dX5_bestLooker_1 ?_
  refine j_iload_n C0 1 dX5_bestLooker_4 rfl rfl ?_
  refine j_callVi C0 (c_X0_isThere l z _ 0 lt3_0 _) yk_X0_isThere w_331 (fun H locs hP _ => recvW C0 hP _ (by have := lt3_0; omega) (cel_fete lt3_0) rfl) ⟨Nat.le_of_ble_eq_true rfl, Nat.le_of_ble_eq_true rfl⟩ rfl rfl (Nat.le_of_ble_eq_true rfl) dX5_bestLooker_5 ?_
  refine j_if_eq C0 22 dX5_bestLooker_8 (by decide) (fun c_8 => ?_) (fun c_8 => ?_)
  · refine j_iconst C0 (v := (-1)) dX5_bestLooker_22 (by decide) ?_
    exact j_iretP C0 hrt hlk dX5_bestLooker_23
  · refine j_aload_n C0 0 dX5_bestLooker_11 rfl rfl ?_
    refine g_Cakes_now C0 w_157 dX5_bestLooker_12 ?_
    refine j_iload_n C0 1 dX5_bestLooker_15 rfl rfl ?_
    refine j_callVi C0 (c_X0_bestLookerAt l z _ 0 lt3_0 _ hI) yk_X0_bestLookerAt w_393 (fun H locs hP _ => recvW C0 hP _ (by have := lt3_0; omega) (cel_fete lt3_0) rfl) ⟨Nat.le_of_ble_eq_true rfl, Nat.le_of_ble_eq_true rfl⟩ rfl rfl (Nat.le_of_ble_eq_true rfl) dX5_bestLooker_16 ?_
    refine j_goto C0 23 dX5_bestLooker_19 (by decide) ?_
    exact j_iretP C0 hrt hlk dX5_bestLooker_23
def f_X5_who_27 (g : Mem) (p0 : Int32) (K0 : Int32 → Int32 → Int32) (a2 : Int32) (a3 : Int32) : Nat → Int32 → Int32 → Int32
  | 0, _, _ => 0
  | n1 + 1, b2, b4 => if (g 40 1) ≤ b4 then (K0 b2 (a3 + (1 : Int32))) else (if (f_X0_canEat g 0 a3 b4) = 0 then (f_X5_who_27 g p0 K0 a2 a3 n1 b2 (b4 + (1 : Int32))) else (if p0 = 0 then (f_X5_who_27 g p0 K0 a2 a3 n1 (b2 ||| ((1 : Int32) <<< (a3 &&& 31))) (b4 + (1 : Int32))) else (f_X5_who_27 g p0 K0 a2 a3 n1 (b2 ||| ((1 : Int32) <<< (b4 &&& 31))) (b4 + (1 : Int32)))))
def f_X5_who_13 (g : Mem) (p0 : Int32) : Nat → Int32 → Int32 → Int32
  | 0, _, _ => 0
  | n0 + 1, a2, a3 => if (g 40 1) ≤ a3 then (a2) else (f_X5_who_27 g p0 (fun a2' a3' => f_X5_who_13 g p0 n0 a2' a3') a2 a3 9 a2 (0 : Int32))
def f_X5_who (g : Mem) (p0 : Int32) : Int32 := if (f_X5_isOneOfTwo p0) = 0 then ((-1 : Int32)) else (f_X5_who_13 g p0 9 (0 : Int32) (0 : Int32))
theorem yk_X5_who : yokV yX5_who RX5 cX5_who 5 (some .int) 1 := ⟨w_376, w_374, w_375, w_1, by decide +kernel⟩
set_option maxHeartbeats 4000000 in
set_option maxRecDepth 100000 in
theorem c_X5_who (l : Launch) (z : ZC) (g : Mem) (p0 : Int32) (hI : In g) : ctC l yX5_who cX5_who 5 (some .int) 3 65 z g [.ref (zad z 46), .int p0] (qIC z (f_X5_who g p0, g)) := by
  refine ct_of (own := RX5) (q := fun r => qIC z (r, g)) (res := f_X5_who g p0) (lv := [(0, .ref (zad z 46)), (1, .int p0)]) (enokC z) rfl (by decide) (Nat.le_of_ble_eq_true rfl) rfl (fun p e s m args below meth c C0 hrt hlk => ?_)
  unfold f_X5_who
  refine j_iload_n C0 1 dX5_who_0 rfl rfl ?_
  refine j_callSi C0 (c_X5_isOneOfTwo l z _ _) yk_X5_isOneOfTwo w_353 ⟨Nat.le_of_ble_eq_true rfl, Nat.le_of_ble_eq_true rfl⟩ rfl rfl (Nat.le_of_ble_eq_true rfl) dX5_who_1 ?_
  refine j_if_ne C0 9 dX5_who_4 (by decide) (fun c_4 => ?_) (fun c_4 => ?_)
  · refine j_iconst C0 (v := (-1)) dX5_who_7 (by decide) ?_
    exact j_iretP C0 hrt hlk dX5_who_8
  · refine j_iconst C0 (v := 0) dX5_who_9 (by decide) ?_
    refine j_istore_n C0 (lv' := [(2, _), (0, _), (1, _)]) dX5_who_10 rfl (by decide) rfl ?_
    refine j_iconst C0 (v := 0) dX5_who_11 (by decide) ?_
    refine j_istore_n C0 (lv' := [(3, _), (2, _), (0, _), (1, _)]) dX5_who_12 rfl (by decide) rfl ?_
    have L13 : ∀ (n0 : Nat) (a2 : Int32) (a3 : Int32), lc a3 (g 40 1) n0 → jj p l e { frames := 3, cells := 0, slots := 0, locals := 65 } s m args below meth c (zA z) (zD z) 52 (zad z) (celC z) 5 (fun r => MQ below (qIC z (r, g)) args s 0 0 (zA z)) (f_X5_who_13 g p0 n0 a2 a3) g 13 [(0, .ref (zad z 46)), (1, .int p0), (2, .int a2), (3, .int a3)] [] := by
      intro n0
      induction n0 with
      | zero => intro a2 a3 hL0; exact absurd hL0.2 (Nat.not_lt_zero _)
      | succ n0 ih0 =>
        intro a2 a3 hL0
        rw [f_X5_who_13]
        refine j_iload_n C0 3 dX5_who_13 rfl rfl ?_
        refine j_aload_n C0 0 dX5_who_14 rfl rfl ?_
        refine g_Cakes_now C0 w_157 dX5_who_15 ?_
        refine g_Fete_size C0 lt3_0 w_85 dX5_who_18 ?_
        refine j_icmp_ge C0 79 dX5_who_21 (by decide) (fun c_21 => ?_) (fun c_21 => ?_)
        · refine j_iload_n C0 2 dX5_who_79 rfl rfl ?_
          exact j_iretP C0 hrt hlk dX5_who_80
        · refine j_iconst C0 (v := 0) dX5_who_24 (by decide) ?_
          refine j_istore C0 (lv' := [(4, _), (0, _), (1, _), (2, _), (3, _)]) dX5_who_25 (by decide) rfl ?_
          have L27 : ∀ (n1 : Nat) (b2 : Int32) (b4 : Int32), lc b4 (g 40 1) n1 → jj p l e { frames := 3, cells := 0, slots := 0, locals := 65 } s m args below meth c (zA z) (zD z) 52 (zad z) (celC z) 5 (fun r => MQ below (qIC z (r, g)) args s 0 0 (zA z)) (f_X5_who_27 g p0 (fun a2' a3' => f_X5_who_13 g p0 n0 a2' a3') a2 a3 n1 b2 b4) g 27 [(0, .ref (zad z 46)), (1, .int p0), (2, .int b2), (3, .int a3), (4, .int b4)] [] := by
            intro n1
            induction n1 with
            | zero => intro b2 b4 hL1; exact absurd hL1.2 (Nat.not_lt_zero _)
            | succ n1 ih1 =>
              intro b2 b4 hL1
              rw [f_X5_who_27]
              refine j_iload C0 4 dX5_who_27 rfl ?_
              refine j_aload_n C0 0 dX5_who_29 rfl rfl ?_
              refine g_Cakes_now C0 w_157 dX5_who_30 ?_
              refine g_Fete_size C0 lt3_0 w_85 dX5_who_33 ?_
              refine j_icmp_ge C0 73 dX5_who_36 (by decide) (fun c_36 => ?_) (fun c_36 => ?_)
              · refine j_iinc C0 (lv' := [(3, _), (0, _), (1, _), (2, _), (4, _)]) (v := _ + (1)) 3 dX5_who_73 rfl (by rfl) (by decide) rfl ?_
                refine j_goto C0 13 dX5_who_76 (by decide) ?_
                exact j_sub [1, 2, 3, 0] rfl (ih0 _ _ (lc_stepN hL0 c_21))
              · refine j_aload_n C0 0 dX5_who_39 rfl rfl ?_
                refine g_Cakes_now C0 w_157 dX5_who_40 ?_
                refine j_iload_n C0 3 dX5_who_43 rfl rfl ?_
                refine j_iload C0 4 dX5_who_44 rfl ?_
                refine j_callVi C0 (c_X0_canEat l z _ 0 lt3_0 _ _ hI) yk_X0_canEat w_369 (fun H locs hP _ => recvW C0 hP _ (by have := lt3_0; omega) (cel_fete lt3_0) rfl) ⟨Nat.le_of_ble_eq_true rfl, Nat.le_of_ble_eq_true rfl⟩ rfl rfl (Nat.le_of_ble_eq_true rfl) dX5_who_46 ?_
                refine j_if_eq C0 67 dX5_who_49 (by decide) (fun c_49 => ?_) (fun c_49 => ?_)
                · refine j_iinc C0 (lv' := [(4, _), (0, _), (1, _), (2, _), (3, _)]) (v := _ + (1)) 4 dX5_who_67 rfl (by rfl) (by decide) rfl ?_
                  refine j_goto C0 27 dX5_who_70 (by decide) ?_
                  exact j_sub [1, 2, 3, 4, 0] rfl (ih1 _ _ (lc_stepN hL1 c_36))
                · refine j_iload_n C0 2 dX5_who_52 rfl rfl ?_
                  refine j_iconst C0 (v := 1) dX5_who_53 (by decide) ?_
                  refine j_iload_n C0 1 dX5_who_54 rfl rfl ?_
                  refine j_if_ne C0 62 dX5_who_55 (by decide) (fun c_55 => ?_) (fun c_55 => ?_)
                  · refine j_iload_n C0 3 dX5_who_58 rfl rfl ?_
                    refine j_goto C0 64 dX5_who_59 (by decide) ?_
                    refine j_ishl C0 dX5_who_64 ?_
                    refine j_ior C0 dX5_who_65 ?_
                    refine j_istore_n C0 (lv' := [(2, _), (0, _), (1, _), (3, _), (4, _)]) dX5_who_66 rfl (by decide) rfl ?_
                    refine j_iinc C0 (lv' := [(4, _), (2, _), (0, _), (1, _), (3, _)]) (v := _ + (1)) 4 dX5_who_67 rfl (by rfl) (by decide) rfl ?_
                    refine j_goto C0 27 dX5_who_70 (by decide) ?_
                    exact j_sub [2, 3, 1, 4, 0] rfl (ih1 _ _ (lc_stepN hL1 c_36))
                  · refine j_iload C0 4 dX5_who_62 rfl ?_
                    refine j_ishl C0 dX5_who_64 ?_
                    refine j_ior C0 dX5_who_65 ?_
                    refine j_istore_n C0 (lv' := [(2, _), (0, _), (1, _), (3, _), (4, _)]) dX5_who_66 rfl (by decide) rfl ?_
                    refine j_iinc C0 (lv' := [(4, _), (2, _), (0, _), (1, _), (3, _)]) (v := _ + (1)) 4 dX5_who_67 rfl (by rfl) (by decide) rfl ?_
                    refine j_goto C0 27 dX5_who_70 (by decide) ?_
                    exact j_sub [2, 3, 1, 4, 0] rfl (ih1 _ _ (lc_stepN hL1 c_36))
          exact j_sub [1, 2, 3, 4, 0] rfl (L27 9 _ _ (lc_0 (by have := (In_sz40 hI); omega) (by decide)))
    exact j_sub [2, 3, 1, 0] rfl (L13 9 _ _ (lc_0 (by have := (In_sz40 hI); omega) (by decide)))
def f_X5_joyless_17 (g : Mem)  (K0 : Int32 → Int32 → Int32) (a1 : Int32) (a2 : Int32) : Nat → Int32 → Int32 → Int32
  | 0, _, _ => 0
  | n1 + 1, b1, b3 => if (g 40 1) ≤ b3 then (K0 b1 (a2 + (1 : Int32))) else (if (f_X0_canEat g 0 a2 b3) = 0 then (f_X5_joyless_17 g K0 a1 a2 n1 b1 (b3 + (1 : Int32))) else (if (f_X0_joysOf g 0 a2 b3) = 0 then (f_X5_joyless_17 g K0 a1 a2 n1 (b1 + (1 : Int32)) (b3 + (1 : Int32))) else (f_X5_joyless_17 g K0 a1 a2 n1 b1 (b3 + (1 : Int32)))))
def f_X5_joyless_4 (g : Mem)  : Nat → Int32 → Int32 → Int32
  | 0, _, _ => 0
  | n0 + 1, a1, a2 => if (g 40 1) ≤ a2 then (a1) else (f_X5_joyless_17 g (fun a1' a2' => f_X5_joyless_4 g n0 a1' a2') a1 a2 9 a1 (0 : Int32))
def f_X5_joyless (g : Mem)  : Int32 := f_X5_joyless_4 g 9 (0 : Int32) (0 : Int32)
theorem yk_X5_joyless : yokV yX5_joyless RX5 cX5_joyless 4 (some .int) 0 := ⟨w_564, w_562, w_563, w_1, by decide +kernel⟩
set_option maxHeartbeats 4000000 in
set_option maxRecDepth 100000 in
theorem c_X5_joyless (l : Launch) (z : ZC) (g : Mem) (hI : In g) : ctC l yX5_joyless cX5_joyless 4 (some .int) 4 78 z g [.ref (zad z 46)] (qIC z (f_X5_joyless g, g)) := by
  refine ct_of (own := RX5) (q := fun r => qIC z (r, g)) (res := f_X5_joyless g) (lv := [(0, .ref (zad z 46))]) (enokC z) rfl (by decide) (Nat.le_of_ble_eq_true rfl) rfl (fun p e s m args below meth c C0 hrt hlk => ?_)
  unfold f_X5_joyless
  refine j_iconst C0 (v := 0) dX5_joyless_0 (by decide) ?_
  refine j_istore_n C0 (lv' := [(1, _), (0, _)]) dX5_joyless_1 rfl (by decide) rfl ?_
  refine j_iconst C0 (v := 0) dX5_joyless_2 (by decide) ?_
  refine j_istore_n C0 (lv' := [(2, _), (1, _), (0, _)]) dX5_joyless_3 rfl (by decide) rfl ?_
  have L4 : ∀ (n0 : Nat) (a1 : Int32) (a2 : Int32), lc a2 (g 40 1) n0 → jj p l e { frames := 4, cells := 0, slots := 0, locals := 78 } s m args below meth c (zA z) (zD z) 52 (zad z) (celC z) 4 (fun r => MQ below (qIC z (r, g)) args s 0 0 (zA z)) (f_X5_joyless_4 g n0 a1 a2) g 4 [(0, .ref (zad z 46)), (1, .int a1), (2, .int a2)] [] := by
    intro n0
    induction n0 with
    | zero => intro a1 a2 hL0; exact absurd hL0.2 (Nat.not_lt_zero _)
    | succ n0 ih0 =>
      intro a1 a2 hL0
      rw [f_X5_joyless_4]
      refine j_iload_n C0 2 dX5_joyless_4 rfl rfl ?_
      refine j_aload_n C0 0 dX5_joyless_5 rfl rfl ?_
      refine g_Cakes_now C0 w_157 dX5_joyless_6 ?_
      refine g_Fete_size C0 lt3_0 w_85 dX5_joyless_9 ?_
      refine j_icmp_ge C0 67 dX5_joyless_12 (by decide) (fun c_12 => ?_) (fun c_12 => ?_)
      · refine j_iload_n C0 1 dX5_joyless_67 rfl rfl ?_
        exact j_iretP C0 hrt hlk dX5_joyless_68
      · refine j_iconst C0 (v := 0) dX5_joyless_15 (by decide) ?_
        refine j_istore_n C0 (lv' := [(3, _), (0, _), (1, _), (2, _)]) dX5_joyless_16 rfl (by decide) rfl ?_
        have L17 : ∀ (n1 : Nat) (b1 : Int32) (b3 : Int32), lc b3 (g 40 1) n1 → jj p l e { frames := 4, cells := 0, slots := 0, locals := 78 } s m args below meth c (zA z) (zD z) 52 (zad z) (celC z) 4 (fun r => MQ below (qIC z (r, g)) args s 0 0 (zA z)) (f_X5_joyless_17 g (fun a1' a2' => f_X5_joyless_4 g n0 a1' a2') a1 a2 n1 b1 b3) g 17 [(0, .ref (zad z 46)), (1, .int b1), (2, .int a2), (3, .int b3)] [] := by
          intro n1
          induction n1 with
          | zero => intro b1 b3 hL1; exact absurd hL1.2 (Nat.not_lt_zero _)
          | succ n1 ih1 =>
            intro b1 b3 hL1
            rw [f_X5_joyless_17]
            refine j_iload_n C0 3 dX5_joyless_17 rfl rfl ?_
            refine j_aload_n C0 0 dX5_joyless_18 rfl rfl ?_
            refine g_Cakes_now C0 w_157 dX5_joyless_19 ?_
            refine g_Fete_size C0 lt3_0 w_85 dX5_joyless_22 ?_
            refine j_icmp_ge C0 61 dX5_joyless_25 (by decide) (fun c_25 => ?_) (fun c_25 => ?_)
            · refine j_iinc C0 (lv' := [(2, _), (0, _), (1, _), (3, _)]) (v := _ + (1)) 2 dX5_joyless_61 rfl (by rfl) (by decide) rfl ?_
              refine j_goto C0 4 dX5_joyless_64 (by decide) ?_
              exact j_sub [1, 2, 0] rfl (ih0 _ _ (lc_stepN hL0 c_12))
            · refine j_aload_n C0 0 dX5_joyless_28 rfl rfl ?_
              refine g_Cakes_now C0 w_157 dX5_joyless_29 ?_
              refine j_iload_n C0 2 dX5_joyless_32 rfl rfl ?_
              refine j_iload_n C0 3 dX5_joyless_33 rfl rfl ?_
              refine j_callVi C0 (c_X0_canEat l z _ 0 lt3_0 _ _ hI) yk_X0_canEat w_369 (fun H locs hP _ => recvW C0 hP _ (by have := lt3_0; omega) (cel_fete lt3_0) rfl) ⟨Nat.le_of_ble_eq_true rfl, Nat.le_of_ble_eq_true rfl⟩ rfl rfl (Nat.le_of_ble_eq_true rfl) dX5_joyless_34 ?_
              refine j_if_eq C0 55 dX5_joyless_37 (by decide) (fun c_37 => ?_) (fun c_37 => ?_)
              · refine j_iinc C0 (lv' := [(3, _), (0, _), (1, _), (2, _)]) (v := _ + (1)) 3 dX5_joyless_55 rfl (by rfl) (by decide) rfl ?_
                refine j_goto C0 17 dX5_joyless_58 (by decide) ?_
                exact j_sub [1, 2, 3, 0] rfl (ih1 _ _ (lc_stepN hL1 c_25))
              · have hv1 := canEat_in hI lt3_0 c_37
                refine j_aload_n C0 0 dX5_joyless_40 rfl rfl ?_
                refine g_Cakes_now C0 w_157 dX5_joyless_41 ?_
                refine j_iload_n C0 2 dX5_joyless_44 rfl rfl ?_
                refine j_iload_n C0 3 dX5_joyless_45 rfl rfl ?_
                refine j_callVi C0 (c_X0_joysOf l z _ 0 lt3_0 _ _ hv1.1 hv1.2 hI) yk_X0_joysOf w_370 (fun H locs hP _ => recvW C0 hP _ (by have := lt3_0; omega) (cel_fete lt3_0) rfl) ⟨Nat.le_of_ble_eq_true rfl, Nat.le_of_ble_eq_true rfl⟩ rfl rfl (Nat.le_of_ble_eq_true rfl) dX5_joyless_46 ?_
                refine j_if_ne C0 55 dX5_joyless_49 (by decide) (fun c_49 => ?_) (fun c_49 => ?_)
                · refine j_iinc C0 (lv' := [(1, _), (0, _), (2, _), (3, _)]) (v := _ + (1)) 1 dX5_joyless_52 rfl (by rfl) (by decide) rfl ?_
                  refine j_iinc C0 (lv' := [(3, _), (1, _), (0, _), (2, _)]) (v := _ + (1)) 3 dX5_joyless_55 rfl (by rfl) (by decide) rfl ?_
                  refine j_goto C0 17 dX5_joyless_58 (by decide) ?_
                  exact j_sub [2, 1, 3, 0] rfl (ih1 _ _ (lc_stepN hL1 c_25))
                · refine j_iinc C0 (lv' := [(3, _), (0, _), (1, _), (2, _)]) (v := _ + (1)) 3 dX5_joyless_55 rfl (by rfl) (by decide) rfl ?_
                  refine j_goto C0 17 dX5_joyless_58 (by decide) ?_
                  exact j_sub [1, 2, 3, 0] rfl (ih1 _ _ (lc_stepN hL1 c_25))
        exact j_sub [1, 2, 3, 0] rfl (L17 9 _ _ (lc_0 (by have := (In_sz40 hI); omega) (by decide)))
  exact j_sub [2, 1, 0] rfl (L4 9 _ _ (lc_0 (by have := (In_sz40 hI); omega) (by decide)))
def f_X5_howManyEatAtAll_9 (g : Mem)  : Nat → Int32 → Int32 → Int32 → Int32 → Int32
  | 0, _, _, _, _ => 0
  | n0 + 1, a1, a2, a3, a4 => if (g 40 1) ≤ a4 then (if a2 = 0 then ((0 : Int32)) else (if a3 = 0 then ((if (g 40 2) < (a1 - (1 : Int32)) then (g 40 2) else (a1 - (1 : Int32)))) else ((if (g 40 2) < a1 then (g 40 2) else a1)))) else (if (g (8 * 0 + ix a4) 4) ≤ 0 then (if (f_X3_canLook g (8 * 0 + ix a4)) = 0 then (f_X5_howManyEatAtAll_9 g n0 a1 a2 a3 (a4 + (1 : Int32))) else (if a3 = 0 then (f_X5_howManyEatAtAll_9 g n0 a1 (a2 + (1 : Int32)) (1 : Int32) (a4 + (1 : Int32))) else (f_X5_howManyEatAtAll_9 g n0 a1 (a2 + (1 : Int32)) (1 : Int32) (a4 + (1 : Int32))))) else (if (g (8 * 0 + ix a4) 6) = 0 then (if (f_X3_canLook g (8 * 0 + ix a4)) = 0 then (f_X5_howManyEatAtAll_9 g n0 (a1 + (1 : Int32)) a2 a3 (a4 + (1 : Int32))) else (if a3 = 0 then (f_X5_howManyEatAtAll_9 g n0 (a1 + (1 : Int32)) (a2 + (1 : Int32)) (0 : Int32) (a4 + (1 : Int32))) else (f_X5_howManyEatAtAll_9 g n0 (a1 + (1 : Int32)) (a2 + (1 : Int32)) (1 : Int32) (a4 + (1 : Int32))))) else (if (f_X3_canLook g (8 * 0 + ix a4)) = 0 then (f_X5_howManyEatAtAll_9 g n0 a1 a2 a3 (a4 + (1 : Int32))) else (if a3 = 0 then (f_X5_howManyEatAtAll_9 g n0 a1 (a2 + (1 : Int32)) (1 : Int32) (a4 + (1 : Int32))) else (f_X5_howManyEatAtAll_9 g n0 a1 (a2 + (1 : Int32)) (1 : Int32) (a4 + (1 : Int32)))))))
def f_X5_howManyEatAtAll (g : Mem)  : Int32 := f_X5_howManyEatAtAll_9 g 9 (0 : Int32) (0 : Int32) (0 : Int32) (0 : Int32)
theorem yk_X5_howManyEatAtAll : yokV yX5_howManyEatAtAll RX5 cX5_howManyEatAtAll 7 (some .int) 0 := ⟨w_449, w_448, wp_16, w_1, by decide +kernel⟩
set_option maxHeartbeats 4000000 in
set_option maxRecDepth 100000 in
theorem c_X5_howManyEatAtAll (l : Launch) (z : ZC) (g : Mem) (hI : In g) : ctC l yX5_howManyEatAtAll cX5_howManyEatAtAll 7 (some .int) 1 20 z g [.ref (zad z 46)] (qIC z (f_X5_howManyEatAtAll g, g)) := by
  refine ct_of (own := RX5) (q := fun r => qIC z (r, g)) (res := f_X5_howManyEatAtAll g) (lv := [(0, .ref (zad z 46))]) (enokC z) rfl (by decide) (Nat.le_of_ble_eq_true rfl) rfl (fun p e s m args below meth c C0 hrt hlk => ?_)
  unfold f_X5_howManyEatAtAll
  refine j_iconst C0 (v := 0) dX5_howManyEatAtAll_0 (by decide) ?_
  refine j_istore_n C0 (lv' := [(1, _), (0, _)]) dX5_howManyEatAtAll_1 rfl (by decide) rfl ?_
  refine j_iconst C0 (v := 0) dX5_howManyEatAtAll_2 (by decide) ?_
  refine j_istore_n C0 (lv' := [(2, _), (1, _), (0, _)]) dX5_howManyEatAtAll_3 rfl (by decide) rfl ?_
  refine j_iconst C0 (v := 0) dX5_howManyEatAtAll_4 (by decide) ?_
  refine j_istore_n C0 (lv' := [(3, _), (2, _), (1, _), (0, _)]) dX5_howManyEatAtAll_5 rfl (by decide) rfl ?_
  refine j_iconst C0 (v := 0) dX5_howManyEatAtAll_6 (by decide) ?_
  refine j_istore C0 (lv' := [(4, _), (3, _), (2, _), (1, _), (0, _)]) dX5_howManyEatAtAll_7 (by decide) rfl ?_
  have L9 : ∀ (n0 : Nat) (a1 : Int32) (a2 : Int32) (a3 : Int32) (a4 : Int32), lc a4 (g 40 1) n0 → jj p l e { frames := 1, cells := 0, slots := 0, locals := 20 } s m args below meth c (zA z) (zD z) 52 (zad z) (celC z) 7 (fun r => MQ below (qIC z (r, g)) args s 0 0 (zA z)) (f_X5_howManyEatAtAll_9 g n0 a1 a2 a3 a4) g 9 [(0, .ref (zad z 46)), (1, .int a1), (2, .int a2), (3, .int a3), (4, .int a4)] [] := by
    intro n0
    induction n0 with
    | zero => intro a1 a2 a3 a4 hL; exact absurd hL.2 (Nat.not_lt_zero _)
    | succ n0 ih0 =>
      intro a1 a2 a3 a4 hL
      rw [f_X5_howManyEatAtAll_9]
      refine j_iload C0 4 dX5_howManyEatAtAll_9 rfl ?_
      refine j_aload_n C0 0 dX5_howManyEatAtAll_11 rfl rfl ?_
      refine g_Cakes_now C0 w_157 dX5_howManyEatAtAll_12 ?_
      refine g_Fete_size C0 lt3_0 w_85 dX5_howManyEatAtAll_15 ?_
      refine j_icmp_ge C0 96 dX5_howManyEatAtAll_18 (by decide) (fun c_18 => ?_) (fun c_18 => ?_)
      · refine j_iload_n C0 2 dX5_howManyEatAtAll_96 rfl rfl ?_
        refine j_if_ne C0 102 dX5_howManyEatAtAll_97 (by decide) (fun c_97 => ?_) (fun c_97 => ?_)
        · refine j_iconst C0 (v := 0) dX5_howManyEatAtAll_100 (by decide) ?_
          exact j_iretP C0 hrt hlk dX5_howManyEatAtAll_101
        · refine j_iload_n C0 3 dX5_howManyEatAtAll_102 rfl rfl ?_
          refine j_if_eq C0 110 dX5_howManyEatAtAll_103 (by decide) (fun c_103 => ?_) (fun c_103 => ?_)
          · refine j_iload_n C0 1 dX5_howManyEatAtAll_110 rfl rfl ?_
            refine j_iconst C0 (v := 1) dX5_howManyEatAtAll_111 (by decide) ?_
            refine j_isub C0 dX5_howManyEatAtAll_112 ?_
            refine j_istore C0 (lv' := [(4, _), (0, _), (1, _), (2, _), (3, _)]) dX5_howManyEatAtAll_113 (by decide) rfl ?_
            refine j_iload C0 0 dX5_howManyEatAtAll_115 rfl ?_
            refine j_aload_n C0 1 dX5_howManyEatAtAll_117 rfl rfl ?_
            refine g_Cakes_now C0 w_157 dX5_howManyEatAtAll_118 ?_
            refine g_Fete_slicesLeft C0 lt3_0 w_88 dX5_howManyEatAtAll_121 ?_
            refine j_mmin C0 w_451 w_313 w_9 w_314 (Nat.le_of_ble_eq_true rfl) (Nat.le_of_ble_eq_true rfl) dX5_howManyEatAtAll_124 ?_
            exact j_iretP C0 hrt hlk dX5_howManyEatAtAll_127
          · refine j_iload_n C0 1 dX5_howManyEatAtAll_106 rfl rfl ?_
            refine j_goto C0 113 dX5_howManyEatAtAll_107 (by decide) ?_
            refine j_istore C0 (lv' := [(4, _), (0, _), (1, _), (2, _), (3, _)]) dX5_howManyEatAtAll_113 (by decide) rfl ?_
            refine j_iload C0 0 dX5_howManyEatAtAll_115 rfl ?_
            refine j_aload_n C0 1 dX5_howManyEatAtAll_117 rfl rfl ?_
            refine g_Cakes_now C0 w_157 dX5_howManyEatAtAll_118 ?_
            refine g_Fete_slicesLeft C0 lt3_0 w_88 dX5_howManyEatAtAll_121 ?_
            refine j_mmin C0 w_451 w_313 w_9 w_314 (Nat.le_of_ble_eq_true rfl) (Nat.le_of_ble_eq_true rfl) dX5_howManyEatAtAll_124 ?_
            exact j_iretP C0 hrt hlk dX5_howManyEatAtAll_127
      · have hv_a4 : vp_in a4 8 := vin_lc hL c_18 (In_sz40 hI)
        refine j_aload_n C0 0 dX5_howManyEatAtAll_21 rfl rfl ?_
        refine g_Cakes_now C0 w_157 dX5_howManyEatAtAll_22 ?_
        refine g_Fete_people C0 lt3_0 w_82 dX5_howManyEatAtAll_25 ?_
        refine j_iload C0 4 dX5_howManyEatAtAll_28 rfl ?_
        refine a_people C0 lt3_0 hv_a4 dX5_howManyEatAtAll_30 ?_
        refine j_astore C0 (lv' := [(5, _), (0, _), (1, _), (2, _), (3, _), (4, _)]) dX5_howManyEatAtAll_31 (by decide) rfl ?_
        refine j_aload C0 0 dX5_howManyEatAtAll_33 rfl ?_
        refine g_Person_hunger C0 (vin_pk lt3_0 hv_a4) w_53 dX5_howManyEatAtAll_35 ?_
        refine j_if_le C0 53 dX5_howManyEatAtAll_38 (by decide) (fun c_38 => ?_) (fun c_38 => ?_)
        · refine j_iconst C0 (v := 0) dX5_howManyEatAtAll_53 (by decide) ?_
          refine j_istore C0 (lv' := [(6, _), (5, _), (0, _), (1, _), (2, _), (3, _), (4, _)]) dX5_howManyEatAtAll_54 (by decide) rfl ?_
          refine j_iload C0 0 dX5_howManyEatAtAll_56 rfl ?_
          refine j_if_eqT C0 64 dX5_howManyEatAtAll_58 (by decide) (by decide) ?_
          refine j_aload C0 1 dX5_howManyEatAtAll_64 rfl ?_
          refine j_callVi C0 (c_X3_canLook l z _ (8 * 0 + ix a4) (vin_pk lt3_0 hv_a4) hI) yk_X3_canLook w_450 (fun H locs hP _ => recvW C0 hP _ (Nat.lt_of_lt_of_le (vin_pk lt3_0 hv_a4) (by decide)) (cel_person (vin_pk lt3_0 hv_a4)) rfl) ⟨Nat.le_of_ble_eq_true rfl, Nat.le_of_ble_eq_true rfl⟩ rfl rfl (Nat.le_of_ble_eq_true rfl) dX5_howManyEatAtAll_66 ?_
          refine j_if_eq C0 90 dX5_howManyEatAtAll_69 (by decide) (fun c_69 => ?_) (fun c_69 => ?_)
          · refine j_iinc C0 (lv' := [(4, _), (6, _), (5, _), (0, _), (1, _), (2, _), (3, _)]) (v := _ + (1)) 6 dX5_howManyEatAtAll_90 rfl (by rfl) (by decide) rfl ?_
            refine j_goto C0 9 dX5_howManyEatAtAll_93 (by decide) ?_
            exact j_sub [3, 4, 5, 6, 0] rfl (ih0 _ _ _ _ (lc_stepN hL c_18))
          · refine j_iinc C0 (lv' := [(2, _), (6, _), (5, _), (0, _), (1, _), (3, _), (4, _)]) (v := _ + (1)) 4 dX5_howManyEatAtAll_72 rfl (by rfl) (by decide) rfl ?_
            refine j_iload_n C0 5 dX5_howManyEatAtAll_75 rfl rfl ?_
            refine j_if_ne C0 84 dX5_howManyEatAtAll_76 (by decide) (fun c_76 => ?_) (fun c_76 => ?_)
            · refine j_iload C0 1 dX5_howManyEatAtAll_79 rfl ?_
              refine j_if_neF C0 88 dX5_howManyEatAtAll_81 (by decide) (by decide) ?_
              refine j_iconst C0 (v := 1) dX5_howManyEatAtAll_84 (by decide) ?_
              refine j_goto C0 89 dX5_howManyEatAtAll_85 (by decide) ?_
              refine j_istore_n C0 (lv' := [(3, _), (2, _), (6, _), (5, _), (0, _), (1, _), (4, _)]) dX5_howManyEatAtAll_89 rfl (by decide) rfl ?_
              refine j_iinc C0 (lv' := [(4, _), (3, _), (2, _), (6, _), (5, _), (0, _), (1, _)]) (v := _ + (1)) 6 dX5_howManyEatAtAll_90 rfl (by rfl) (by decide) rfl ?_
              refine j_goto C0 9 dX5_howManyEatAtAll_93 (by decide) ?_
              exact j_sub [5, 6, 2, 1, 0] rfl (ih0 _ _ _ _ (lc_stepN hL c_18))
            · refine j_iconst C0 (v := 1) dX5_howManyEatAtAll_84 (by decide) ?_
              refine j_goto C0 89 dX5_howManyEatAtAll_85 (by decide) ?_
              refine j_istore_n C0 (lv' := [(3, _), (2, _), (6, _), (5, _), (0, _), (1, _), (4, _)]) dX5_howManyEatAtAll_89 rfl (by decide) rfl ?_
              refine j_iinc C0 (lv' := [(4, _), (3, _), (2, _), (6, _), (5, _), (0, _), (1, _)]) (v := _ + (1)) 6 dX5_howManyEatAtAll_90 rfl (by rfl) (by decide) rfl ?_
              refine j_goto C0 9 dX5_howManyEatAtAll_93 (by decide) ?_
              exact j_sub [5, 6, 2, 1, 0] rfl (ih0 _ _ _ _ (lc_stepN hL c_18))
        · refine j_aload C0 0 dX5_howManyEatAtAll_41 rfl ?_
          refine g_Person_eaten C0 (vin_pk lt3_0 hv_a4) w_59 dX5_howManyEatAtAll_43 ?_
          refine j_if_ne C0 53 dX5_howManyEatAtAll_46 (by decide) (fun c_46 => ?_) (fun c_46 => ?_)
          · refine j_iconst C0 (v := 1) dX5_howManyEatAtAll_49 (by decide) ?_
            refine j_goto C0 54 dX5_howManyEatAtAll_50 (by decide) ?_
            refine j_istore C0 (lv' := [(6, _), (5, _), (0, _), (1, _), (2, _), (3, _), (4, _)]) dX5_howManyEatAtAll_54 (by decide) rfl ?_
            refine j_iload C0 0 dX5_howManyEatAtAll_56 rfl ?_
            refine j_if_eqF C0 64 dX5_howManyEatAtAll_58 (by decide) (by decide) ?_
            refine j_iinc C0 (lv' := [(1, _), (6, _), (5, _), (0, _), (2, _), (3, _), (4, _)]) (v := _ + (1)) 3 dX5_howManyEatAtAll_61 rfl (by rfl) (by decide) rfl ?_
            refine j_aload C0 2 dX5_howManyEatAtAll_64 rfl ?_
            refine j_callVi C0 (c_X3_canLook l z _ (8 * 0 + ix a4) (vin_pk lt3_0 hv_a4) hI) yk_X3_canLook w_450 (fun H locs hP _ => recvW C0 hP _ (Nat.lt_of_lt_of_le (vin_pk lt3_0 hv_a4) (by decide)) (cel_person (vin_pk lt3_0 hv_a4)) rfl) ⟨Nat.le_of_ble_eq_true rfl, Nat.le_of_ble_eq_true rfl⟩ rfl rfl (Nat.le_of_ble_eq_true rfl) dX5_howManyEatAtAll_66 ?_
            refine j_if_eq C0 90 dX5_howManyEatAtAll_69 (by decide) (fun c_69 => ?_) (fun c_69 => ?_)
            · refine j_iinc C0 (lv' := [(4, _), (1, _), (6, _), (5, _), (0, _), (2, _), (3, _)]) (v := _ + (1)) 6 dX5_howManyEatAtAll_90 rfl (by rfl) (by decide) rfl ?_
              refine j_goto C0 9 dX5_howManyEatAtAll_93 (by decide) ?_
              exact j_sub [4, 1, 5, 6, 0] rfl (ih0 _ _ _ _ (lc_stepN hL c_18))
            · refine j_iinc C0 (lv' := [(2, _), (1, _), (6, _), (5, _), (0, _), (3, _), (4, _)]) (v := _ + (1)) 4 dX5_howManyEatAtAll_72 rfl (by rfl) (by decide) rfl ?_
              refine j_iload_n C0 5 dX5_howManyEatAtAll_75 rfl rfl ?_
              refine j_if_ne C0 84 dX5_howManyEatAtAll_76 (by decide) (fun c_76 => ?_) (fun c_76 => ?_)
              · refine j_iload C0 2 dX5_howManyEatAtAll_79 rfl ?_
                refine j_if_neT C0 88 dX5_howManyEatAtAll_81 (by decide) (by decide) ?_
                refine j_iconst C0 (v := 0) dX5_howManyEatAtAll_88 (by decide) ?_
                refine j_istore_n C0 (lv' := [(3, _), (2, _), (1, _), (6, _), (5, _), (0, _), (4, _)]) dX5_howManyEatAtAll_89 rfl (by decide) rfl ?_
                refine j_iinc C0 (lv' := [(4, _), (3, _), (2, _), (1, _), (6, _), (5, _), (0, _)]) (v := _ + (1)) 6 dX5_howManyEatAtAll_90 rfl (by rfl) (by decide) rfl ?_
                refine j_goto C0 9 dX5_howManyEatAtAll_93 (by decide) ?_
                exact j_sub [6, 3, 2, 1, 0] rfl (ih0 _ _ _ _ (lc_stepN hL c_18))
              · refine j_iconst C0 (v := 1) dX5_howManyEatAtAll_84 (by decide) ?_
                refine j_goto C0 89 dX5_howManyEatAtAll_85 (by decide) ?_
                refine j_istore_n C0 (lv' := [(3, _), (2, _), (1, _), (6, _), (5, _), (0, _), (4, _)]) dX5_howManyEatAtAll_89 rfl (by decide) rfl ?_
                refine j_iinc C0 (lv' := [(4, _), (3, _), (2, _), (1, _), (6, _), (5, _), (0, _)]) (v := _ + (1)) 6 dX5_howManyEatAtAll_90 rfl (by rfl) (by decide) rfl ?_
                refine j_goto C0 9 dX5_howManyEatAtAll_93 (by decide) ?_
                exact j_sub [6, 3, 2, 1, 0] rfl (ih0 _ _ _ _ (lc_stepN hL c_18))
          · refine j_iconst C0 (v := 0) dX5_howManyEatAtAll_53 (by decide) ?_
            refine j_istore C0 (lv' := [(6, _), (5, _), (0, _), (1, _), (2, _), (3, _), (4, _)]) dX5_howManyEatAtAll_54 (by decide) rfl ?_
            refine j_iload C0 0 dX5_howManyEatAtAll_56 rfl ?_
            refine j_if_eqT C0 64 dX5_howManyEatAtAll_58 (by decide) (by decide) ?_
            refine j_aload C0 1 dX5_howManyEatAtAll_64 rfl ?_
            refine j_callVi C0 (c_X3_canLook l z _ (8 * 0 + ix a4) (vin_pk lt3_0 hv_a4) hI) yk_X3_canLook w_450 (fun H locs hP _ => recvW C0 hP _ (Nat.lt_of_lt_of_le (vin_pk lt3_0 hv_a4) (by decide)) (cel_person (vin_pk lt3_0 hv_a4)) rfl) ⟨Nat.le_of_ble_eq_true rfl, Nat.le_of_ble_eq_true rfl⟩ rfl rfl (Nat.le_of_ble_eq_true rfl) dX5_howManyEatAtAll_66 ?_
            refine j_if_eq C0 90 dX5_howManyEatAtAll_69 (by decide) (fun c_69 => ?_) (fun c_69 => ?_)
            · refine j_iinc C0 (lv' := [(4, _), (6, _), (5, _), (0, _), (1, _), (2, _), (3, _)]) (v := _ + (1)) 6 dX5_howManyEatAtAll_90 rfl (by rfl) (by decide) rfl ?_
              refine j_goto C0 9 dX5_howManyEatAtAll_93 (by decide) ?_
              exact j_sub [3, 4, 5, 6, 0] rfl (ih0 _ _ _ _ (lc_stepN hL c_18))
            · refine j_iinc C0 (lv' := [(2, _), (6, _), (5, _), (0, _), (1, _), (3, _), (4, _)]) (v := _ + (1)) 4 dX5_howManyEatAtAll_72 rfl (by rfl) (by decide) rfl ?_
              refine j_iload_n C0 5 dX5_howManyEatAtAll_75 rfl rfl ?_
              refine j_if_ne C0 84 dX5_howManyEatAtAll_76 (by decide) (fun c_76 => ?_) (fun c_76 => ?_)
              · refine j_iload C0 1 dX5_howManyEatAtAll_79 rfl ?_
                refine j_if_neF C0 88 dX5_howManyEatAtAll_81 (by decide) (by decide) ?_
                refine j_iconst C0 (v := 1) dX5_howManyEatAtAll_84 (by decide) ?_
                refine j_goto C0 89 dX5_howManyEatAtAll_85 (by decide) ?_
                refine j_istore_n C0 (lv' := [(3, _), (2, _), (6, _), (5, _), (0, _), (1, _), (4, _)]) dX5_howManyEatAtAll_89 rfl (by decide) rfl ?_
                refine j_iinc C0 (lv' := [(4, _), (3, _), (2, _), (6, _), (5, _), (0, _), (1, _)]) (v := _ + (1)) 6 dX5_howManyEatAtAll_90 rfl (by rfl) (by decide) rfl ?_
                refine j_goto C0 9 dX5_howManyEatAtAll_93 (by decide) ?_
                exact j_sub [5, 6, 2, 1, 0] rfl (ih0 _ _ _ _ (lc_stepN hL c_18))
              · refine j_iconst C0 (v := 1) dX5_howManyEatAtAll_84 (by decide) ?_
                refine j_goto C0 89 dX5_howManyEatAtAll_85 (by decide) ?_
                refine j_istore_n C0 (lv' := [(3, _), (2, _), (6, _), (5, _), (0, _), (1, _), (4, _)]) dX5_howManyEatAtAll_89 rfl (by decide) rfl ?_
                refine j_iinc C0 (lv' := [(4, _), (3, _), (2, _), (6, _), (5, _), (0, _), (1, _)]) (v := _ + (1)) 6 dX5_howManyEatAtAll_90 rfl (by rfl) (by decide) rfl ?_
                refine j_goto C0 9 dX5_howManyEatAtAll_93 (by decide) ?_
                exact j_sub [5, 6, 2, 1, 0] rfl (ih0 _ _ _ _ (lc_stepN hL c_18))
  exact j_sub [4, 3, 2, 1, 0] rfl (L9 9 _ _ _ _ (lc_0 (by have := (In_sz40 hI); omega) (by decide)))
def f_X5_whoIsLeft_8 (g : Mem)  : Nat → Int32 → Int32 → Int32 → Int32
  | 0, _, _, _ => 0
  | n0 + 1, a1, a2, a3 => if (g 40 1) ≤ a3 then (a1) else (if (f_X3_canLook g (8 * 0 + ix a3)) = 0 then (f_X5_whoIsLeft_8 g n0 a1 a2 (a3 + (1 : Int32))) else (if a2 ≤ (g (8 * 0 + ix a3) 4) then (f_X5_whoIsLeft_8 g n0 a1 a2 (a3 + (1 : Int32))) else (f_X5_whoIsLeft_8 g n0 a3 (g (8 * 0 + ix a3) 4) (a3 + (1 : Int32)))))
def f_X5_whoIsLeft (g : Mem)  : Int32 := f_X5_whoIsLeft_8 g 9 (-4 : Int32) (31 : Int32) (0 : Int32)
theorem yk_X5_whoIsLeft : yokV yX5_whoIsLeft RX5 cX5_whoIsLeft 5 (some .int) 0 := ⟨w_455, w_454, wp_17, w_1, by decide +kernel⟩
set_option maxHeartbeats 4000000 in
set_option maxRecDepth 100000 in
theorem c_X5_whoIsLeft (l : Launch) (z : ZC) (g : Mem) (hI : In g) : ctC l yX5_whoIsLeft cX5_whoIsLeft 5 (some .int) 1 20 z g [.ref (zad z 46)] (qIC z (f_X5_whoIsLeft g, g)) := by
  refine ct_of (own := RX5) (q := fun r => qIC z (r, g)) (res := f_X5_whoIsLeft g) (lv := [(0, .ref (zad z 46))]) (enokC z) rfl (by decide) (Nat.le_of_ble_eq_true rfl) rfl (fun p e s m args below meth c C0 hrt hlk => ?_)
  unfold f_X5_whoIsLeft
  refine j_bipush C0 (v := (-4)) dX5_whoIsLeft_0 (by decide) ?_
  refine j_istore_n C0 (lv' := [(1, _), (0, _)]) dX5_whoIsLeft_2 rfl (by decide) rfl ?_
  refine j_bipush C0 (v := 31) dX5_whoIsLeft_3 (by decide) ?_
  refine j_istore_n C0 (lv' := [(2, _), (1, _), (0, _)]) dX5_whoIsLeft_5 rfl (by decide) rfl ?_
  refine j_iconst C0 (v := 0) dX5_whoIsLeft_6 (by decide) ?_
  refine j_istore_n C0 (lv' := [(3, _), (2, _), (1, _), (0, _)]) dX5_whoIsLeft_7 rfl (by decide) rfl ?_
  have L8 : ∀ (n0 : Nat) (a1 : Int32) (a2 : Int32) (a3 : Int32), lc a3 (g 40 1) n0 → jj p l e { frames := 1, cells := 0, slots := 0, locals := 20 } s m args below meth c (zA z) (zD z) 52 (zad z) (celC z) 5 (fun r => MQ below (qIC z (r, g)) args s 0 0 (zA z)) (f_X5_whoIsLeft_8 g n0 a1 a2 a3) g 8 [(0, .ref (zad z 46)), (1, .int a1), (2, .int a2), (3, .int a3)] [] := by
    intro n0
    induction n0 with
    | zero => intro a1 a2 a3 hL; exact absurd hL.2 (Nat.not_lt_zero _)
    | succ n0 ih0 =>
      intro a1 a2 a3 hL
      rw [f_X5_whoIsLeft_8]
      refine j_iload_n C0 3 dX5_whoIsLeft_8 rfl rfl ?_
      refine j_aload_n C0 0 dX5_whoIsLeft_9 rfl rfl ?_
      refine g_Cakes_now C0 w_157 dX5_whoIsLeft_10 ?_
      refine g_Fete_size C0 lt3_0 w_85 dX5_whoIsLeft_13 ?_
      refine j_icmp_ge C0 61 dX5_whoIsLeft_16 (by decide) (fun c_16 => ?_) (fun c_16 => ?_)
      · refine j_iload_n C0 1 dX5_whoIsLeft_61 rfl rfl ?_
        exact j_iretP C0 hrt hlk dX5_whoIsLeft_62
      · have hv_a3 : vp_in a3 8 := vin_lc hL c_16 (In_sz40 hI)
        refine j_aload_n C0 0 dX5_whoIsLeft_19 rfl rfl ?_
        refine g_Cakes_now C0 w_157 dX5_whoIsLeft_20 ?_
        refine g_Fete_people C0 lt3_0 w_82 dX5_whoIsLeft_23 ?_
        refine j_iload_n C0 3 dX5_whoIsLeft_26 rfl rfl ?_
        refine a_people C0 lt3_0 hv_a3 dX5_whoIsLeft_27 ?_
        refine j_astore C0 (lv' := [(4, _), (0, _), (1, _), (2, _), (3, _)]) dX5_whoIsLeft_28 (by decide) rfl ?_
        refine j_aload C0 0 dX5_whoIsLeft_30 rfl ?_
        refine j_callVi C0 (c_X3_canLook l z _ (8 * 0 + ix a3) (vin_pk lt3_0 hv_a3) hI) yk_X3_canLook w_450 (fun H locs hP _ => recvW C0 hP _ (Nat.lt_of_lt_of_le (vin_pk lt3_0 hv_a3) (by decide)) (cel_person (vin_pk lt3_0 hv_a3)) rfl) ⟨Nat.le_of_ble_eq_true rfl, Nat.le_of_ble_eq_true rfl⟩ rfl rfl (Nat.le_of_ble_eq_true rfl) dX5_whoIsLeft_32 ?_
        refine j_if_eq C0 55 dX5_whoIsLeft_35 (by decide) (fun c_35 => ?_) (fun c_35 => ?_)
        · refine j_iinc C0 (lv' := [(3, _), (4, _), (0, _), (1, _), (2, _)]) (v := _ + (1)) 4 dX5_whoIsLeft_55 rfl (by rfl) (by decide) rfl ?_
          refine j_goto C0 8 dX5_whoIsLeft_58 (by decide) ?_
          exact j_sub [2, 3, 4, 0] rfl (ih0 _ _ _ (lc_stepN hL c_16))
        · refine j_aload C0 0 dX5_whoIsLeft_38 rfl ?_
          refine g_Person_hunger C0 (vin_pk lt3_0 hv_a3) w_53 dX5_whoIsLeft_40 ?_
          refine j_iload_n C0 3 dX5_whoIsLeft_43 rfl rfl ?_
          refine j_icmp_ge C0 55 dX5_whoIsLeft_44 (by decide) (fun c_44 => ?_) (fun c_44 => ?_)
          · refine j_iinc C0 (lv' := [(3, _), (4, _), (0, _), (1, _), (2, _)]) (v := _ + (1)) 4 dX5_whoIsLeft_55 rfl (by rfl) (by decide) rfl ?_
            refine j_goto C0 8 dX5_whoIsLeft_58 (by decide) ?_
            exact j_sub [2, 3, 4, 0] rfl (ih0 _ _ _ (lc_stepN hL c_16))
          · refine j_aload C0 0 dX5_whoIsLeft_47 rfl ?_
            refine g_Person_hunger C0 (vin_pk lt3_0 hv_a3) w_53 dX5_whoIsLeft_49 ?_
            refine j_istore_n C0 (lv' := [(2, _), (4, _), (0, _), (1, _), (3, _)]) dX5_whoIsLeft_52 rfl (by decide) rfl ?_
            refine j_iload_n C0 4 dX5_whoIsLeft_53 rfl rfl ?_
            refine j_istore_n C0 (lv' := [(1, _), (2, _), (4, _), (0, _), (3, _)]) dX5_whoIsLeft_54 rfl (by decide) rfl ?_
            refine j_iinc C0 (lv' := [(3, _), (1, _), (2, _), (4, _), (0, _)]) (v := _ + (1)) 4 dX5_whoIsLeft_55 rfl (by rfl) (by decide) rfl ?_
            refine j_goto C0 8 dX5_whoIsLeft_58 (by decide) ?_
            exact j_sub [4, 1, 2, 0] rfl (ih0 _ _ _ (lc_stepN hL c_16))
  exact j_sub [3, 2, 1, 0] rfl (L8 9 _ _ _ (lc_0 (by have := (In_sz40 hI); omega) (by decide)))
def f_X5_atAll (g : Mem) (p0 : Int32) : Int32 := if (f_X5_isOneOfTwo p0) = 0 then ((-1 : Int32)) else (if p0 = 0 then ((f_X5_howManyEatAtAll g)) else ((f_X5_whoIsLeft g)))
theorem yk_X5_atAll : yokV yX5_atAll RX5 cX5_atAll 2 (some .int) 1 := ⟨w_445, w_443, w_444, w_1, by decide +kernel⟩
set_option maxHeartbeats 4000000 in
set_option maxRecDepth 100000 in
theorem c_X5_atAll (l : Launch) (z : ZC) (g : Mem) (p0 : Int32) (hI : In g) : ctC l yX5_atAll cX5_atAll 2 (some .int) 2 46 z g [.ref (zad z 46), .int p0] (qIC z (f_X5_atAll g p0, g)) := by
  refine ct_of (own := RX5) (q := fun r => qIC z (r, g)) (res := f_X5_atAll g p0) (lv := [(0, .ref (zad z 46)), (1, .int p0)]) (enokC z) rfl (by decide) (Nat.le_of_ble_eq_true rfl) rfl (fun p e s m args below meth c C0 hrt hlk => ?_)
  unfold f_X5_atAll
  refine j_iload_n C0 1 dX5_atAll_0 rfl rfl ?_
  refine j_callSi C0 (c_X5_isOneOfTwo l z _ _) yk_X5_isOneOfTwo w_353 ⟨Nat.le_of_ble_eq_true rfl, Nat.le_of_ble_eq_true rfl⟩ rfl rfl (Nat.le_of_ble_eq_true rfl) dX5_atAll_1 ?_
  refine j_if_ne C0 9 dX5_atAll_4 (by decide) (fun c_4 => ?_) (fun c_4 => ?_)
  · refine j_iconst C0 (v := (-1)) dX5_atAll_7 (by decide) ?_
    exact j_iretP C0 hrt hlk dX5_atAll_8
  · refine j_iload_n C0 1 dX5_atAll_9 rfl rfl ?_
    refine j_if_ne C0 20 dX5_atAll_10 (by decide) (fun c_10 => ?_) (fun c_10 => ?_)
    · refine j_aload_n C0 0 dX5_atAll_13 rfl rfl ?_
      refine j_callVi C0 (c_X5_howManyEatAtAll l z _ hI) yk_X5_howManyEatAtAll w_446 (fun H locs hP _ => recvW C0 hP _ (by decide) cel_main rfl) ⟨Nat.le_of_ble_eq_true rfl, Nat.le_of_ble_eq_true rfl⟩ rfl rfl (Nat.le_of_ble_eq_true rfl) dX5_atAll_14 ?_
      refine j_goto C0 24 dX5_atAll_17 (by decide) ?_
      exact j_iretP C0 hrt hlk dX5_atAll_24
    · refine j_aload_n C0 0 dX5_atAll_20 rfl rfl ?_
      refine j_callVi C0 (c_X5_whoIsLeft l z _ hI) yk_X5_whoIsLeft w_452 (fun H locs hP _ => recvW C0 hP _ (by decide) cel_main rfl) ⟨Nat.le_of_ble_eq_true rfl, Nat.le_of_ble_eq_true rfl⟩ rfl rfl (Nat.le_of_ble_eq_true rfl) dX5_atAll_21 ?_
      exact j_iretP C0 hrt hlk dX5_atAll_24
def f_X5_stuck (g : Mem)  : Int32 := if (g 40 2) ≤ 0 then ((0 : Int32)) else (if (f_X0_allHunger g 0) ≤ 0 then ((0 : Int32)) else (if 0 ≤ (f_X0_bestTurn g 0) then ((0 : Int32)) else ((1 : Int32))))
theorem yk_X5_stuck : yokV yX5_stuck RX5 cX5_stuck 2 (some .int) 0 := ⟨w_459, w_457, w_458, w_1, by decide +kernel⟩
set_option maxHeartbeats 4000000 in
set_option maxRecDepth 100000 in
theorem c_X5_stuck (l : Launch) (z : ZC) (g : Mem) (hI : In g) : ctC l yX5_stuck cX5_stuck 2 (some .int) 6 126 z g [.ref (zad z 46)] (qIC z (f_X5_stuck g, g)) := by
  refine ct_of (own := RX5) (q := fun r => qIC z (r, g)) (res := f_X5_stuck g) (lv := [(0, .ref (zad z 46))]) (enokC z) rfl (by decide) (Nat.le_of_ble_eq_true rfl) rfl (fun p e s m args below meth c C0 hrt hlk => ?_)
  unfold f_X5_stuck
  refine j_aload_n C0 0 dX5_stuck_0 rfl rfl ?_
  refine g_Cakes_now C0 w_157 dX5_stuck_1 ?_
  refine g_Fete_slicesLeft C0 lt3_0 w_88 dX5_stuck_4 ?_
  refine j_if_le C0 24 dX5_stuck_7 (by decide) (fun c_7 => ?_) (fun c_7 => ?_)
  · refine j_iconst C0 (v := 0) dX5_stuck_24 (by decide) ?_
    refine j_istore_n C0 (lv' := [(1, _), (0, _)]) dX5_stuck_25 rfl (by decide) rfl ?_
    refine j_iload_n C0 0 dX5_stuck_26 rfl rfl ?_
    refine j_if_eqT C0 44 dX5_stuck_27 (by decide) (by decide) ?_
    refine j_iconst C0 (v := 0) dX5_stuck_44 (by decide) ?_
    exact j_iretP C0 hrt hlk dX5_stuck_45
  · refine j_aload_n C0 0 dX5_stuck_10 rfl rfl ?_
    refine g_Cakes_now C0 w_157 dX5_stuck_11 ?_
    refine j_callVi C0 (c_X0_allHunger l z _ 0 lt3_0 hI) yk_X0_allHunger w_460 (fun H locs hP _ => recvW C0 hP _ (by have := lt3_0; omega) (cel_fete lt3_0) rfl) ⟨Nat.le_of_ble_eq_true rfl, Nat.le_of_ble_eq_true rfl⟩ rfl rfl (Nat.le_of_ble_eq_true rfl) dX5_stuck_14 ?_
    refine j_if_le C0 24 dX5_stuck_17 (by decide) (fun c_17 => ?_) (fun c_17 => ?_)
    · refine j_iconst C0 (v := 0) dX5_stuck_24 (by decide) ?_
      refine j_istore_n C0 (lv' := [(1, _), (0, _)]) dX5_stuck_25 rfl (by decide) rfl ?_
      refine j_iload_n C0 0 dX5_stuck_26 rfl rfl ?_
      refine j_if_eqT C0 44 dX5_stuck_27 (by decide) (by decide) ?_
      refine j_iconst C0 (v := 0) dX5_stuck_44 (by decide) ?_
      exact j_iretP C0 hrt hlk dX5_stuck_45
    · refine j_iconst C0 (v := 1) dX5_stuck_20 (by decide) ?_
      refine j_goto C0 25 dX5_stuck_21 (by decide) ?_
      refine j_istore_n C0 (lv' := [(1, _), (0, _)]) dX5_stuck_25 rfl (by decide) rfl ?_
      refine j_iload_n C0 0 dX5_stuck_26 rfl rfl ?_
      refine j_if_eqF C0 44 dX5_stuck_27 (by decide) (by decide) ?_
      refine j_aload_n C0 1 dX5_stuck_30 rfl rfl ?_
      refine g_Cakes_now C0 w_157 dX5_stuck_31 ?_
      refine j_callVi C0 (c_X0_bestTurn l z _ 0 lt3_0 hI) yk_X0_bestTurn w_381 (fun H locs hP _ => recvW C0 hP _ (by have := lt3_0; omega) (cel_fete lt3_0) rfl) ⟨Nat.le_of_ble_eq_true rfl, Nat.le_of_ble_eq_true rfl⟩ rfl rfl (Nat.le_of_ble_eq_true rfl) dX5_stuck_34 ?_
      refine j_if_ge C0 44 dX5_stuck_37 (by decide) (fun c_37 => ?_) (fun c_37 => ?_)
      · refine j_iconst C0 (v := 0) dX5_stuck_44 (by decide) ?_
        exact j_iretP C0 hrt hlk dX5_stuck_45
      · refine j_iconst C0 (v := 1) dX5_stuck_40 (by decide) ?_
        refine j_goto C0 45 dX5_stuck_41 (by decide) ?_
        exact j_iretP C0 hrt hlk dX5_stuck_45
def f_X5_mostJoysWatchedBy_36 (g : Mem) (w p1 : Int32) : Nat → Int32 → Int32 → Int32
  | 0, _, _ => 0
  | n0 + 1, a4, a5 => if (g 40 1) ≤ a5 then (a4) else (if (g (8 * 0 + ix a5) 4) ≤ 0 then (f_X5_mostJoysWatchedBy_36 g w p1 n0 a4 (a5 + (1 : Int32))) else (f_X5_mostJoysWatchedBy_36 g w p1 n0 (if a4 < ((f_X3_stilledHunger g (8 * 0 + ix a5)) + (if (9 : Int32) < (f_X1_gazeWith w p1) then (9 : Int32) else (f_X1_gazeWith w p1))) then ((f_X3_stilledHunger g (8 * 0 + ix a5)) + (if (9 : Int32) < (f_X1_gazeWith w p1) then (9 : Int32) else (f_X1_gazeWith w p1))) else a4) (a5 + (1 : Int32))))
def f_X5_mostJoysWatchedBy (g : Mem) (w p1 : Int32) : Int32 := if w = (4 : Int32) then ((-1 : Int32)) else (if (g 40 2) = 0 then ((-1 : Int32)) else (f_X5_mostJoysWatchedBy_36 g w p1 9 (-1 : Int32) (0 : Int32)))
theorem yk_X5_mostJoysWatchedBy : yokV yX5_mostJoysWatchedBy RX5 cX5_mostJoysWatchedBy 6 (some .int) 2 := ⟨w_471, w_470, wp_18, w_1, by decide +kernel⟩
set_option maxHeartbeats 4000000 in
set_option maxRecDepth 100000 in
theorem c_X5_mostJoysWatchedBy (l : Launch) (z : ZC) (g : Mem) (w p1 : Int32) (hw : vp_in w 8) (hI : In g) : ctC l yX5_mostJoysWatchedBy cX5_mostJoysWatchedBy 6 (some .int) 2 33 z g [.ref (zad z 46), .ref (zaE z (ix w)), .int p1] (qIC z (f_X5_mostJoysWatchedBy g w p1, g)) := by
  refine ct_of (own := RX5) (q := fun r => qIC z (r, g)) (res := f_X5_mostJoysWatchedBy g w p1) (lv := [(0, .ref (zad z 46)), (1, .ref (zaE z (ix w))), (2, .int p1)]) (enokC z) rfl (by decide) (Nat.le_of_ble_eq_true rfl) rfl (fun p e s m args below meth c C0 hrt hlk => ?_)
  unfold f_X5_mostJoysWatchedBy
  refine j_aload_n C0 1 dX5_mostJoysWatchedBy_0 rfl rfl ?_
  refine k_BLIND C0 w_472 dX5_mostJoysWatchedBy_1 ?_
  refine k_acmp_eq C0 hw (vin_lit4) 17 dX5_mostJoysWatchedBy_4 (by decide) (fun c_4 => ?_) (fun c_4 => ?_)
  · refine j_iconst C0 (v := (-1)) dX5_mostJoysWatchedBy_17 (by decide) ?_
    exact j_iretP C0 hrt hlk dX5_mostJoysWatchedBy_18
  · refine j_aload_n C0 0 dX5_mostJoysWatchedBy_7 rfl rfl ?_
    refine g_Cakes_now C0 w_157 dX5_mostJoysWatchedBy_8 ?_
    refine g_Fete_slicesLeft C0 lt3_0 w_88 dX5_mostJoysWatchedBy_11 ?_
    refine j_if_ne C0 19 dX5_mostJoysWatchedBy_14 (by decide) (fun c_14 => ?_) (fun c_14 => ?_)
    · refine j_iconst C0 (v := (-1)) dX5_mostJoysWatchedBy_17 (by decide) ?_
      exact j_iretP C0 hrt hlk dX5_mostJoysWatchedBy_18
    · refine j_aload_n C0 1 dX5_mostJoysWatchedBy_19 rfl rfl ?_
      refine j_iload_n C0 2 dX5_mostJoysWatchedBy_20 rfl rfl ?_
      refine j_callVi C0 (c_X1_gazeWith l z _ w _ hw) yk_X1_gazeWith w_473 (fun H locs _ hS => recvE C0 hw hS) ⟨Nat.le_of_ble_eq_true rfl, Nat.le_of_ble_eq_true rfl⟩ rfl rfl (Nat.le_of_ble_eq_true rfl) dX5_mostJoysWatchedBy_21 ?_
      refine j_bipush C0 (v := 9) dX5_mostJoysWatchedBy_24 (by decide) ?_
      refine j_mmin C0 w_451 w_313 w_9 w_314 (Nat.le_of_ble_eq_true rfl) (Nat.le_of_ble_eq_true rfl) dX5_mostJoysWatchedBy_26 ?_
      refine j_istore_n C0 (lv' := [(3, _), (0, _), (1, _), (2, _)]) dX5_mostJoysWatchedBy_29 rfl (by decide) rfl ?_
      refine j_iconst C0 (v := (-1)) dX5_mostJoysWatchedBy_30 (by decide) ?_
      refine j_istore C0 (lv' := [(4, _), (3, _), (0, _), (1, _), (2, _)]) dX5_mostJoysWatchedBy_31 (by decide) rfl ?_
      refine j_iconst C0 (v := 0) dX5_mostJoysWatchedBy_33 (by decide) ?_
      refine j_istore C0 (lv' := [(5, _), (4, _), (3, _), (0, _), (1, _), (2, _)]) dX5_mostJoysWatchedBy_34 (by decide) rfl ?_
      have L36 : ∀ (n0 : Nat) (a4 : Int32) (a5 : Int32), lc a5 (g 40 1) n0 → jj p l e { frames := 2, cells := 0, slots := 0, locals := 33 } s m args below meth c (zA z) (zD z) 52 (zad z) (celC z) 6 (fun r => MQ below (qIC z (r, g)) args s 0 0 (zA z)) (f_X5_mostJoysWatchedBy_36 g w p1 n0 a4 a5) g 36 [(0, .ref (zad z 46)), (1, .ref (zaE z (ix w))), (2, .int p1), (3, .int (if (9 : Int32) < (f_X1_gazeWith w p1) then (9 : Int32) else (f_X1_gazeWith w p1))), (4, .int a4), (5, .int a5)] [] := by
        intro n0
        induction n0 with
        | zero => intro a4 a5 hL; exact absurd hL.2 (Nat.not_lt_zero _)
        | succ n0 ih0 =>
          intro a4 a5 hL
          rw [f_X5_mostJoysWatchedBy_36]
          refine j_iload C0 5 dX5_mostJoysWatchedBy_36 rfl ?_
          refine j_aload_n C0 0 dX5_mostJoysWatchedBy_38 rfl rfl ?_
          refine g_Cakes_now C0 w_157 dX5_mostJoysWatchedBy_39 ?_
          refine g_Fete_size C0 lt3_0 w_85 dX5_mostJoysWatchedBy_42 ?_
          refine j_icmp_ge C0 92 dX5_mostJoysWatchedBy_45 (by decide) (fun c_45 => ?_) (fun c_45 => ?_)
          · refine j_iload C0 4 dX5_mostJoysWatchedBy_92 rfl ?_
            exact j_iretP C0 hrt hlk dX5_mostJoysWatchedBy_94
          · have hv_a5 : vp_in a5 8 := vin_lc hL c_45 (In_sz40 hI)
            refine j_aload_n C0 0 dX5_mostJoysWatchedBy_48 rfl rfl ?_
            refine g_Cakes_now C0 w_157 dX5_mostJoysWatchedBy_49 ?_
            refine g_Fete_people C0 lt3_0 w_82 dX5_mostJoysWatchedBy_52 ?_
            refine j_iload C0 5 dX5_mostJoysWatchedBy_55 rfl ?_
            refine a_people C0 lt3_0 hv_a5 dX5_mostJoysWatchedBy_57 ?_
            refine g_Person_hunger C0 (vin_pk lt3_0 hv_a5) w_53 dX5_mostJoysWatchedBy_58 ?_
            refine j_if_le C0 86 dX5_mostJoysWatchedBy_61 (by decide) (fun c_61 => ?_) (fun c_61 => ?_)
            · refine j_iinc C0 (lv' := [(5, _), (0, _), (1, _), (2, _), (3, _), (4, _)]) (v := _ + (1)) 5 dX5_mostJoysWatchedBy_86 rfl (by rfl) (by decide) rfl ?_
              refine j_goto C0 36 dX5_mostJoysWatchedBy_89 (by decide) ?_
              exact j_sub [1, 2, 3, 4, 5, 0] rfl (ih0 _ _ (lc_stepN hL c_45))
            · refine j_iload C0 4 dX5_mostJoysWatchedBy_64 rfl ?_
              refine j_aload_n C0 0 dX5_mostJoysWatchedBy_66 rfl rfl ?_
              refine g_Cakes_now C0 w_157 dX5_mostJoysWatchedBy_67 ?_
              refine g_Fete_people C0 lt3_0 w_82 dX5_mostJoysWatchedBy_70 ?_
              refine j_iload C0 5 dX5_mostJoysWatchedBy_73 rfl ?_
              refine a_people C0 lt3_0 hv_a5 dX5_mostJoysWatchedBy_75 ?_
              refine j_callVi C0 (c_X3_stilledHunger l z _ (8 * 0 + ix a5) (vin_pk lt3_0 hv_a5)) yk_X3_stilledHunger w_474 (fun H locs hP _ => recvW C0 hP _ (Nat.lt_of_lt_of_le (vin_pk lt3_0 hv_a5) (by decide)) (cel_person (vin_pk lt3_0 hv_a5)) rfl) ⟨Nat.le_of_ble_eq_true rfl, Nat.le_of_ble_eq_true rfl⟩ rfl rfl (Nat.le_of_ble_eq_true rfl) dX5_mostJoysWatchedBy_76 ?_
              refine j_iload_n C0 3 dX5_mostJoysWatchedBy_79 rfl rfl ?_
              refine j_iadd C0 dX5_mostJoysWatchedBy_80 ?_
              refine j_mmax C0 w_336 w_316 w_9 w_317 (Nat.le_of_ble_eq_true rfl) (Nat.le_of_ble_eq_true rfl) dX5_mostJoysWatchedBy_81 ?_
              refine j_istore C0 (lv' := [(4, _), (0, _), (1, _), (2, _), (3, _), (5, _)]) dX5_mostJoysWatchedBy_84 (by decide) rfl ?_
              refine j_iinc C0 (lv' := [(5, _), (4, _), (0, _), (1, _), (2, _), (3, _)]) (v := _ + (1)) 5 dX5_mostJoysWatchedBy_86 rfl (by rfl) (by decide) rfl ?_
              refine j_goto C0 36 dX5_mostJoysWatchedBy_89 (by decide) ?_
              exact j_sub [2, 3, 4, 5, 1, 0] rfl (ih0 _ _ (lc_stepN hL c_45))
      exact j_sub [3, 4, 5, 2, 1, 0] rfl (L36 9 _ _ (lc_0 (by have := (In_sz40 hI); omega) (by decide)))
def f_X5_bring_48 (g : Mem) (p0 : Int32) : Nat → Int32 → Int32 → Int32 → Int32
  | 0, _, _, _ => 0
  | n0 + 1, a3, a4, a5 => if (8 : Int32) ≤ a5 then (a4) else (if (f_X5_mostJoysWatchedBy g a5 p0) ≤ a3 then (f_X5_bring_48 g p0 n0 a3 a4 (a5 + (1 : Int32))) else (f_X5_bring_48 g p0 n0 (f_X5_mostJoysWatchedBy g a5 p0) a5 (a5 + (1 : Int32))))
def f_X5_bring (g : Mem) (p0 : Int32) : Int32 := if (f_X5_isFigure p0) = 0 then ((-1 : Int32)) else (if 0 ≤ (f_X0_bestTurn g 0) then (f_X5_bring_48 g p0 9 (f_X0_joysOf g 0 ((f_X0_bestTurn g 0) / (10 : Int32)) ((f_X0_bestTurn g 0) - (f_X0_bestTurn g 0) / (10 : Int32) * (10 : Int32))) (-4 : Int32) (0 : Int32)) else (f_X5_bring_48 g p0 9 (0 : Int32) (-4 : Int32) (0 : Int32)))
theorem yk_X5_bring : yokV yX5_bring RX5 cX5_bring 7 (some .int) 1 := ⟨w_467, w_465, w_466, w_1, by decide +kernel⟩
set_option maxHeartbeats 4000000 in
set_option maxRecDepth 100000 in
theorem c_X5_bring (l : Launch) (z : ZC) (g : Mem) (p0 : Int32) (hI : In g) : ctC l yX5_bring cX5_bring 7 (some .int) 6 126 z g [.ref (zad z 46), .int p0] (qIC z (f_X5_bring g p0, g)) := by
  refine ct_of (own := RX5) (q := fun r => qIC z (r, g)) (res := f_X5_bring g p0) (lv := [(0, .ref (zad z 46)), (1, .int p0)]) (enokC z) rfl (by decide) (Nat.le_of_ble_eq_true rfl) rfl (fun p e s m args below meth c C0 hrt hlk => ?_)
  unfold f_X5_bring
  refine j_iload_n C0 1 dX5_bring_0 rfl rfl ?_
  refine j_callSi C0 (c_X5_isFigure l z _ _) yk_X5_isFigure w_242 ⟨Nat.le_of_ble_eq_true rfl, Nat.le_of_ble_eq_true rfl⟩ rfl rfl (Nat.le_of_ble_eq_true rfl) dX5_bring_1 ?_
  refine j_if_ne C0 9 dX5_bring_4 (by decide) (fun c_4 => ?_) (fun c_4 => ?_)
  · refine j_iconst C0 (v := (-1)) dX5_bring_7 (by decide) ?_
    exact j_iretP C0 hrt hlk dX5_bring_8
  · refine j_aload_n C0 0 dX5_bring_9 rfl rfl ?_
    refine g_Cakes_now C0 w_157 dX5_bring_10 ?_
    refine j_callVi C0 (c_X0_bestTurn l z _ 0 lt3_0 hI) yk_X0_bestTurn w_381 (fun H locs hP _ => recvW C0 hP _ (by have := lt3_0; omega) (cel_fete lt3_0) rfl) ⟨Nat.le_of_ble_eq_true rfl, Nat.le_of_ble_eq_true rfl⟩ rfl rfl (Nat.le_of_ble_eq_true rfl) dX5_bring_13 ?_
    refine j_istore_n C0 (lv' := [(2, _), (0, _), (1, _)]) dX5_bring_16 rfl (by decide) rfl ?_
    refine j_iload_n C0 0 dX5_bring_17 rfl rfl ?_
    refine j_if_ge C0 25 dX5_bring_18 (by decide) (fun c_18 => ?_) (fun c_18 => ?_)
    · have hbt := bestTurn_in hI lt3_0 (x := _) rfl (nlt_of c_18)
      refine j_aload_n C0 1 dX5_bring_25 rfl rfl ?_
      refine g_Cakes_now C0 w_157 dX5_bring_26 ?_
      refine j_iload_n C0 0 dX5_bring_29 rfl rfl ?_
      refine j_bipush C0 (v := 10) dX5_bring_30 (by decide) ?_
      refine j_idiv C0 dX5_bring_32 (by decide) ?_
      refine j_iload_n C0 0 dX5_bring_33 rfl rfl ?_
      refine j_bipush C0 (v := 10) dX5_bring_34 (by decide) ?_
      refine j_irem C0 dX5_bring_36 (by decide) ?_
      refine j_callVi C0 (c_X0_joysOf l z _ 0 lt3_0 _ _ hbt.1 hbt.2 hI) yk_X0_joysOf w_370 (fun H locs hP _ => recvW C0 hP _ (by have := lt3_0; omega) (cel_fete lt3_0) rfl) ⟨Nat.le_of_ble_eq_true rfl, Nat.le_of_ble_eq_true rfl⟩ rfl rfl (Nat.le_of_ble_eq_true rfl) dX5_bring_37 ?_
      refine j_istore_n C0 (lv' := [(3, _), (2, _), (0, _), (1, _)]) dX5_bring_40 rfl (by decide) rfl ?_
      refine j_bipush C0 (v := (-4)) dX5_bring_41 (by decide) ?_
      refine j_istore C0 (lv' := [(4, _), (3, _), (2, _), (0, _), (1, _)]) dX5_bring_43 (by decide) rfl ?_
      refine j_iconst C0 (v := 0) dX5_bring_45 (by decide) ?_
      refine j_istore C0 (lv' := [(5, _), (4, _), (3, _), (2, _), (0, _), (1, _)]) dX5_bring_46 (by decide) rfl ?_
      have L48 : ∀ (n0 : Nat) (a3 : Int32) (a4 : Int32) (a5 : Int32), lc a5 8 n0 → jj p l e { frames := 6, cells := 0, slots := 0, locals := 126 } s m args below meth c (zA z) (zD z) 52 (zad z) (celC z) 7 (fun r => MQ below (qIC z (r, g)) args s 0 0 (zA z)) (f_X5_bring_48 g p0 n0 a3 a4 a5) g 48 [(0, .ref (zad z 46)), (1, .int p0), (2, .int (f_X0_bestTurn g 0)), (3, .int a3), (4, .int a4), (5, .int a5)] [] := by
        intro n0
        induction n0 with
        | zero => intro a3 a4 a5 hL; exact absurd hL.2 (Nat.not_lt_zero _)
        | succ n0 ih0 =>
          intro a3 a4 a5 hL
          rw [f_X5_bring_48]
          refine j_iload C0 5 dX5_bring_48 rfl ?_
          refine k_KINDS C0 w_240 dX5_bring_50 ?_
          refine k_len C0 dX5_bring_53 ?_
          refine j_icmp_ge C0 89 dX5_bring_54 (by decide) (fun c_54 => ?_) (fun c_54 => ?_)
          · refine j_iload C0 4 dX5_bring_89 rfl ?_
            exact j_iretP C0 hrt hlk dX5_bring_91
          · have hv_a5 : vp_in a5 8 := vin_lc hL c_54 (by decide : (8 : Int32).toInt ≤ 8)
            refine j_aload_n C0 0 dX5_bring_57 rfl rfl ?_
            refine k_KINDS C0 w_240 dX5_bring_58 ?_
            refine j_iload C0 5 dX5_bring_61 rfl ?_
            refine k_at C0 hv_a5 dX5_bring_63 ?_
            refine j_iload_n C0 1 dX5_bring_64 rfl rfl ?_
            refine j_callVi C0 (c_X5_mostJoysWatchedBy l z _ _ _ hv_a5 hI) yk_X5_mostJoysWatchedBy w_468 (fun H locs hP _ => recvW C0 hP _ (by decide) cel_main rfl) ⟨Nat.le_of_ble_eq_true rfl, Nat.le_of_ble_eq_true rfl⟩ rfl rfl (Nat.le_of_ble_eq_true rfl) dX5_bring_65 ?_
            refine j_istore C0 (lv' := [(6, _), (0, _), (1, _), (2, _), (3, _), (4, _), (5, _)]) dX5_bring_68 (by decide) rfl ?_
            refine j_iload C0 0 dX5_bring_70 rfl ?_
            refine j_iload_n C0 4 dX5_bring_72 rfl rfl ?_
            refine j_icmp_le C0 83 dX5_bring_73 (by decide) (fun c_73 => ?_) (fun c_73 => ?_)
            · refine j_iinc C0 (lv' := [(5, _), (6, _), (0, _), (1, _), (2, _), (3, _), (4, _)]) (v := _ + (1)) 6 dX5_bring_83 rfl (by rfl) (by decide) rfl ?_
              refine j_goto C0 48 dX5_bring_86 (by decide) ?_
              exact j_sub [2, 3, 4, 5, 6, 0] rfl (ih0 _ _ _ (lc_stepN hL c_54))
            · refine j_iload C0 0 dX5_bring_76 rfl ?_
              refine j_istore_n C0 (lv' := [(3, _), (6, _), (0, _), (1, _), (2, _), (4, _), (5, _)]) dX5_bring_78 rfl (by decide) rfl ?_
              refine j_iload C0 6 dX5_bring_79 rfl ?_
              refine j_istore C0 (lv' := [(4, _), (3, _), (6, _), (0, _), (1, _), (2, _), (5, _)]) dX5_bring_81 (by decide) rfl ?_
              refine j_iinc C0 (lv' := [(5, _), (4, _), (3, _), (6, _), (0, _), (1, _), (2, _)]) (v := _ + (1)) 6 dX5_bring_83 rfl (by rfl) (by decide) rfl ?_
              refine j_goto C0 48 dX5_bring_86 (by decide) ?_
              exact j_sub [4, 5, 6, 2, 1, 0] rfl (ih0 _ _ _ (lc_stepN hL c_54))
      exact j_sub [4, 5, 3, 2, 1, 0] rfl (L48 9 _ _ _ (lc_0 (by have := (by decide : (8 : Int32).toInt ≤ 8); omega) (by decide)))
    · refine j_iconst C0 (v := 0) dX5_bring_21 (by decide) ?_
      refine j_goto C0 40 dX5_bring_22 (by decide) ?_
      refine j_istore_n C0 (lv' := [(3, _), (2, _), (0, _), (1, _)]) dX5_bring_40 rfl (by decide) rfl ?_
      refine j_bipush C0 (v := (-4)) dX5_bring_41 (by decide) ?_
      refine j_istore C0 (lv' := [(4, _), (3, _), (2, _), (0, _), (1, _)]) dX5_bring_43 (by decide) rfl ?_
      refine j_iconst C0 (v := 0) dX5_bring_45 (by decide) ?_
      refine j_istore C0 (lv' := [(5, _), (4, _), (3, _), (2, _), (0, _), (1, _)]) dX5_bring_46 (by decide) rfl ?_
      have L48 : ∀ (n0 : Nat) (a3 : Int32) (a4 : Int32) (a5 : Int32), lc a5 8 n0 → jj p l e { frames := 6, cells := 0, slots := 0, locals := 126 } s m args below meth c (zA z) (zD z) 52 (zad z) (celC z) 7 (fun r => MQ below (qIC z (r, g)) args s 0 0 (zA z)) (f_X5_bring_48 g p0 n0 a3 a4 a5) g 48 [(0, .ref (zad z 46)), (1, .int p0), (2, .int (f_X0_bestTurn g 0)), (3, .int a3), (4, .int a4), (5, .int a5)] [] := by
        intro n0
        induction n0 with
        | zero => intro a3 a4 a5 hL; exact absurd hL.2 (Nat.not_lt_zero _)
        | succ n0 ih0 =>
          intro a3 a4 a5 hL
          rw [f_X5_bring_48]
          refine j_iload C0 5 dX5_bring_48 rfl ?_
          refine k_KINDS C0 w_240 dX5_bring_50 ?_
          refine k_len C0 dX5_bring_53 ?_
          refine j_icmp_ge C0 89 dX5_bring_54 (by decide) (fun c_54 => ?_) (fun c_54 => ?_)
          · refine j_iload C0 4 dX5_bring_89 rfl ?_
            exact j_iretP C0 hrt hlk dX5_bring_91
          · have hv_a5 : vp_in a5 8 := vin_lc hL c_54 (by decide : (8 : Int32).toInt ≤ 8)
            refine j_aload_n C0 0 dX5_bring_57 rfl rfl ?_
            refine k_KINDS C0 w_240 dX5_bring_58 ?_
            refine j_iload C0 5 dX5_bring_61 rfl ?_
            refine k_at C0 hv_a5 dX5_bring_63 ?_
            refine j_iload_n C0 1 dX5_bring_64 rfl rfl ?_
            refine j_callVi C0 (c_X5_mostJoysWatchedBy l z _ _ _ hv_a5 hI) yk_X5_mostJoysWatchedBy w_468 (fun H locs hP _ => recvW C0 hP _ (by decide) cel_main rfl) ⟨Nat.le_of_ble_eq_true rfl, Nat.le_of_ble_eq_true rfl⟩ rfl rfl (Nat.le_of_ble_eq_true rfl) dX5_bring_65 ?_
            refine j_istore C0 (lv' := [(6, _), (0, _), (1, _), (2, _), (3, _), (4, _), (5, _)]) dX5_bring_68 (by decide) rfl ?_
            refine j_iload C0 0 dX5_bring_70 rfl ?_
            refine j_iload_n C0 4 dX5_bring_72 rfl rfl ?_
            refine j_icmp_le C0 83 dX5_bring_73 (by decide) (fun c_73 => ?_) (fun c_73 => ?_)
            · refine j_iinc C0 (lv' := [(5, _), (6, _), (0, _), (1, _), (2, _), (3, _), (4, _)]) (v := _ + (1)) 6 dX5_bring_83 rfl (by rfl) (by decide) rfl ?_
              refine j_goto C0 48 dX5_bring_86 (by decide) ?_
              exact j_sub [2, 3, 4, 5, 6, 0] rfl (ih0 _ _ _ (lc_stepN hL c_54))
            · refine j_iload C0 0 dX5_bring_76 rfl ?_
              refine j_istore_n C0 (lv' := [(3, _), (6, _), (0, _), (1, _), (2, _), (4, _), (5, _)]) dX5_bring_78 rfl (by decide) rfl ?_
              refine j_iload C0 6 dX5_bring_79 rfl ?_
              refine j_istore C0 (lv' := [(4, _), (3, _), (6, _), (0, _), (1, _), (2, _), (5, _)]) dX5_bring_81 (by decide) rfl ?_
              refine j_iinc C0 (lv' := [(5, _), (4, _), (3, _), (6, _), (0, _), (1, _), (2, _)]) (v := _ + (1)) 6 dX5_bring_83 rfl (by rfl) (by decide) rfl ?_
              refine j_goto C0 48 dX5_bring_86 (by decide) ?_
              exact j_sub [4, 5, 6, 2, 1, 0] rfl (ih0 _ _ _ (lc_stepN hL c_54))
      exact j_sub [4, 5, 3, 2, 1, 0] rfl (L48 9 _ _ _ (lc_0 (by have := (by decide : (8 : Int32).toInt ≤ 8); omega) (by decide)))
def f_X5_feeds (g : Mem) (p0 : Int32) : Int32 := if (f_X0_isThere g 0 p0) = 0 then ((-1 : Int32)) else (if (g (8 * 0 + ix p0) 2) ≤ 0 then ((0 : Int32)) else (((((g (8 * 0 + ix p0) 4) + (g (8 * 0 + ix p0) 2)) - (1 : Int32)) / (g (8 * 0 + ix p0) 2))))
theorem yk_X5_feeds : yokV yX5_feeds RX5 cX5_feeds 3 (some .int) 1 := ⟨w_478, w_476, w_477, w_1, by decide +kernel⟩
set_option maxHeartbeats 4000000 in
set_option maxRecDepth 100000 in
theorem c_X5_feeds (l : Launch) (z : ZC) (g : Mem) (p0 : Int32) (hI : In g) : ctC l yX5_feeds cX5_feeds 3 (some .int) 1 21 z g [.ref (zad z 46), .int p0] (qIC z (f_X5_feeds g p0, g)) := by
  refine ct_of (own := RX5) (q := fun r => qIC z (r, g)) (res := f_X5_feeds g p0) (lv := [(0, .ref (zad z 46)), (1, .int p0)]) (enokC z) rfl (by decide) (Nat.le_of_ble_eq_true rfl) rfl (fun p e s m args below meth c C0 hrt hlk => ?_)
  unfold f_X5_feeds
  refine j_aload_n C0 0 dX5_feeds_0 rfl rfl ?_
  refine g_Cakes_now C0 w_157 dX5_feeds_1 ?_
  refine j_iload_n C0 1 dX5_feeds_4 rfl rfl ?_
  refine j_callVi C0 (c_X0_isThere l z _ 0 lt3_0 _) yk_X0_isThere w_331 (fun H locs hP _ => recvW C0 hP _ (by have := lt3_0; omega) (cel_fete lt3_0) rfl) ⟨Nat.le_of_ble_eq_true rfl, Nat.le_of_ble_eq_true rfl⟩ rfl rfl (Nat.le_of_ble_eq_true rfl) dX5_feeds_5 ?_
  refine j_if_ne C0 13 dX5_feeds_8 (by decide) (fun c_8 => ?_) (fun c_8 => ?_)
  · refine j_iconst C0 (v := (-1)) dX5_feeds_11 (by decide) ?_
    exact j_iretP C0 hrt hlk dX5_feeds_12
  · have hv := isThere_in hI lt3_0 c_8
    refine j_aload_n C0 0 dX5_feeds_13 rfl rfl ?_
    refine g_Cakes_now C0 w_157 dX5_feeds_14 ?_
    refine g_Fete_people C0 lt3_0 w_82 dX5_feeds_17 ?_
    refine j_iload_n C0 1 dX5_feeds_20 rfl rfl ?_
    refine a_people C0 lt3_0 hv dX5_feeds_21 ?_
    refine j_astore_n C0 (lv' := [(2, _), (0, _), (1, _)]) dX5_feeds_22 rfl (by decide) rfl ?_
    refine j_aload_n C0 0 dX5_feeds_23 rfl rfl ?_
    refine g_Person_bite C0 (vin_pk lt3_0 hv) w_49 dX5_feeds_24 ?_
    refine j_if_le C0 49 dX5_feeds_27 (by decide) (fun c_27 => ?_) (fun c_27 => ?_)
    · refine j_iconst C0 (v := 0) dX5_feeds_49 (by decide) ?_
      exact j_iretP C0 hrt hlk dX5_feeds_50
    · refine j_aload_n C0 0 dX5_feeds_30 rfl rfl ?_
      refine g_Person_hunger C0 (vin_pk lt3_0 hv) w_53 dX5_feeds_31 ?_
      refine j_aload_n C0 0 dX5_feeds_34 rfl rfl ?_
      refine g_Person_bite C0 (vin_pk lt3_0 hv) w_49 dX5_feeds_35 ?_
      refine j_iadd C0 dX5_feeds_38 ?_
      refine j_iconst C0 (v := 1) dX5_feeds_39 (by decide) ?_
      refine j_isub C0 dX5_feeds_40 ?_
      refine j_aload_n C0 0 dX5_feeds_41 rfl rfl ?_
      refine g_Person_bite C0 (vin_pk lt3_0 hv) w_49 dX5_feeds_42 ?_
      refine j_idiv C0 dX5_feeds_45 (ne0_of c_27) ?_
      refine j_goto C0 50 dX5_feeds_46 (by decide) ?_
      exact j_iretP C0 hrt hlk dX5_feeds_50
