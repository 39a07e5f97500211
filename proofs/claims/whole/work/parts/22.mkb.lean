def f_X6_gcd_6 (g : Mem) (p0 p1 : Int64) : Nat → Int64 → Int64 → Int64
  | 0, _, _ => 0
  | n0 + 1, a4, a6 => if (lg_cmp a6 (0 : Int64)) = 0 then (a4) else (f_X6_gcd_6 g p0 p1 n0 a6 (a4 - a4 / a6 * a6))
def f_X6_gcd (g : Mem) (p0 p1 : Int64) : Int64 := f_X6_gcd_6 g p0 p1 (p1.toInt.toNat + 1) p0 p1
theorem yk_X6_gcd : yokS yX6_gcd RX6 cX6_gcd 10 (some .long) 2 := ⟨w_1079, w_1078, w_8, by decide +kernel⟩
set_option maxHeartbeats 4000000 in
set_option maxRecDepth 100000 in
theorem c_X6_gcd (l : Launch) (z : ZM) (g : Mem) (p0 p1 : Int64) (h0 : 0 ≤ p0.toInt) (h1 : 0 ≤ p1.toInt) : ctM l yX6_gcd cX6_gcd 10 (some .long) 0 0 z g [.long p0, .long p1] (qLM z (f_X6_gcd g p0 p1, g)) := by
  refine ct_of (own := RX6) (q := fun r => qLM z (r, g)) (res := f_X6_gcd g p0 p1) (lv := [(0, .long p0), (2, .long p1)]) enokM rfl (by decide) (Nat.le_of_ble_eq_true rfl) rfl (fun p e s m args below meth c C0 hrt hlk => ?_)
  unfold f_X6_gcd
  refine j_lload_n C0 0 dX6_gcd_0 rfl rfl ?_
  refine j_lstore C0 (lv' := [(4, _), (0, _), (2, _)]) dX6_gcd_1 (by decide) rfl ?_
  refine j_lload_n C0 2 dX6_gcd_3 rfl rfl ?_
  refine j_lstore C0 (lv' := [(6, _), (4, _), (0, _), (2, _)]) dX6_gcd_4 (by decide) rfl ?_
  have L6 : ∀ (n0 : Nat) (a4 : Int64) (a6 : Int64), 0 ≤ a4.toInt → (0 ≤ a6.toInt ∧ a6.toInt.toNat < n0) → jj p l e { frames := 0, cells := 0, slots := 0, locals := 0 } s m args below meth c (yA z) (yD z) 14 (yad z) (celM z) 10 (fun r => MQ below (qLM z (r, g)) args s 0 0 (yA z)) (f_X6_gcd_6 g p0 p1 n0 a4 a6) g 6 [(0, .long p0), (2, .long p1), (4, .long a4), (6, .long a6)] [] := by
    intro n0
    induction n0 with
    | zero => intro a4 a6 hx hy; exact absurd hy.2 (Nat.not_lt_zero _)
    | succ n0 ih0 =>
      intro a4 a6 hx hy
      rw [f_X6_gcd_6]
      refine j_lload C0 3 dX6_gcd_6 rfl ?_
      refine j_lconst C0 (v := 0) dX6_gcd_8 (by decide) ?_
      refine j_lcmp C0 dX6_gcd_9 ?_
      refine j_if_eq C0 31 dX6_gcd_10 (by decide) (fun c_10 => ?_) (fun c_10 => ?_)
      · refine j_lload C0 2 dX6_gcd_31 rfl ?_
        exact j_lretP C0 hrt hlk dX6_gcd_33
      · refine j_lload C0 2 dX6_gcd_13 rfl ?_
        refine j_lload C0 3 dX6_gcd_15 rfl ?_
        refine j_lrem C0 dX6_gcd_17 (lcmp_ne c_10) ?_
        refine j_lstore C0 (lv' := [(8, _), (0, _), (2, _), (4, _), (6, _)]) dX6_gcd_18 (by decide) rfl ?_
        refine j_lload C0 4 dX6_gcd_20 rfl ?_
        refine j_lstore C0 (lv' := [(4, _), (8, _), (0, _), (2, _), (6, _)]) dX6_gcd_22 (by decide) rfl ?_
        refine j_lload C0 1 dX6_gcd_24 rfl ?_
        refine j_lstore C0 (lv' := [(6, _), (4, _), (8, _), (0, _), (2, _)]) dX6_gcd_26 (by decide) rfl ?_
        refine j_goto C0 6 dX6_gcd_28 (by decide) ?_
        exact j_sub [3, 4, 1, 0] rfl (ih0 _ _ hy.1 (gcd_step hx hy (lcmp_ne c_10)))
  exact j_sub [2, 3, 1, 0] rfl (L6 (p1.toInt.toNat + 1) _ _ h0 ⟨h1, gcd_fuel h1⟩)
theorem gcd_L {g : Mem} {p0 p1 : Int64} : ∀ (n : Nat) (a4 a6 : Int64), 0 ≤ a4.toInt → (0 ≤ a6.toInt ∧ a6.toInt.toNat < n) → (¬ a4 = 0 ∨ ¬ a6 = 0) → ¬ f_X6_gcd_6 g p0 p1 n a4 a6 = 0 := by
  intro n
  induction n with
  | zero => intro a4 a6 hx hy; exact absurd hy.2 (Nat.not_lt_zero _)
  | succ n ih =>
    intro a4 a6 hx hy h
    rw [f_X6_gcd_6]
    split
    · have c := (by assumption : lg_cmp a6 0 = 0)
      rcases h with h | h
      · exact h
      · exact absurd (lcmp_eq c) h
    · have c := lcmp_ne (by assumption)
      exact ih _ _ hy.1 (gcd_step hx hy c) (Or.inl c)
theorem gcd_ne {g : Mem} {p0 p1 : Int64} (h0 : 0 ≤ p0.toInt) (h1 : 0 ≤ p1.toInt) (h : ¬ p0 = 0) : ¬ f_X6_gcd g p0 p1 = 0 := gcd_L _ _ _ h0 ⟨h1, gcd_fuel h1⟩ (Or.inl h)

def f_X6_partOf (g : Mem) (p0 p1 : Int64) (p2 : Int32) : Int64 := if (lg_cmp p0 (0 : Int64)) = 0 then ((Int32.toInt64 p2)) else (if p2 = 0 then ((p0 / (f_X6_gcd g p0 p1))) else ((p1 / (f_X6_gcd g p0 p1))))
theorem yk_X6_partOf : yokS yX6_partOf RX6 cX6_partOf 5 (some .long) 3 := ⟨w_1076, w_1075, w_8, by decide +kernel⟩
set_option maxHeartbeats 4000000 in
set_option maxRecDepth 100000 in
theorem c_X6_partOf (l : Launch) (z : ZM) (g : Mem) (p0 p1 : Int64) (p2 : Int32) (h0 : 0 ≤ p0.toInt) (h1 : 0 ≤ p1.toInt) : ctM l yX6_partOf cX6_partOf 5 (some .long) 1 29 z g [.long p0, .long p1, .int p2] (qLM z (f_X6_partOf g p0 p1 p2, g)) := by
  refine ct_of (own := RX6) (q := fun r => qLM z (r, g)) (res := f_X6_partOf g p0 p1 p2) (lv := [(0, .long p0), (2, .long p1), (4, .int p2)]) enokM rfl (by decide) (Nat.le_of_ble_eq_true rfl) rfl (fun p e s m args below meth c C0 hrt hlk => ?_)
  unfold f_X6_partOf
  refine j_lload_n C0 0 dX6_partOf_0 rfl rfl ?_
  refine j_lconst C0 (v := 0) dX6_partOf_1 (by decide) ?_
  refine j_lcmp C0 dX6_partOf_2 ?_
  refine j_if_ne C0 10 dX6_partOf_3 (by decide) (fun c_3 => ?_) (fun c_3 => ?_)
  · refine j_iload C0 2 dX6_partOf_6 rfl ?_
    refine j_i2l C0 dX6_partOf_8 ?_
    exact j_lretP C0 hrt hlk dX6_partOf_9
  · refine j_iload C0 2 dX6_partOf_10 rfl ?_
    refine j_if_ne C0 19 dX6_partOf_12 (by decide) (fun c_12 => ?_) (fun c_12 => ?_)
    · refine j_lload_n C0 0 dX6_partOf_15 rfl rfl ?_
      refine j_goto C0 20 dX6_partOf_16 (by decide) ?_
      refine j_lload_n C0 0 dX6_partOf_20 rfl rfl ?_
      refine j_lload_n C0 1 dX6_partOf_21 rfl rfl ?_
      refine j_callSl C0 (c_X6_gcd l z _ _ _ h0 h1) yk_X6_gcd w_1077 ⟨Nat.le_of_ble_eq_true rfl, Nat.le_of_ble_eq_true rfl⟩ rfl rfl (Nat.le_of_ble_eq_true rfl) dX6_partOf_22 ?_
      refine j_ldiv C0 dX6_partOf_25 (gcd_ne h0 h1 (lcmp_ne c_3)) ?_
      exact j_lretP C0 hrt hlk dX6_partOf_26
    · refine j_lload_n C0 1 dX6_partOf_19 rfl rfl ?_
      refine j_lload_n C0 0 dX6_partOf_20 rfl rfl ?_
      refine j_lload_n C0 1 dX6_partOf_21 rfl rfl ?_
      refine j_callSl C0 (c_X6_gcd l z _ _ _ h0 h1) yk_X6_gcd w_1077 ⟨Nat.le_of_ble_eq_true rfl, Nat.le_of_ble_eq_true rfl⟩ rfl rfl (Nat.le_of_ble_eq_true rfl) dX6_partOf_22 ?_
      refine j_ldiv C0 dX6_partOf_25 (gcd_ne h0 h1 (lcmp_ne c_3)) ?_
      exact j_lretP C0 hrt hlk dX6_partOf_26
def f_X6_mean (g : Mem) (p0 : Int32) : Int64 := if (f_X6_isIn p0 (0 : Int32) (1 : Int32)) = 0 then ((1000000001 : Int64)) else ((f_X6_partOf g (Int32.toInt64 (f_X6_hungerAll g)) (Int32.toInt64 (g 1 0)) p0))
theorem yk_X6_mean : yokV yX6_mean RX6 cX6_mean 2 (some .long) 1 := ⟨w_1083, w_1081, w_1082, w_8, by decide +kernel⟩
set_option maxHeartbeats 4000000 in
set_option maxRecDepth 100000 in
theorem c_X6_mean (l : Launch) (z : ZM) (g : Mem) (p0 : Int32) (hI : InM g) (hh : 0 ≤ (f_X6_hungerAll g).toInt) : ctM l yX6_mean cX6_mean 2 (some .long) 2 53 z g [.ref (yad z 0), .int p0] (qLM z (f_X6_mean g p0, g)) := by
  refine ct_of (own := RX6) (q := fun r => qLM z (r, g)) (res := f_X6_mean g p0) (lv := [(0, .ref (yad z 0)), (1, .int p0)]) enokM rfl (by decide) (Nat.le_of_ble_eq_true rfl) rfl (fun p e s m args below meth c C0 hrt hlk => ?_)
  unfold f_X6_mean
  refine j_iload_n C0 1 dX6_mean_0 rfl rfl ?_
  refine j_iconst C0 (v := 0) dX6_mean_1 (by decide) ?_
  refine j_iconst C0 (v := 1) dX6_mean_2 (by decide) ?_
  refine j_callSi C0 (c_X6_isIn l z _ _ _ _) yk_X6_isIn w_872 ⟨Nat.le_of_ble_eq_true rfl, Nat.le_of_ble_eq_true rfl⟩ rfl rfl (Nat.le_of_ble_eq_true rfl) dX6_mean_3 ?_
  refine j_if_eq C0 28 dX6_mean_6 (by decide) (fun c_6 => ?_) (fun c_6 => ?_)
  · refine j_ldc2 C0 dX6_mean_28 w_1073 ?_
    exact j_lretP C0 hrt hlk dX6_mean_31
  · refine j_aload_n C0 0 dX6_mean_9 rfl rfl ?_
    refine j_callVi C0 (c_X6_hungerAll l z _ hI) yk_X6_hungerAll w_1065 (fun H locs hP _ => recvW C0 hP 0 (by decide) celM_0 rfl) ⟨Nat.le_of_ble_eq_true rfl, Nat.le_of_ble_eq_true rfl⟩ rfl rfl (Nat.le_of_ble_eq_true rfl) dX6_mean_10 ?_
    refine j_i2l C0 dX6_mean_13 ?_
    refine j_aload_n C0 0 dX6_mean_14 rfl rfl ?_
    refine g_Model_s C0 w_800 dX6_mean_15 ?_
    refine j_iconst C0 (v := 0) dX6_mean_18 (by decide) ?_
    refine a_Ml C0 (by decide) ixl_0 vl57_0 dX6_mean_19 ?_
    refine j_i2l C0 dX6_mean_20 ?_
    refine j_iload_n C0 1 dX6_mean_21 rfl rfl ?_
    refine j_callSl C0 (c_X6_partOf l z _ _ _ _ (by rw [Int32.toInt_toInt64]; exact hh) (by rw [Int32.toInt_toInt64]; exact InM_s0 hI)) yk_X6_partOf w_1074 ⟨Nat.le_of_ble_eq_true rfl, Nat.le_of_ble_eq_true rfl⟩ rfl rfl (Nat.le_of_ble_eq_true rfl) dX6_mean_22 ?_
    refine j_goto C0 31 dX6_mean_25 (by decide) ?_
    exact j_lretP C0 hrt hlk dX6_mean_31
def f_X6_crowd_92 (g : Mem) (p0 p1 p2 p3 : Int32) (K0 : Int64 → Int32 → Int64) (b5 : Int64) (b9 : Int32) : Nat → Int64 → Int32 → Int64
  | 0, _, _ => 0
  | n1 + 1, d10, d12 => if p0 ≤ d12 then (if ((f_X6_bits g b9) / (2 : Int32)) < p2 then (K0 (b5 + (0 : Int64)) (b9 + (1 : Int32))) else (K0 (b5 + d10) (b9 + (1 : Int32)))) else (f_X6_crowd_92 g p0 p1 p2 p3 K0 b5 b9 n1 (d10 * (Int32.toInt64 (p1 - (1 : Int32)))) (d12 + (1 : Int32)))
def f_X6_crowd_74 (g : Mem) (p0 p1 p2 p3 : Int32) (a7 : Int64) : Nat → Int64 → Int32 → Int64
  | 0, _, _ => 0
  | n0s + 1, b5, b9 => if ((1 : Int32) <<< (p0 &&& 31)) ≤ b9 then ((f_X6_partOf g b5 a7 p3)) else (f_X6_crowd_92 g p0 p1 p2 p3 (fun b5' b9' => f_X6_crowd_74 g p0 p1 p2 p3 a7 n0s b5' b9') b5 b9 9 (1 : Int64) (f_X6_bits g b9))
def f_X6_crowd_52 (g : Mem) (p0 p1 p2 p3 : Int32) : Nat → Int64 → Int32 → Int64
  | 0, _, _ => 0
  | n0 + 1, a7, a9 => if p0 ≤ a9 then (f_X6_crowd_74 g p0 p1 p2 p3 a7 257 (0 : Int64) (0 : Int32)) else (f_X6_crowd_52 g p0 p1 p2 p3 n0 (a7 * (Int32.toInt64 p1)) (a9 + (1 : Int32)))
def f_X6_crowd (g : Mem) (p0 p1 p2 p3 : Int32) : Int64 := if (f_X6_isIn p0 (0 : Int32) (8 : Int32)) = 0 then ((1000000001 : Int64)) else (if (f_X6_isIn p1 (2 : Int32) (20 : Int32)) = 0 then ((1000000001 : Int64)) else (if (f_X6_isIn p2 (0 : Int32) (4 : Int32)) = 0 then ((1000000001 : Int64)) else (if (f_X6_isIn p3 (0 : Int32) (1 : Int32)) = 0 then ((1000000001 : Int64)) else (f_X6_crowd_52 g p0 p1 p2 p3 9 (1 : Int64) (0 : Int32)))))
theorem yk_X6_crowd : yokV yX6_crowd RX6 cX6_crowd 13 (some .long) 4 := ⟨w_1072, w_1070, w_1071, w_8, by decide +kernel⟩
set_option maxHeartbeats 4000000 in
set_option maxRecDepth 100000 in
theorem c_X6_crowd (l : Launch) (z : ZM) (g : Mem) (p0 p1 p2 p3 : Int32) : ctM l yX6_crowd cX6_crowd 13 (some .long) 2 53 z g [.ref (yad z 0), .int p0, .int p1, .int p2, .int p3] (qLM z (f_X6_crowd g p0 p1 p2 p3, g)) := by
  refine ct_of (own := RX6) (q := fun r => qLM z (r, g)) (res := f_X6_crowd g p0 p1 p2 p3) (lv := [(0, .ref (yad z 0)), (1, .int p0), (2, .int p1), (3, .int p2), (4, .int p3)]) enokM rfl (by decide) (Nat.le_of_ble_eq_true rfl) rfl (fun p e s m args below meth c C0 hrt hlk => ?_)
  unfold f_X6_crowd
  refine j_iload_n C0 1 dX6_crowd_0 rfl rfl ?_
  refine j_iconst C0 (v := 0) dX6_crowd_1 (by decide) ?_
  refine j_bipush C0 (v := 8) dX6_crowd_2 (by decide) ?_
  refine j_callSi C0 (c_X6_isIn l z _ _ _ _) yk_X6_isIn w_872 ⟨Nat.le_of_ble_eq_true rfl, Nat.le_of_ble_eq_true rfl⟩ rfl rfl (Nat.le_of_ble_eq_true rfl) dX6_crowd_4 ?_
  refine j_if_eq C0 39 dX6_crowd_7 (by decide) (fun c_7 => ?_) (fun c_7 => ?_)
  · refine j_ldc2 C0 dX6_crowd_39 w_1073 ?_
    exact j_lretP C0 hrt hlk dX6_crowd_42
  · refine j_iload_n C0 2 dX6_crowd_10 rfl rfl ?_
    refine j_iconst C0 (v := 2) dX6_crowd_11 (by decide) ?_
    refine j_bipush C0 (v := 20) dX6_crowd_12 (by decide) ?_
    refine j_callSi C0 (c_X6_isIn l z _ _ _ _) yk_X6_isIn w_872 ⟨Nat.le_of_ble_eq_true rfl, Nat.le_of_ble_eq_true rfl⟩ rfl rfl (Nat.le_of_ble_eq_true rfl) dX6_crowd_14 ?_
    refine j_if_eq C0 39 dX6_crowd_17 (by decide) (fun c_17 => ?_) (fun c_17 => ?_)
    · refine j_ldc2 C0 dX6_crowd_39 w_1073 ?_
      exact j_lretP C0 hrt hlk dX6_crowd_42
    · refine j_iload_n C0 3 dX6_crowd_20 rfl rfl ?_
      refine j_iconst C0 (v := 0) dX6_crowd_21 (by decide) ?_
      refine j_iconst C0 (v := 4) dX6_crowd_22 (by decide) ?_
      refine j_callSi C0 (c_X6_isIn l z _ _ _ _) yk_X6_isIn w_872 ⟨Nat.le_of_ble_eq_true rfl, Nat.le_of_ble_eq_true rfl⟩ rfl rfl (Nat.le_of_ble_eq_true rfl) dX6_crowd_23 ?_
      refine j_if_eq C0 39 dX6_crowd_26 (by decide) (fun c_26 => ?_) (fun c_26 => ?_)
      · refine j_ldc2 C0 dX6_crowd_39 w_1073 ?_
        exact j_lretP C0 hrt hlk dX6_crowd_42
      · refine j_iload C0 4 dX6_crowd_29 rfl ?_
        refine j_iconst C0 (v := 0) dX6_crowd_31 (by decide) ?_
        refine j_iconst C0 (v := 1) dX6_crowd_32 (by decide) ?_
        refine j_callSi C0 (c_X6_isIn l z _ _ _ _) yk_X6_isIn w_872 ⟨Nat.le_of_ble_eq_true rfl, Nat.le_of_ble_eq_true rfl⟩ rfl rfl (Nat.le_of_ble_eq_true rfl) dX6_crowd_33 ?_
        refine j_if_ne C0 43 dX6_crowd_36 (by decide) (fun c_36 => ?_) (fun c_36 => ?_)
        · refine j_ldc2 C0 dX6_crowd_39 w_1073 ?_
          exact j_lretP C0 hrt hlk dX6_crowd_42
        · refine j_lconst C0 (v := 0) dX6_crowd_43 (by decide) ?_
          refine j_lstore C0 (lv' := [(5, _), (0, _), (1, _), (2, _), (3, _), (4, _)]) dX6_crowd_44 (by decide) rfl ?_
          refine j_lconst C0 (v := 1) dX6_crowd_46 (by decide) ?_
          refine j_lstore C0 (lv' := [(7, _), (5, _), (0, _), (1, _), (2, _), (3, _), (4, _)]) dX6_crowd_47 (by decide) rfl ?_
          refine j_iconst C0 (v := 0) dX6_crowd_49 (by decide) ?_
          refine j_istore C0 (lv' := [(9, _), (7, _), (5, _), (0, _), (1, _), (2, _), (3, _), (4, _)]) dX6_crowd_50 (by decide) rfl ?_
          have L52 : ∀ (n0 : Nat) (a7 : Int64) (a9 : Int32), lc a9 p0 n0 → (0 ≤ a7.toInt ∧ a7.toInt ≤ 32 ^ a9.toInt.toNat) → jj p l e { frames := 2, cells := 0, slots := 0, locals := 53 } s m args below meth c (yA z) (yD z) 14 (yad z) (celM z) 13 (fun r => MQ below (qLM z (r, g)) args s 0 0 (yA z)) (f_X6_crowd_52 g p0 p1 p2 p3 n0 a7 a9) g 52 [(0, .ref (yad z 0)), (1, .int p0), (2, .int p1), (3, .int p2), (4, .int p3), (5, .long (0 : Int64)), (7, .long a7), (9, .int a9)] [] := by
            intro n0
            induction n0 with
            | zero => intro a7 a9 hL0 hP; exact absurd hL0.2 (Nat.not_lt_zero _)
            | succ n0 ih0 =>
              intro a7 a9 hL0 hP
              rw [f_X6_crowd_52]
              refine j_iload C0 7 dX6_crowd_52 rfl ?_
              refine j_iload_n C0 1 dX6_crowd_54 rfl rfl ?_
              refine j_icmp_ge C0 71 dX6_crowd_55 (by decide) (fun c_55 => ?_) (fun c_55 => ?_)
              · refine j_iconst C0 (v := 0) dX6_crowd_71 (by decide) ?_
                refine j_istore C0 (lv' := [(9, _), (0, _), (1, _), (2, _), (3, _), (4, _), (5, _), (7, _)]) dX6_crowd_72 (by decide) rfl ?_
                have L74 : ∀ (n0s : Nat) (b5 : Int64) (b9 : Int32), lc b9 (1 <<< (p0 &&& 31)) n0s → (0 ≤ b5.toInt ∧ b5.toInt ≤ b9.toInt * 2 ^ 50) → jj p l e { frames := 2, cells := 0, slots := 0, locals := 53 } s m args below meth c (yA z) (yD z) 14 (yad z) (celM z) 13 (fun r => MQ below (qLM z (r, g)) args s 0 0 (yA z)) (f_X6_crowd_74 g p0 p1 p2 p3 a7 n0s b5 b9) g 74 [(0, .ref (yad z 0)), (1, .int p0), (2, .int p1), (3, .int p2), (4, .int p3), (5, .long b5), (7, .long a7), (9, .int b9)] [] := by
                  intro n0s
                  induction n0s with
                  | zero => intro b5 b9 hL1 hB; exact absurd hL1.2 (Nat.not_lt_zero _)
                  | succ n0s ih0s =>
                    intro b5 b9 hL1 hB
                    rw [f_X6_crowd_74]
                    refine j_iload C0 7 dX6_crowd_74 rfl ?_
                    refine j_iconst C0 (v := 1) dX6_crowd_76 (by decide) ?_
                    refine j_iload_n C0 1 dX6_crowd_77 rfl rfl ?_
                    refine j_ishl C0 dX6_crowd_78 ?_
                    refine j_icmp_ge C0 141 dX6_crowd_79 (by decide) (fun c_79 => ?_) (fun c_79 => ?_)
                    · refine j_lload C0 5 dX6_crowd_141 rfl ?_
                      refine j_lload C0 6 dX6_crowd_143 rfl ?_
                      refine j_iload C0 4 dX6_crowd_145 rfl ?_
                      refine j_callSl C0 (c_X6_partOf l z _ _ _ _ hB.1 hP.1) yk_X6_partOf w_1074 ⟨Nat.le_of_ble_eq_true rfl, Nat.le_of_ble_eq_true rfl⟩ rfl rfl (Nat.le_of_ble_eq_true rfl) dX6_crowd_147 ?_
                      exact j_lretP C0 hrt hlk dX6_crowd_150
                    · refine j_lconst C0 (v := 1) dX6_crowd_82 (by decide) ?_
                      refine j_lstore C0 (lv' := [(10, _), (0, _), (1, _), (2, _), (3, _), (4, _), (5, _), (7, _), (9, _)]) dX6_crowd_83 (by decide) rfl ?_
                      refine j_iload C0 8 dX6_crowd_85 rfl ?_
                      refine j_callSi C0 (c_X6_bits l z _ _) yk_X6_bits w_1050 ⟨Nat.le_of_ble_eq_true rfl, Nat.le_of_ble_eq_true rfl⟩ rfl rfl (Nat.le_of_ble_eq_true rfl) dX6_crowd_87 ?_
                      refine j_istore C0 (lv' := [(12, _), (10, _), (0, _), (1, _), (2, _), (3, _), (4, _), (5, _), (7, _), (9, _)]) dX6_crowd_90 (by decide) rfl ?_
                      have L92 : ∀ (n1 : Nat) (d10 : Int64) (d12 : Int32), lc d12 p0 n1 → (0 ≤ d10.toInt ∧ d10.toInt ≤ 32 ^ d12.toInt.toNat) → d12.toInt ≤ 10 → jj p l e { frames := 2, cells := 0, slots := 0, locals := 53 } s m args below meth c (yA z) (yD z) 14 (yad z) (celM z) 13 (fun r => MQ below (qLM z (r, g)) args s 0 0 (yA z)) (f_X6_crowd_92 g p0 p1 p2 p3 (fun b5' b9' => f_X6_crowd_74 g p0 p1 p2 p3 a7 n0s b5' b9') b5 b9 n1 d10 d12) g 92 [(0, .ref (yad z 0)), (1, .int p0), (2, .int p1), (3, .int p2), (4, .int p3), (5, .long b5), (7, .long a7), (9, .int b9), (10, .long d10), (12, .int d12)] [] := by
                        intro n1
                        induction n1 with
                        | zero => intro d10 d12 hL2 hW hd; exact absurd hL2.2 (Nat.not_lt_zero _)
                        | succ n1 ih1 =>
                          intro d10 d12 hL2 hW hd
                          rw [f_X6_crowd_92]
                          refine j_iload C0 9 dX6_crowd_92 rfl ?_
                          refine j_iload_n C0 1 dX6_crowd_94 rfl rfl ?_
                          refine j_icmp_ge C0 113 dX6_crowd_95 (by decide) (fun c_95 => ?_) (fun c_95 => ?_)
                          · refine j_lload C0 5 dX6_crowd_113 rfl ?_
                            refine j_iload C0 7 dX6_crowd_115 rfl ?_
                            refine j_callSi C0 (c_X6_bits l z _ _) yk_X6_bits w_1050 ⟨Nat.le_of_ble_eq_true rfl, Nat.le_of_ble_eq_true rfl⟩ rfl rfl (Nat.le_of_ble_eq_true rfl) dX6_crowd_117 ?_
                            refine j_iconst C0 (v := 2) dX6_crowd_120 (by decide) ?_
                            refine j_idiv C0 dX6_crowd_121 (by decide) ?_
                            refine j_iload_n C0 3 dX6_crowd_122 rfl rfl ?_
                            refine j_icmp_lt C0 131 dX6_crowd_123 (by decide) (fun c_123 => ?_) (fun c_123 => ?_)
                            · refine j_lconst C0 (v := 0) dX6_crowd_131 (by decide) ?_
                              refine j_ladd C0 dX6_crowd_132 ?_
                              refine j_lstore C0 (lv' := [(5, _), (0, _), (1, _), (2, _), (3, _), (4, _), (7, _), (9, _), (10, _), (12, _)]) dX6_crowd_133 (by decide) rfl ?_
                              refine j_iinc C0 (lv' := [(9, _), (5, _), (0, _), (1, _), (2, _), (3, _), (4, _), (7, _), (10, _), (12, _)]) (v := _ + (1)) 7 dX6_crowd_135 rfl (by rfl) (by decide) rfl ?_
                              refine j_goto C0 74 dX6_crowd_138 (by decide) ?_
                              exact j_sub [2, 3, 4, 5, 6, 1, 7, 0] rfl (ih0s _ _ (lc_stepN hL1 c_79) (by first | exact cw_add hB hL1 c_79 (crowd_sh (isIn_in c_7)) hW hd | exact cw_add0 hB hL1 c_79 (crowd_sh (isIn_in c_7))))
                            · refine j_lload C0 8 dX6_crowd_126 rfl ?_
                              refine j_goto C0 132 dX6_crowd_128 (by decide) ?_
                              refine j_ladd C0 dX6_crowd_132 ?_
                              refine j_lstore C0 (lv' := [(5, _), (0, _), (1, _), (2, _), (3, _), (4, _), (7, _), (9, _), (10, _), (12, _)]) dX6_crowd_133 (by decide) rfl ?_
                              refine j_iinc C0 (lv' := [(9, _), (5, _), (0, _), (1, _), (2, _), (3, _), (4, _), (7, _), (10, _), (12, _)]) (v := _ + (1)) 7 dX6_crowd_135 rfl (by rfl) (by decide) rfl ?_
                              refine j_goto C0 74 dX6_crowd_138 (by decide) ?_
                              exact j_sub [2, 3, 4, 5, 6, 1, 7, 0] rfl (ih0s _ _ (lc_stepN hL1 c_79) (by first | exact cw_add hB hL1 c_79 (crowd_sh (isIn_in c_7)) hW hd | exact cw_add0 hB hL1 c_79 (crowd_sh (isIn_in c_7))))
                          · refine j_lload C0 8 dX6_crowd_98 rfl ?_
                            refine j_iload_n C0 2 dX6_crowd_100 rfl rfl ?_
                            refine j_iconst C0 (v := 1) dX6_crowd_101 (by decide) ?_
                            refine j_isub C0 dX6_crowd_102 ?_
                            refine j_i2l C0 dX6_crowd_103 ?_
                            refine j_lmul C0 dX6_crowd_104 ?_
                            refine j_lstore C0 (lv' := [(10, _), (0, _), (1, _), (2, _), (3, _), (4, _), (5, _), (7, _), (9, _), (12, _)]) dX6_crowd_105 (by decide) rfl ?_
                            refine j_iinc C0 (lv' := [(12, _), (10, _), (0, _), (1, _), (2, _), (3, _), (4, _), (5, _), (7, _), (9, _)]) (v := _ + (1)) 9 dX6_crowd_107 rfl (by rfl) (by decide) rfl ?_
                            refine j_goto C0 92 dX6_crowd_110 (by decide) ?_
                            exact j_sub [2, 3, 4, 5, 6, 7, 8, 9, 1, 0] rfl (ih1 _ _ (lc_stepN hL2 c_95) (pw_stepM hW hL2 c_95 (isIn_in c_7).2 (isIn_in c_17)) (d12_step hL2 c_95 (isIn_in c_7).2))
                      exact j_sub [2, 3, 4, 5, 6, 7, 8, 9, 1, 0] rfl (L92 9 _ _ (lc_from (bits_r _).1 (by have := (isIn_in c_7).2; have e8 : (8 : Int32).toInt = 8 := rfl; have := (bits_r (g := g) b9).1; omega) (by decide)) (one_le32 _) (bits_r _).2)
                exact j_sub [1, 2, 3, 4, 5, 6, 7, 0] rfl (L74 257 _ _ (lc_0 (crowd_sh (isIn_in c_7)) (by decide)) (by decide))
              · refine j_lload C0 6 dX6_crowd_58 rfl ?_
                refine j_iload_n C0 2 dX6_crowd_60 rfl rfl ?_
                refine j_i2l C0 dX6_crowd_61 ?_
                refine j_lmul C0 dX6_crowd_62 ?_
                refine j_lstore C0 (lv' := [(7, _), (0, _), (1, _), (2, _), (3, _), (4, _), (5, _), (9, _)]) dX6_crowd_63 (by decide) rfl ?_
                refine j_iinc C0 (lv' := [(9, _), (7, _), (0, _), (1, _), (2, _), (3, _), (4, _), (5, _)]) (v := _ + (1)) 7 dX6_crowd_65 rfl (by rfl) (by decide) rfl ?_
                refine j_goto C0 52 dX6_crowd_68 (by decide) ?_
                exact j_sub [2, 3, 4, 5, 6, 7, 1, 0] rfl (ih0 _ _ (lc_stepN hL0 c_55) (pw_step hP hL0 c_55 (isIn_in c_7).2 (isIn_in c_17)))
          exact j_sub [3, 4, 5, 6, 7, 2, 1, 0] rfl (L52 9 _ _ (lc_0 (by have := (isIn_in c_7).2; have e8 : (8 : Int32).toInt = 8 := rfl; omega) (by decide)) (by decide))
