def f_X6_bestIn_17 (g : Mem) (k : Nat) (K0 : Int32 → Int32 → Int32 → Int32) (a1 : Int32) (a2 : Int32) (a3 : Int32) : Nat → Int32 → Int32 → Int32 → Int32
  | 0, _, _, _ => 0
  | n1 + 1, b1, b2, b4 => if (g k 0) ≤ b4 then (K0 b1 b2 (a3 + (1 : Int32))) else (if (f_X6_canEat g k a3 b4) = 0 then (f_X6_bestIn_17 g k K0 a1 a2 a3 n1 b1 b2 (b4 + (1 : Int32))) else (if b2 < (f_X6_joysOf g k a3 b4) then (f_X6_bestIn_17 g k K0 a1 a2 a3 n1 (((10 : Int32) * a3) + b4) (f_X6_joysOf g k a3 b4) (b4 + (1 : Int32))) else (f_X6_bestIn_17 g k K0 a1 a2 a3 n1 b1 b2 (b4 + (1 : Int32)))))
def f_X6_bestIn_7 (g : Mem) (k : Nat) : Nat → Int32 → Int32 → Int32 → Int32
  | 0, _, _, _ => 0
  | n0 + 1, a1, a2, a3 => if (g k 0) ≤ a3 then (a1) else (f_X6_bestIn_17 g k (fun a1' a2' a3' => f_X6_bestIn_7 g k n0 a1' a2' a3') a1 a2 a3 10 a1 a2 (0 : Int32))
def f_X6_bestIn (g : Mem) (k : Nat) : Int32 := f_X6_bestIn_7 g k 10 (-4 : Int32) (-1 : Int32) (0 : Int32)
theorem yk_X6_bestIn : yokS yX6_bestIn RX6 cX6_bestIn 5 (some .int) 1 := ⟨w_982, w_981, w_8, by decide +kernel⟩
set_option maxHeartbeats 4000000 in
set_option maxRecDepth 100000 in
theorem c_X6_bestIn (l : Launch) (z : ZM) (g : Mem) (k : Nat) (hk : rw4 k) (hm : (g k 0).toInt ≤ 9) : ctM l yX6_bestIn cX6_bestIn 5 (some .int) 4 86 z g [.ref (yad z k)] (qIM z (f_X6_bestIn g k, g)) := by
  refine ct_of (own := RX6) (q := fun r => qIM z (r, g)) (res := f_X6_bestIn g k) (lv := [(0, .ref (yad z k))]) enokM rfl (by decide) (Nat.le_of_ble_eq_true rfl) rfl (fun p e s m args below meth c C0 hrt hlk => ?_)
  unfold f_X6_bestIn
  refine j_bipush C0 (v := (-4)) dX6_bestIn_0 (by decide) ?_
  refine j_istore_n C0 (lv' := [(1, _), (0, _)]) dX6_bestIn_2 rfl (by decide) rfl ?_
  refine j_iconst C0 (v := (-1)) dX6_bestIn_3 (by decide) ?_
  refine j_istore_n C0 (lv' := [(2, _), (1, _), (0, _)]) dX6_bestIn_4 rfl (by decide) rfl ?_
  refine j_iconst C0 (v := 0) dX6_bestIn_5 (by decide) ?_
  refine j_istore_n C0 (lv' := [(3, _), (2, _), (1, _), (0, _)]) dX6_bestIn_6 rfl (by decide) rfl ?_
  have L7 : ∀ (n0 : Nat) (a1 : Int32) (a2 : Int32) (a3 : Int32), lc a3 (g k 0) n0 → jj p l e { frames := 4, cells := 0, slots := 0, locals := 86 } s m args below meth c (yA z) (yD z) 14 (yad z) (celM z) 5 (fun r => MQ below (qIM z (r, g)) args s 0 0 (yA z)) (f_X6_bestIn_7 g k n0 a1 a2 a3) g 7 [(0, .ref (yad z k)), (1, .int a1), (2, .int a2), (3, .int a3)] [] := by
    intro n0
    induction n0 with
    | zero => intro a1 a2 a3 hL0; exact absurd hL0.2 (Nat.not_lt_zero _)
    | succ n0 ih0 =>
      intro a1 a2 a3 hL0
      rw [f_X6_bestIn_7]
      refine j_iload_n C0 3 dX6_bestIn_7 rfl rfl ?_
      refine j_aload_n C0 0 dX6_bestIn_8 rfl rfl ?_
      refine j_iconst C0 (v := 0) dX6_bestIn_9 (by decide) ?_
      refine a_Ml C0 (rw4_14 hk) ixl_0 (vin4 hk vl57_0) dX6_bestIn_10 ?_
      refine j_icmp_ge C0 77 dX6_bestIn_11 (by decide) (fun c_11 => ?_) (fun c_11 => ?_)
      · refine j_iload_n C0 1 dX6_bestIn_77 rfl rfl ?_
        exact j_iretP C0 hrt hlk dX6_bestIn_78
      · have hv_a3 : vp_in a3 9 := vin_lc hL0 c_11 hm
        refine j_iconst C0 (v := 0) dX6_bestIn_14 (by decide) ?_
        refine j_istore C0 (lv' := [(4, _), (0, _), (1, _), (2, _), (3, _)]) dX6_bestIn_15 (by decide) rfl ?_
        have L17 : ∀ (n1 : Nat) (b1 : Int32) (b2 : Int32) (b4 : Int32), lc b4 (g k 0) n1 → jj p l e { frames := 4, cells := 0, slots := 0, locals := 86 } s m args below meth c (yA z) (yD z) 14 (yad z) (celM z) 5 (fun r => MQ below (qIM z (r, g)) args s 0 0 (yA z)) (f_X6_bestIn_17 g k (fun a1' a2' a3' => f_X6_bestIn_7 g k n0 a1' a2' a3') a1 a2 a3 n1 b1 b2 b4) g 17 [(0, .ref (yad z k)), (1, .int b1), (2, .int b2), (3, .int a3), (4, .int b4)] [] := by
          intro n1
          induction n1 with
          | zero => intro b1 b2 b4 hL1; exact absurd hL1.2 (Nat.not_lt_zero _)
          | succ n1 ih1 =>
            intro b1 b2 b4 hL1
            rw [f_X6_bestIn_17]
            refine j_iload C0 4 dX6_bestIn_17 rfl ?_
            refine j_aload_n C0 0 dX6_bestIn_19 rfl rfl ?_
            refine j_iconst C0 (v := 0) dX6_bestIn_20 (by decide) ?_
            refine a_Ml C0 (rw4_14 hk) ixl_0 (vin4 hk vl57_0) dX6_bestIn_21 ?_
            refine j_icmp_ge C0 71 dX6_bestIn_22 (by decide) (fun c_22 => ?_) (fun c_22 => ?_)
            · refine j_iinc C0 (lv' := [(3, _), (0, _), (1, _), (2, _), (4, _)]) (v := _ + (1)) 3 dX6_bestIn_71 rfl (by rfl) (by decide) rfl ?_
              refine j_goto C0 7 dX6_bestIn_74 (by decide) ?_
              exact j_sub [1, 2, 3, 0] rfl (ih0 _ _ _ (lc_stepN hL0 c_11))
            · have hv_b4 : vp_in b4 9 := vin_lc hL1 c_22 hm
              refine j_aload_n C0 0 dX6_bestIn_25 rfl rfl ?_
              refine j_iload_n C0 3 dX6_bestIn_26 rfl rfl ?_
              refine j_iload C0 4 dX6_bestIn_27 rfl ?_
              refine j_callSi C0 (c_X6_canEat l z _ k hk _ _ hv_a3 hv_b4) yk_X6_canEat w_904 ⟨Nat.le_of_ble_eq_true rfl, Nat.le_of_ble_eq_true rfl⟩ rfl rfl (Nat.le_of_ble_eq_true rfl) dX6_bestIn_29 ?_
              refine j_if_eq C0 65 dX6_bestIn_32 (by decide) (fun c_32 => ?_) (fun c_32 => ?_)
              · refine j_iinc C0 (lv' := [(4, _), (0, _), (1, _), (2, _), (3, _)]) (v := _ + (1)) 4 dX6_bestIn_65 rfl (by rfl) (by decide) rfl ?_
                refine j_goto C0 17 dX6_bestIn_68 (by decide) ?_
                exact j_sub [1, 2, 3, 4, 0] rfl (ih1 _ _ _ (lc_stepN hL1 c_22))
              · refine j_aload_n C0 0 dX6_bestIn_35 rfl rfl ?_
                refine j_iload_n C0 3 dX6_bestIn_36 rfl rfl ?_
                refine j_iload C0 4 dX6_bestIn_37 rfl ?_
                refine j_callSi C0 (c_X6_joysOf l z _ k hk _ _ hv_a3 hv_b4) yk_X6_joysOf w_913 ⟨Nat.le_of_ble_eq_true rfl, Nat.le_of_ble_eq_true rfl⟩ rfl rfl (Nat.le_of_ble_eq_true rfl) dX6_bestIn_39 ?_
                refine j_iload_n C0 2 dX6_bestIn_42 rfl rfl ?_
                refine j_icmp_gt C0 49 dX6_bestIn_43 (by decide) (fun c_43 => ?_) (fun c_43 => ?_)
                · refine j_bipush C0 (v := 10) dX6_bestIn_49 (by decide) ?_
                  refine j_iload_n C0 3 dX6_bestIn_51 rfl rfl ?_
                  refine j_imul C0 dX6_bestIn_52 ?_
                  refine j_iload C0 4 dX6_bestIn_53 rfl ?_
                  refine j_iadd C0 dX6_bestIn_55 ?_
                  refine j_istore_n C0 (lv' := [(1, _), (0, _), (2, _), (3, _), (4, _)]) dX6_bestIn_56 rfl (by decide) rfl ?_
                  refine j_aload_n C0 1 dX6_bestIn_57 rfl rfl ?_
                  refine j_iload_n C0 3 dX6_bestIn_58 rfl rfl ?_
                  refine j_iload C0 4 dX6_bestIn_59 rfl ?_
                  refine j_callSi C0 (c_X6_joysOf l z _ k hk _ _ hv_a3 hv_b4) yk_X6_joysOf w_913 ⟨Nat.le_of_ble_eq_true rfl, Nat.le_of_ble_eq_true rfl⟩ rfl rfl (Nat.le_of_ble_eq_true rfl) dX6_bestIn_61 ?_
                  refine j_istore_n C0 (lv' := [(2, _), (1, _), (0, _), (3, _), (4, _)]) dX6_bestIn_64 rfl (by decide) rfl ?_
                  refine j_iinc C0 (lv' := [(4, _), (2, _), (1, _), (0, _), (3, _)]) (v := _ + (1)) 4 dX6_bestIn_65 rfl (by rfl) (by decide) rfl ?_
                  refine j_goto C0 17 dX6_bestIn_68 (by decide) ?_
                  exact j_sub [3, 2, 1, 4, 0] rfl (ih1 _ _ _ (lc_stepN hL1 c_22))
                · refine j_goto C0 65 dX6_bestIn_46 (by decide) ?_
                  refine j_iinc C0 (lv' := [(4, _), (0, _), (1, _), (2, _), (3, _)]) (v := _ + (1)) 4 dX6_bestIn_65 rfl (by rfl) (by decide) rfl ?_
                  refine j_goto C0 17 dX6_bestIn_68 (by decide) ?_
                  exact j_sub [1, 2, 3, 4, 0] rfl (ih1 _ _ _ (lc_stepN hL1 c_22))
        exact j_sub [1, 2, 3, 4, 0] rfl (L17 10 _ _ _ (lc_0 (by have := hm; omega) (by decide)))
  exact j_sub [3, 2, 1, 0] rfl (L7 10 _ _ _ (lc_0 (by have := hm; omega) (by decide)))
theorem vin_of10' {x p l : Int32} (hp : vp_in p 9) (hl : vp_in l 9) (h : x = 10 * p + l) : vp_in (x / 10) 9 ∧ vp_in (x - x / 10 * 10) 9 := by
  have h1 := vp_in_iff.mp hp
  have h2 := vp_in_iff.mp hl
  have e10 : (10 : Int32).toInt = 10 := rfl
  have h3 : (10 * p).toInt = 10 * p.toInt := by rw [mul_toInt (by omega) (by omega) (by omega) (by omega), e10]
  have h4 : x.toInt = 10 * p.toInt + l.toInt := by rw [h, add_toInt (by omega) (by omega) (by omega) (by omega), h3]
  refine ⟨vp_in_iff.mpr ?_, vp_in_iff.mpr ?_⟩
  · rw [div_toInt (by omega) (by omega), e10]; omega
  · rw [mod_toInt (by omega) (by omega), e10]; omega
abbrev okb (x : Int32) : Prop := x < 0 ∨ ∃ p l : Int32, vp_in p 9 ∧ vp_in l 9 ∧ x = 10 * p + l
theorem bestIn_L1 {g : Mem} {k : Nat} (hm : (g k 0).toInt ≤ 9) {K : Int32 → Int32 → Int32 → Int32} {a1 a2 a3 : Int32} (ha : vp_in a3 9) (hK : ∀ x y, okb x → okb (K x y (a3 + 1))) : ∀ (n : Nat) (b1 b2 b4 : Int32), lc b4 (g k 0) n → okb b1 → okb (f_X6_bestIn_17 g k K a1 a2 a3 n b1 b2 b4) := by
  intro n
  induction n with
  | zero => intro b1 b2 b4 hL; exact absurd hL.2 (Nat.not_lt_zero _)
  | succ n ih =>
    intro b1 b2 b4 hL h
    rw [f_X6_bestIn_17]
    split
    · exact hK _ _ h
    · have c := (by assumption : ¬ g k 0 ≤ b4)
      split
      · exact ih _ _ _ (lc_stepN hL c) h
      · split
        · exact ih _ _ _ (lc_stepN hL c) (Or.inr ⟨a3, b4, ha, vin_lc hL c hm, rfl⟩)
        · exact ih _ _ _ (lc_stepN hL c) h
theorem bestIn_L0 {g : Mem} {k : Nat} (hm : (g k 0).toInt ≤ 9) : ∀ (n : Nat) (a1 a2 a3 : Int32), 0 ≤ a3.toInt → okb a1 → okb (f_X6_bestIn_7 g k n a1 a2 a3) := by
  intro n
  induction n with
  | zero => intro a1 a2 a3 hL h; exact Or.inr ⟨0, 0, vl9_0, vl9_0, rfl⟩
  | succ n ih =>
    intro a1 a2 a3 hL h
    rw [f_X6_bestIn_7]
    split
    · exact h
    · have c := (by assumption : ¬ g k 0 ≤ a3)
      have c2 : a3.toInt < (g k 0).toInt := by
        have : ¬ (g k 0).toInt ≤ a3.toInt := fun q => c (Int32.le_iff_toInt_le.mpr q)
        omega
      have e := inc_toInt hL c2
      exact bestIn_L1 hm (vin_of hL (by omega)) (fun x y hx => ih _ _ _ (by omega) hx) 10 _ _ 0 (lc_0 (by omega) (by decide)) h
theorem bestIn_in {g : Mem} {k : Nat} (hm : (g k 0).toInt ≤ 9) {x : Int32} (hx : x = f_X6_bestIn g k) (c : ¬ x < 0) : vp_in (x / 10) 9 ∧ vp_in (x - x / 10 * 10) 9 := by
  rw [hx] at c
  obtain ⟨p, l, hp, hl, h⟩ := (bestIn_L0 hm 10 (-4) (-1) 0 (by decide) (Or.inl (by decide)) : okb (f_X6_bestIn g k)).resolve_left c
  exact vin_of10' hp hl (hx.trans h)

def f_X6_bestJoys (g : Mem) (k : Nat) : Int32 := if 0 ≤ (f_X6_bestIn g k) then ((f_X6_joysOf g k ((f_X6_bestIn g k) / (10 : Int32)) ((f_X6_bestIn g k) - (f_X6_bestIn g k) / (10 : Int32) * (10 : Int32)))) else ((0 : Int32))
theorem yk_X6_bestJoys : yokS yX6_bestJoys RX6 cX6_bestJoys 2 (some .int) 1 := ⟨w_985, w_984, w_8, by decide +kernel⟩
set_option maxHeartbeats 4000000 in
set_option maxRecDepth 100000 in
theorem c_X6_bestJoys (l : Launch) (z : ZM) (g : Mem) (k : Nat) (hk : rw4 k) (hm : (g k 0).toInt ≤ 9) : ctM l yX6_bestJoys cX6_bestJoys 2 (some .int) 5 110 z g [.ref (yad z k)] (qIM z (f_X6_bestJoys g k, g)) := by
  refine ct_of (own := RX6) (q := fun r => qIM z (r, g)) (res := f_X6_bestJoys g k) (lv := [(0, .ref (yad z k))]) enokM rfl (by decide) (Nat.le_of_ble_eq_true rfl) rfl (fun p e s m args below meth c C0 hrt hlk => ?_)
  unfold f_X6_bestJoys
  refine j_aload_n C0 0 dX6_bestJoys_0 rfl rfl ?_
  refine j_callSi C0 (c_X6_bestIn l z _ k hk  hm) yk_X6_bestIn w_980 ⟨Nat.le_of_ble_eq_true rfl, Nat.le_of_ble_eq_true rfl⟩ rfl rfl (Nat.le_of_ble_eq_true rfl) dX6_bestJoys_1 ?_
  refine j_istore_n C0 (lv' := [(1, _), (0, _)]) dX6_bestJoys_4 rfl (by decide) rfl ?_
  refine j_iload_n C0 0 dX6_bestJoys_5 rfl rfl ?_
  refine j_if_ge C0 13 dX6_bestJoys_6 (by decide) (fun c_6 => ?_) (fun c_6 => ?_)
  · have hbt := bestIn_in hm (x := _) rfl (nlt_of c_6)
    refine j_aload_n C0 1 dX6_bestJoys_13 rfl rfl ?_
    refine j_iload_n C0 0 dX6_bestJoys_14 rfl rfl ?_
    refine j_bipush C0 (v := 10) dX6_bestJoys_15 (by decide) ?_
    refine j_idiv C0 dX6_bestJoys_17 (by decide) ?_
    refine j_iload_n C0 0 dX6_bestJoys_18 rfl rfl ?_
    refine j_bipush C0 (v := 10) dX6_bestJoys_19 (by decide) ?_
    refine j_irem C0 dX6_bestJoys_21 (by decide) ?_
    refine j_callSi C0 (c_X6_joysOf l z _ k hk _ _ hbt.1 hbt.2) yk_X6_joysOf w_913 ⟨Nat.le_of_ble_eq_true rfl, Nat.le_of_ble_eq_true rfl⟩ rfl rfl (Nat.le_of_ble_eq_true rfl) dX6_bestJoys_22 ?_
    exact j_iretP C0 hrt hlk dX6_bestJoys_25
  · refine j_iconst C0 (v := 0) dX6_bestJoys_9 (by decide) ?_
    refine j_goto C0 25 dX6_bestJoys_10 (by decide) ?_
    exact j_iretP C0 hrt hlk dX6_bestJoys_25
def f_X6_adds_m1 (g : Mem) (k : Nat) (p1 p2 p3 p4 : Int32) : Mem := up g k (ix (f_X6_of (g k 0) (0 : Int32))) p1
def f_X6_adds_m2 (g : Mem) (k : Nat) (p1 p2 p3 p4 : Int32) : Mem := up (f_X6_adds_m1 g k p1 p2 p3 p4) k (ix (f_X6_of (g k 0) (1 : Int32))) p2
def f_X6_adds_m3 (g : Mem) (k : Nat) (p1 p2 p3 p4 : Int32) : Mem := up (f_X6_adds_m2 g k p1 p2 p3 p4) k (ix (f_X6_of (g k 0) (2 : Int32))) p3
def f_X6_adds_m4 (g : Mem) (k : Nat) (p1 p2 p3 p4 : Int32) : Mem := up (f_X6_adds_m3 g k p1 p2 p3 p4) k (ix (f_X6_of (g k 0) (3 : Int32))) p4
def f_X6_adds_m5 (g : Mem) (k : Nat) (p1 p2 p3 p4 : Int32) : Mem := up (f_X6_adds_m4 g k p1 p2 p3 p4) k (ix (f_X6_of (g k 0) (4 : Int32))) (0 : Int32)
def f_X6_adds_m6 (g : Mem) (k : Nat) (p1 p2 p3 p4 : Int32) : Mem := up (f_X6_adds_m5 g k p1 p2 p3 p4) k (ix (f_X6_of (g k 0) (5 : Int32))) (0 : Int32)
def f_X6_adds_m7 (g : Mem) (k : Nat) (p1 p2 p3 p4 : Int32) : Mem := up (f_X6_adds_m6 g k p1 p2 p3 p4) k 0 (((f_X6_adds_m6 g k p1 p2 p3 p4) k 0) + (1 : Int32))
def f_X6_adds (g : Mem) (k : Nat) (p1 p2 p3 p4 : Int32) : Mem := (f_X6_adds_m7 g k p1 p2 p3 p4)
theorem yk_X6_adds : yokS yX6_adds RX6 cX6_adds 6 none 5 := ⟨w_896, w_895, w_8, by decide +kernel⟩
set_option maxHeartbeats 4000000 in
set_option maxRecDepth 100000 in
theorem c_X6_adds (l : Launch) (z : ZM) (g : Mem) (k : Nat) (hk : rw4 k) (p1 p2 p3 p4 : Int32) (hm : vp_in (g k 0) 9) : ctM l yX6_adds cX6_adds 6 none 1 21 z g [.ref (yad z k), .int p1, .int p2, .int p3, .int p4] (qVM z (f_X6_adds g k p1 p2 p3 p4)) := by
  refine ct_of (own := RX6) (q := fun r => qVM z r) (res := f_X6_adds g k p1 p2 p3 p4) (lv := [(0, .ref (yad z k)), (1, .int p1), (2, .int p2), (3, .int p3), (4, .int p4)]) enokM rfl (by decide) (Nat.le_of_ble_eq_true rfl) rfl (fun p e s m args below meth c C0 hrt hlk => ?_)
  unfold f_X6_adds
  refine j_aload_n C0 0 dX6_adds_0 rfl rfl ?_
  refine j_iconst C0 (v := 0) dX6_adds_1 (by decide) ?_
  refine a_Ml C0 (rw4_14 hk) ixl_0 (vin4 hk vl57_0) dX6_adds_2 ?_
  refine j_istore C0 (lv' := [(5, _), (0, _), (1, _), (2, _), (3, _), (4, _)]) dX6_adds_3 (by decide) rfl ?_
  refine j_aload_n C0 1 dX6_adds_5 rfl rfl ?_
  refine j_iload C0 0 dX6_adds_6 rfl ?_
  refine j_iconst C0 (v := 0) dX6_adds_8 (by decide) ?_
  refine j_callSi C0 (c_X6_of l z _ _ _) yk_X6_of w_897 ⟨Nat.le_of_ble_eq_true rfl, Nat.le_of_ble_eq_true rfl⟩ rfl rfl (Nat.le_of_ble_eq_true rfl) dX6_adds_9 ?_
  refine j_iload_n C0 2 dX6_adds_12 rfl rfl ?_
  refine s_M C0 (rw4_14 hk) (vin4 hk (of_in0 hm)) dX6_adds_13 ?_
  refine j_aload_n C0 1 dX6_adds_14 rfl rfl ?_
  refine j_iload C0 0 dX6_adds_15 rfl ?_
  refine j_iconst C0 (v := 1) dX6_adds_17 (by decide) ?_
  refine j_callSi C0 (c_X6_of l z _ _ _) yk_X6_of w_897 ⟨Nat.le_of_ble_eq_true rfl, Nat.le_of_ble_eq_true rfl⟩ rfl rfl (Nat.le_of_ble_eq_true rfl) dX6_adds_18 ?_
  refine j_iload_n C0 3 dX6_adds_21 rfl rfl ?_
  refine s_M C0 (rw4_14 hk) (vin4 hk (of_in1 hm)) dX6_adds_22 ?_
  refine j_aload_n C0 1 dX6_adds_23 rfl rfl ?_
  refine j_iload C0 0 dX6_adds_24 rfl ?_
  refine j_iconst C0 (v := 2) dX6_adds_26 (by decide) ?_
  refine j_callSi C0 (c_X6_of l z _ _ _) yk_X6_of w_897 ⟨Nat.le_of_ble_eq_true rfl, Nat.le_of_ble_eq_true rfl⟩ rfl rfl (Nat.le_of_ble_eq_true rfl) dX6_adds_27 ?_
  refine j_iload_n C0 4 dX6_adds_30 rfl rfl ?_
  refine s_M C0 (rw4_14 hk) (vin4 hk (of_in2 hm)) dX6_adds_31 ?_
  refine j_aload_n C0 1 dX6_adds_32 rfl rfl ?_
  refine j_iload C0 0 dX6_adds_33 rfl ?_
  refine j_iconst C0 (v := 3) dX6_adds_35 (by decide) ?_
  refine j_callSi C0 (c_X6_of l z _ _ _) yk_X6_of w_897 ⟨Nat.le_of_ble_eq_true rfl, Nat.le_of_ble_eq_true rfl⟩ rfl rfl (Nat.le_of_ble_eq_true rfl) dX6_adds_36 ?_
  refine j_iload C0 5 dX6_adds_39 rfl ?_
  refine s_M C0 (rw4_14 hk) (vin4 hk (of_in3 hm)) dX6_adds_41 ?_
  refine j_aload_n C0 1 dX6_adds_42 rfl rfl ?_
  refine j_iload C0 0 dX6_adds_43 rfl ?_
  refine j_iconst C0 (v := 4) dX6_adds_45 (by decide) ?_
  refine j_callSi C0 (c_X6_of l z _ _ _) yk_X6_of w_897 ⟨Nat.le_of_ble_eq_true rfl, Nat.le_of_ble_eq_true rfl⟩ rfl rfl (Nat.le_of_ble_eq_true rfl) dX6_adds_46 ?_
  refine j_iconst C0 (v := 0) dX6_adds_49 (by decide) ?_
  refine s_M C0 (rw4_14 hk) (vin4 hk (of_in4 hm)) dX6_adds_50 ?_
  refine j_aload_n C0 1 dX6_adds_51 rfl rfl ?_
  refine j_iload C0 0 dX6_adds_52 rfl ?_
  refine j_iconst C0 (v := 5) dX6_adds_54 (by decide) ?_
  refine j_callSi C0 (c_X6_of l z _ _ _) yk_X6_of w_897 ⟨Nat.le_of_ble_eq_true rfl, Nat.le_of_ble_eq_true rfl⟩ rfl rfl (Nat.le_of_ble_eq_true rfl) dX6_adds_55 ?_
  refine j_iconst C0 (v := 0) dX6_adds_58 (by decide) ?_
  refine s_M C0 (rw4_14 hk) (vin4 hk (of_in5 hm)) dX6_adds_59 ?_
  refine j_aload_n C0 1 dX6_adds_60 rfl rfl ?_
  refine j_iconst C0 (v := 0) dX6_adds_61 (by decide) ?_
  refine j_dup2 C0 dX6_adds_62 rfl rfl ?_
  refine a_Ml C0 (rw4_14 hk) ixl_0 (vin4 hk vl57_0) dX6_adds_63 ?_
  refine j_iconst C0 (v := 1) dX6_adds_64 (by decide) ?_
  refine j_iadd C0 dX6_adds_65 ?_
  refine s_Ml C0 (rw4_14 hk) ixl_0 (vin4 hk vl57_0) dX6_adds_66 ?_
  exact j_vret C0 hrt hlk dX6_adds_67
def f_X6_copies_2 (g : Mem) (k k2 : Nat) : Nat → Int32 → Mem → Mem
  | 0, _, _ => g
  | n0 + 1, a2, g_2 => if (57 : Int32) ≤ a2 then (g_2) else (f_X6_copies_2 g k k2 n0 (a2 + (1 : Int32)) (up g_2 k2 (ix a2) (g_2 k (ix a2))))
def f_X6_copies (g : Mem) (k k2 : Nat) : Mem := f_X6_copies_2 g k k2 58 (0 : Int32) g
theorem yk_X6_copies : yokS yX6_copies RX6 cX6_copies 3 none 2 := ⟨w_889, w_888, w_8, by decide +kernel⟩
set_option maxHeartbeats 4000000 in
set_option maxRecDepth 100000 in
theorem c_X6_copies (l : Launch) (z : ZM) (g : Mem) (k : Nat) (hk : rw4 k) (k2 : Nat) (hk2 : rw4 k2) : ctM l yX6_copies cX6_copies 3 none 0 0 z g [.ref (yad z k), .ref (yad z k2)] (qVM z (f_X6_copies g k k2)) := by
  refine ct_of (own := RX6) (q := fun r => qVM z r) (res := f_X6_copies g k k2) (lv := [(0, .ref (yad z k)), (1, .ref (yad z k2))]) enokM rfl (by decide) (Nat.le_of_ble_eq_true rfl) rfl (fun p e s m args below meth c C0 hrt hlk => ?_)
  unfold f_X6_copies
  refine j_iconst C0 (v := 0) dX6_copies_0 (by decide) ?_
  refine j_istore_n C0 (lv' := [(2, _), (0, _), (1, _)]) dX6_copies_1 rfl (by decide) rfl ?_
  have L2 : ∀ (n0 : Nat) (a2 : Int32) (g_2 : Mem), lc a2 57 n0 → jj p l e { frames := 0, cells := 0, slots := 0, locals := 0 } s m args below meth c (yA z) (yD z) 14 (yad z) (celM z) 3 (fun r => MQ below (qVM z r) args s 0 0 (yA z)) (f_X6_copies_2 g k k2 n0 a2 g_2) g_2 2 [(0, .ref (yad z k)), (1, .ref (yad z k2)), (2, .int a2)] [] := by
    intro n0
    induction n0 with
    | zero => intro a2 g_2 hL; exact absurd hL.2 (Nat.not_lt_zero _)
    | succ n0 ih0 =>
      intro a2 g_2 hL
      rw [f_X6_copies_2]
      refine j_iload_n C0 2 dX6_copies_2 rfl rfl ?_
      refine j_bipush C0 (v := 57) dX6_copies_3 (by decide) ?_
      refine j_icmp_ge C0 20 dX6_copies_5 (by decide) (fun c_5 => ?_) (fun c_5 => ?_)
      · exact j_vret C0 hrt hlk dX6_copies_20
      · have hv : vp_in a2 57 := vin_lc hL c_5 (by decide)
        refine j_aload_n C0 1 dX6_copies_8 rfl rfl ?_
        refine j_iload_n C0 2 dX6_copies_9 rfl rfl ?_
        refine j_aload_n C0 0 dX6_copies_10 rfl rfl ?_
        refine j_iload_n C0 2 dX6_copies_11 rfl rfl ?_
        refine a_M C0 (rw4_14 hk) (vin4 hk hv) dX6_copies_12 ?_
        refine s_M C0 (rw4_14 hk2) (vin4 hk2 hv) dX6_copies_13 ?_
        refine j_iinc C0 (lv' := [(2, _), (0, _), (1, _)]) (v := _ + (1)) 2 dX6_copies_14 rfl (by rfl) (by decide) rfl ?_
        refine j_goto C0 2 dX6_copies_17 (by decide) ?_
        exact j_sub [1, 2, 0] rfl (ih0 _ _ (lc_stepN hL c_5))
  exact j_sub [1, 2, 0] rfl (L2 58 _ _ (lc_0 (by decide) (by decide)))
theorem copies_L {g : Mem} {k k2 : Nat} (hne : k ≠ k2) : ∀ (n : Nat) (a2 : Int32) (g2 : Mem), lc a2 57 n → (∀ j, g2 k j = g k j) → (∀ q, q ≠ k2 → ∀ j, f_X6_copies_2 g k k2 n a2 g2 q j = g2 q j) ∧ (∀ j, f_X6_copies_2 g k k2 n a2 g2 k2 j = if ix a2 ≤ j ∧ j < 57 then g k j else g2 k2 j) := by
  intro n
  induction n with
  | zero => intro a2 g2 hL; exact absurd hL.2 (Nat.not_lt_zero _)
  | succ n ih =>
    intro a2 g2 hL h
    rw [f_X6_copies_2]
    have h0 := ix_toInt hL.1
    have e57 : (57 : Int32).toInt = 57 := rfl
    split
    · have c := Int32.le_iff_toInt_le.mp (by assumption : (57 : Int32) ≤ a2)
      exact ⟨fun _ _ _ => rfl, fun j => by rw [if_neg (by omega)]⟩
    · have c := (by assumption : ¬ (57 : Int32) ≤ a2)
      have c2 : a2.toInt < 57 := by
        have : ¬ (57 : Int32).toInt ≤ a2.toInt := fun q => c (Int32.le_iff_toInt_le.mpr q)
        omega
      have e1 := inc_toInt (b := 57) hL.1 (by omega)
      have h1 := ix_toInt (x := a2 + 1) (by omega)
      have hk : ∀ j, up g2 k2 (ix a2) (g2 k (ix a2)) k j = g k j := fun j => (up_ne (Or.inl hne)).trans (h j)
      obtain ⟨i1, i2⟩ := ih (a2 + 1) (up g2 k2 (ix a2) (g2 k (ix a2))) (lc_stepN hL c) hk
      refine ⟨fun q hq j => (i1 q hq j).trans (up_ne (Or.inl hq)), fun j => ?_⟩
      rw [i2 j]
      by_cases hj : j = ix a2
      · subst hj
        rw [if_neg (by omega), if_pos (by omega), up_eq, h]
      · by_cases hj2 : ix (a2 + 1) ≤ j ∧ j < 57
        · rw [if_pos hj2, if_pos (by omega)]
        · rw [if_neg hj2, if_neg (by omega), up_ne (Or.inr hj)]
theorem copies_o {g : Mem} {k k2 : Nat} (hne : k ≠ k2) {q : Nat} (hq : q ≠ k2) (j : Nat) : f_X6_copies g k k2 q j = g q j := (copies_L hne 58 0 g (lc_0 (by decide) (by decide)) (fun _ => rfl)).1 q hq j
theorem copies_i {g : Mem} {k k2 : Nat} (hne : k ≠ k2) {j : Nat} (hj : j < 57) : f_X6_copies g k k2 k2 j = g k j := by
  have h := (copies_L (g := g) hne 58 0 g (lc_0 (by decide) (by decide)) (fun _ => rfl)).2 j
  rw [if_pos ⟨Nat.zero_le _, hj⟩] at h
  exact h
theorem InM_cp1_2 {g : Mem} (h : InM g) : InM (f_X6_copies g 1 2) := by
  refine ⟨?_, ?_, fun d hd => ?_⟩
  · rw [copies_o (by decide) (by decide)]; exact h.1
  · rw [copies_o (by decide) (by decide)]; exact h.2.1
  · rw [copies_o (by decide) (by decide)]; exact h.2.2 d hd
theorem InM_cp1_4 {g : Mem} (h : InM g) : InM (f_X6_copies g 1 4) := by
  refine ⟨?_, ?_, fun d hd => ?_⟩
  · rw [copies_o (by decide) (by decide)]; exact h.1
  · rw [copies_o (by decide) (by decide)]; exact h.2.1
  · rw [copies_o (by decide) (by decide)]; exact h.2.2 d hd
theorem InM_cp1_3 {g : Mem} (h : InM g) : InM (f_X6_copies g 1 3) := by
  refine ⟨?_, ?_, fun d hd => ?_⟩
  · rw [copies_o (by decide) (by decide)]; exact h.1
  · rw [copies_i (by decide) (by decide)]; exact h.1
  · rw [copies_o (by decide) (by decide)]; exact h.2.2 d hd
theorem InM_cp3_1 {g : Mem} (h : InM g) : InM (f_X6_copies g 3 1) := by
  refine ⟨?_, ?_, fun d hd => ?_⟩
  · rw [copies_i (by decide) (by decide)]; exact h.2.1
  · rw [copies_o (by decide) (by decide)]; exact h.2.1
  · rw [copies_o (by decide) (by decide)]; exact h.2.2 d hd

