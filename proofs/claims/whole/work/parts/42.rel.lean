section FRR
variable {cg mg : Mem} {t k : Nat}
theorem addS {x y : Int32} (h1 : -1000000 ≤ x.toInt + y.toInt) (h2 : x.toInt + y.toInt ≤ 1000000) : (x + y).toInt = x.toInt + y.toInt := by
  rw [Int32.toInt_add]
  exact Int.bmod_eq_of_le (by omega) (by omega)
theorem subS {x y : Int32} (h1 : -1000000 ≤ x.toInt - y.toInt) (h2 : x.toInt - y.toInt ≤ 1000000) : (x - y).toInt = x.toInt - y.toInt := by
  rw [Int32.toInt_sub]
  exact Int.bmod_eq_of_le (by omega) (by omega)
theorem mulS {x y : Int32} (h1 : -1000000 ≤ x.toInt * y.toInt) (h2 : x.toInt * y.toInt ≤ 1000000) : (x * y).toInt = x.toInt * y.toInt := by
  rw [Int32.toInt_mul]
  exact Int.bmod_eq_of_le (by omega) (by omega)
def bnd (c : Nat) : Int := if c = 0 then 7 else if c = 1 then 9 else if c ≤ 3 then 30 else 99
/-- the ranges of one of a row's people -/
def RP (mg : Mem) (k i : Nat) : Prop := ∀ c : Nat, c < 6 → 0 ≤ (mg k (3 + 6 * i + c)).toInt ∧ (mg k (3 + 6 * i + c)).toInt ≤ bnd c
/-- the ranges of a row: how many, slices, people -/
def RB (mg : Mem) (k : Nat) : Prop := (0 ≤ (mg k 0).toInt ∧ (mg k 0).toInt ≤ 9) ∧ (0 ≤ (mg k 1).toInt ∧ (mg k 1).toInt ≤ 99) ∧ ∀ i : Nat, (i : Int) < (mg k 0).toInt → RP mg k i
theorem RB.at (h : RB mg k) {p : Int32} (h0 : 0 ≤ p.toInt) (h1 : p.toInt < (mg k 0).toInt) : RP mg k (ix p) := h.2.2 (ix p) (by have := ix_toInt h0; omega)
theorem RB.v9 (h : RB mg k) {p : Int32} (h0 : 0 ≤ p.toInt) (h1 : p.toInt < (mg k 0).toInt) : vp_in p 9 := vin_of h0 (by have := h.1.2; omega)
theorem RB.of (h : RB mg k) {p c : Int32} (h0 : 0 ≤ p.toInt) (h1 : p.toInt < (mg k 0).toInt) (hc : vp_in c 6) : 0 ≤ (mg k (ix (f_X6_of p c))).toInt ∧ (mg k (ix (f_X6_of p c))).toInt ≤ bnd (ix c) := by
  rw [ix_of (h.v9 h0 h1) hc]
  exact h.at h0 h1 (ix c) (vin_lt hc)
theorem vc0 : vp_in (0 : Int32) 6 := by unfold vp_in; decide
theorem RB.kd (h : RB mg k) {p : Int32} (h0 : 0 ≤ p.toInt) (h1 : p.toInt < (mg k 0).toInt) : vp_in (mg k (ix (f_X6_of p 0))) 8 := by
  have := h.of h0 h1 vc0
  have e : bnd (ix (0 : Int32)) = 7 := by decide
  rw [e] at this
  exact vin_of this.1 (by omega)
theorem RB.f (h : RB mg k) {p : Int32} (h0 : 0 ≤ p.toInt) (h1 : p.toInt < (mg k 0).toInt) : 0 ≤ (mg k (ix (f_X6_of p 1))).toInt ∧ (mg k (ix (f_X6_of p 1))).toInt ≤ 9 := h.of h0 h1 vc1
theorem RB.h (h : RB mg k) {p : Int32} (h0 : 0 ≤ p.toInt) (h1 : p.toInt < (mg k 0).toInt) : 0 ≤ (mg k (ix (f_X6_of p 2))).toInt ∧ (mg k (ix (f_X6_of p 2))).toInt ≤ 30 := h.of h0 h1 vc2
theorem RB.w (h : RB mg k) {p : Int32} (h0 : 0 ≤ p.toInt) (h1 : p.toInt < (mg k 0).toInt) : 0 ≤ (mg k (ix (f_X6_of p 3))).toInt ∧ (mg k (ix (f_X6_of p 3))).toInt ≤ 30 := h.of h0 h1 vc3
theorem RB.e (h : RB mg k) {p : Int32} (h0 : 0 ≤ p.toInt) (h1 : p.toInt < (mg k 0).toInt) : 0 ≤ (mg k (ix (f_X6_of p 4))).toInt ∧ (mg k (ix (f_X6_of p 4))).toInt ≤ 99 := h.of h0 h1 vc4
theorem RB.d (h : RB mg k) {p : Int32} (h0 : 0 ≤ p.toInt) (h1 : p.toInt < (mg k 0).toInt) : 0 ≤ (mg k (ix (f_X6_of p 5))).toInt ∧ (mg k (ix (f_X6_of p 5))).toInt ≤ 99 := h.of h0 h1 vc5
theorem least_toInt (a b : Int32) : (f_X6_least a b).toInt = min a.toInt b.toInt := by
  unfold f_X6_least
  by_cases h : b ≤ a
  · rw [if_pos h]; have := i_le.mp h; omega
  · rw [if_neg h]; have := lt_of_nle h; omega
theorem most_toInt (a b : Int32) : (f_X6_most a b).toInt = max a.toInt b.toInt := by
  unfold f_X6_most
  by_cases h : a ≤ b
  · rw [if_pos h]; have := i_le.mp h; omega
  · rw [if_neg h]; have := lt_of_nle h; omega
theorem bite_in {w f : Int32} (h0 : 0 ≤ f.toInt) (h1 : f.toInt ≤ 9) : 1 ≤ (f_X6_bite w f).toInt ∧ (f_X6_bite w f).toInt ≤ 9 := by
  have e2 : (2 : Int32).toInt = 2 := rfl
  have e3 : (3 : Int32).toInt = 3 := rfl
  have d2 : (f / 2).toInt = f.toInt / 2 := by rw [div_toInt h0 (by omega), e2]
  have d : (3 + f / 2).toInt = 3 + f.toInt / 2 := by rw [add_toInt (by omega) (by omega) (by omega) (by omega), d2, e3]
  unfold f_X6_bite
  (repeat' split) <;> first | decide | omega
theorem gaze_in {w f : Int32} (h0 : 0 ≤ f.toInt) (h1 : f.toInt ≤ 9) : 0 ≤ (f_X6_gaze w f).toInt ∧ (f_X6_gaze w f).toInt ≤ 10 := by
  have e2 : (2 : Int32).toInt = 2 := rfl
  have e3 : (3 : Int32).toInt = 3 := rfl
  have d2 : (f / 3).toInt = f.toInt / 3 := by rw [div_toInt h0 (by omega), e3]
  have d : (2 + f / 3).toInt = 2 + f.toInt / 3 := by rw [add_toInt (by omega) (by omega) (by omega) (by omega), d2, e2]
  have d4 : (2 * (2 + f / 3)).toInt = 2 * (2 + f.toInt / 3) := by rw [mul_toInt (by omega) (by omega) (by omega) (by omega), d, e2]
  unfold f_X6_gaze
  (repeat' split) <;> first | decide | omega
theorem shy_in (w : Int32) : 0 ≤ (f_X6_shy w).toInt ∧ (f_X6_shy w).toInt ≤ 2 := by
  unfold f_X6_shy
  (repeat' split) <;> decide
theorem RB.bites (h : RB mg k) {p : Int32} (h0 : 0 ≤ p.toInt) (h1 : p.toInt < (mg k 0).toInt) : 0 ≤ (f_X6_bites mg k p).toInt ∧ (f_X6_bites mg k p).toInt ≤ (mg k (ix (f_X6_of p 2))).toInt ∧ (f_X6_bites mg k p).toInt ≤ 9 := by
  have b := bite_in (w := mg k (ix (f_X6_of p 0))) (h.f h0 h1).1 (h.f h0 h1).2
  have a := h.h h0 h1
  unfold f_X6_bites
  rw [least_toInt]
  omega
theorem RB.gazes (h : RB mg k) {p : Int32} (h0 : 0 ≤ p.toInt) (h1 : p.toInt < (mg k 0).toInt) : 0 ≤ (f_X6_gazes mg k p).toInt ∧ (f_X6_gazes mg k p).toInt ≤ (mg k (ix (f_X6_of p 3))).toInt ∧ (f_X6_gazes mg k p).toInt ≤ 10 := by
  have b := gaze_in (w := mg k (ix (f_X6_of p 0))) (h.f h0 h1).1 (h.f h0 h1).2
  have a := h.w h0 h1
  unfold f_X6_gazes
  rw [least_toInt]
  omega
theorem RB.ej (h : RB mg k) {p q : Int32} (h0 : 0 ≤ p.toInt) (h1 : p.toInt < (mg k 0).toInt) (g0 : 0 ≤ q.toInt) (g1 : q.toInt < (mg k 0).toInt) : (f_X6_eaterJoy mg k p q).toInt = max 0 ((f_X6_bites mg k p).toInt - (f_X6_shy (mg k (ix (f_X6_of p 0)))).toInt * (mg k (ix (f_X6_of q 5))).toInt) := by
  have b := h.bites h0 h1
  have s := shy_in (mg k (ix (f_X6_of p 0)))
  have d := h.d g0 g1
  have m := mul_toInt (i := f_X6_shy (mg k (ix (f_X6_of p 0)))) (k := mg k (ix (f_X6_of q 5))) s.1 (by omega) d.1 (by omega)
  have m0 : 0 ≤ (f_X6_shy (mg k (ix (f_X6_of p 0)))).toInt * (mg k (ix (f_X6_of q 5))).toInt := Int.mul_nonneg s.1 d.1
  have m1 : (f_X6_shy (mg k (ix (f_X6_of p 0)))).toInt * (mg k (ix (f_X6_of q 5))).toInt ≤ 2 * 99 := Int.mul_le_mul s.2 d.2 d.1 (by omega)
  have sb := subS (x := f_X6_bites mg k p) (y := f_X6_shy (mg k (ix (f_X6_of p 0))) * mg k (ix (f_X6_of q 5))) (by omega) (by omega)
  unfold f_X6_eaterJoy
  rw [most_toInt, sb, m]
  rfl
theorem RB.joys (h : RB mg k) {p q : Int32} (h0 : 0 ≤ p.toInt) (h1 : p.toInt < (mg k 0).toInt) (g0 : 0 ≤ q.toInt) (g1 : q.toInt < (mg k 0).toInt) : (f_X6_joysOf mg k p q).toInt = (f_X6_eaterJoy mg k p q).toInt + (f_X6_gazes mg k q).toInt ∧ 0 ≤ (f_X6_eaterJoy mg k p q).toInt ∧ (f_X6_eaterJoy mg k p q).toInt ≤ 9 ∧ 0 ≤ (f_X6_joysOf mg k p q).toInt ∧ (f_X6_joysOf mg k p q).toInt ≤ 19 := by
  have b := h.bites h0 h1
  have s := shy_in (mg k (ix (f_X6_of p 0)))
  have d := h.d g0 g1
  have m0 : 0 ≤ (f_X6_shy (mg k (ix (f_X6_of p 0)))).toInt * (mg k (ix (f_X6_of q 5))).toInt := Int.mul_nonneg s.1 d.1
  have e := h.ej h0 h1 g0 g1
  have z := h.gazes g0 g1
  have a : (f_X6_joysOf mg k p q).toInt = (f_X6_eaterJoy mg k p q).toInt + (f_X6_gazes mg k q).toInt := by
    unfold f_X6_joysOf
    exact add_toInt (by omega) (by omega) (by omega) (by omega)
  omega
theorem canEat_1 {p q : Int32} (c : ¬ f_X6_canEat mg k p q = 0) : ¬ p = q ∧ 0 < (mg k 1).toInt ∧ 0 < (mg k (ix (f_X6_of p 2))).toInt ∧ ¬ f_X6_canLook mg k q = 0 := by
  unfold f_X6_canEat at c
  have e0 : (0 : Int32).toInt = 0 := rfl
  by_cases c1 : p = q
  · rw [if_pos c1] at c; exact absurd rfl c
  · rw [if_neg c1] at c
    by_cases c2 : mg k 1 ≤ 0
    · rw [if_pos c2] at c; exact absurd rfl c
    · rw [if_neg c2] at c
      by_cases c3 : mg k (ix (f_X6_of p 2)) ≤ 0
      · rw [if_pos c3] at c; exact absurd rfl c
      · rw [if_neg c3] at c
        by_cases c4 : f_X6_canLook mg k q = 0
        · rw [if_pos c4] at c; exact absurd rfl c
        · have := lt_of_nle c2
          have := lt_of_nle c3
          exact ⟨c1, by omega, by omega, c4⟩
theorem RB_up (h : RB mg k) {p c v : Int32} (h0 : 0 ≤ p.toInt) (h1 : p.toInt < (mg k 0).toInt) (hc : vp_in c 6) (hv : 0 ≤ v.toInt ∧ v.toInt ≤ bnd (ix c)) : RB (up mg k (ix (f_X6_of p c)) v) k := by
  have hp := h.v9 h0 h1
  have hx := vin_lt hc
  rw [ix_of hp hc]
  obtain ⟨a, b, d⟩ := h
  refine ⟨by rw [up_ne (Or.inr (by omega))]; exact a, by rw [up_ne (Or.inr (by omega))]; exact b, fun i hi c2 hc2 => ?_⟩
  rw [up_ne (Or.inr (by omega))] at hi
  by_cases q : i = ix p ∧ c2 = ix c
  · obtain ⟨rfl, rfl⟩ := q
    rw [up_eq]; exact hv
  · rw [up_ne (Or.inr (by omega))]; exact d i hi c2 hc2
theorem RB_up1 (h : RB mg k) {v : Int32} (hv : 0 ≤ v.toInt ∧ v.toInt ≤ 99) : RB (up mg k 1 v) k := by
  obtain ⟨a, b, d⟩ := h
  refine ⟨by rw [up_ne (Or.inr (by omega))]; exact a, by rw [up_eq]; exact hv, fun i hi c2 hc2 => ?_⟩
  rw [up_ne (Or.inr (by omega))] at hi
  rw [up_ne (Or.inr (by omega))]; exact d i hi c2 hc2
theorem RB_up2 (h : RB mg k) {v : Int32} : RB (up mg k 2 v) k := by
  obtain ⟨a, b, d⟩ := h
  refine ⟨by rw [up_ne (Or.inr (by omega))]; exact a, by rw [up_ne (Or.inr (by omega))]; exact b, fun i hi c2 hc2 => ?_⟩
  rw [up_ne (Or.inr (by omega))] at hi
  rw [up_ne (Or.inr (by omega))]; exact d i hi c2 hc2
theorem RB_row {mg2 : Mem} (e : mg2 k = mg k) (h : RB mg k) : RB mg2 k := by
  unfold RB RP at *
  rw [e]
  exact h
theorem least99_in {x : Int32} (h0 : 0 ≤ x.toInt) (h1 : x.toInt ≤ 99) : 0 ≤ (f_X6_least 99 (x + 1)).toInt ∧ (f_X6_least 99 (x + 1)).toInt ≤ 99 := by
  have e : (99 : Int32).toInt = 99 := rfl
  have e1 : (1 : Int32).toInt = 1 := rfl
  have a : (x + 1).toInt = x.toInt + 1 := by rw [add_toInt h0 (by omega) (by omega) (by omega), e1]
  rw [least_toInt, a, e]
  omega
theorem RB_turn (h : RB mg k) {p q : Int32} (h0 : 0 ≤ p.toInt) (h1 : p.toInt < (mg k 0).toInt) (g0 : 0 ≤ q.toInt) (g1 : q.toInt < (mg k 0).toInt) (c : ¬ f_X6_canEat mg k p q = 0) : RB (f_X6_turn_m6 mg k p q) k := by
  have hp := h.v9 h0 h1
  have hq := h.v9 g0 g1
  have x1 : RB (f_X6_turn_m1 mg k p q) k := by
    unfold f_X6_turn_m1
    have a := h.h h0 h1
    have b := h.bites h0 h1
    refine RB_up h h0 h1 vc2 ?_
    rw [sub_toInt (by omega) (by omega)]
    have e : bnd (ix (2 : Int32)) = 30 := by decide
    omega
  have s1 : f_X6_turn_m1 mg k p q k 0 = mg k 0 := turn_keep hp hq vc2
  rw [← s1] at h1 g1
  have x2 : RB (f_X6_turn_m2 mg k p q) k := by
    unfold f_X6_turn_m2
    have a := x1.w g0 g1
    have b := x1.gazes g0 g1
    refine RB_up x1 g0 g1 vc3 ?_
    rw [sub_toInt (by omega) (by omega)]
    have e : bnd (ix (3 : Int32)) = 30 := by decide
    omega
  have s2 : f_X6_turn_m2 mg k p q k 0 = f_X6_turn_m1 mg k p q k 0 := turn_keep hq hq vc3
  rw [← s2] at h1 g1
  have x3 : RB (f_X6_turn_m3 mg k p q) k := by
    unfold f_X6_turn_m3
    have a := x2.e h0 h1
    exact RB_up x2 h0 h1 vc4 (least99_in a.1 a.2)
  have s3 : f_X6_turn_m3 mg k p q k 0 = f_X6_turn_m2 mg k p q k 0 := turn_keep hp hq vc4
  rw [← s3] at h1 g1
  have x4 : RB (f_X6_turn_m4 mg k p q) k := by
    unfold f_X6_turn_m4
    have a := x3.d g0 g1
    exact RB_up x3 g0 g1 vc5 (least99_in a.1 a.2)
  have e1 : f_X6_turn_m4 mg k p q k 1 = mg k 1 := by
    have n2 : ∀ {x c : Int32}, vp_in x 9 → vp_in c 6 → 1 ≠ ix (f_X6_of x c) := fun hx hc => by rw [ix_of hx hc]; omega
    unfold f_X6_turn_m4 f_X6_turn_m3 f_X6_turn_m2 f_X6_turn_m1
    rw [up_ne (Or.inr (n2 hq vc5)), up_ne (Or.inr (n2 hp vc4)), up_ne (Or.inr (n2 hq vc3)), up_ne (Or.inr (n2 hp vc2))]
  have x5 : RB (f_X6_turn_m5 mg k p q) k := by
    unfold f_X6_turn_m5
    refine RB_up1 x4 ?_
    have s := (canEat_1 c).2.1
    have s99 := h.2.1.2
    have o : (1 : Int32).toInt = 1 := rfl
    rw [e1, sub_toInt (by omega) (by omega)]
    omega
  exact RB_up2 x5
theorem turn_z (h : RB mg k) {p q : Int32} (h0 : 0 ≤ p.toInt) (h1 : p.toInt < (mg k 0).toInt) (g0 : 0 ≤ q.toInt) (g1 : q.toInt < (mg k 0).toInt) : f_X6_turn_m6 mg k p q k 0 = mg k 0 := by
  have hp := h.v9 h0 h1
  have hq := h.v9 g0 g1
  unfold f_X6_turn_m6 f_X6_turn_m5 f_X6_turn_m4 f_X6_turn_m3 f_X6_turn_m2 f_X6_turn_m1
  rw [up_ne (Or.inr (by decide)), up_ne (Or.inr (by decide)), up_ne (Or.inr (Ne.symm (of_pos hq vc5))), up_ne (Or.inr (Ne.symm (of_pos hp vc4))), up_ne (Or.inr (Ne.symm (of_pos hq vc3))), up_ne (Or.inr (Ne.symm (of_pos hp vc2)))]
theorem turn_row {p q : Int32} {r : Nat} (hr : r ≠ k) : f_X6_turn_m6 mg k p q r = mg r := by
  unfold f_X6_turn_m6 f_X6_turn_m5 f_X6_turn_m4 f_X6_turn_m3 f_X6_turn_m2 f_X6_turn_m1
  rw [up_row hr, up_row hr, up_row hr, up_row hr, up_row hr, up_row hr]
end FRR
