theorem vin8_cases {w : Int32} (h : vp_in w 8) : w = 0 ∨ w = 1 ∨ w = 2 ∨ w = 3 ∨ w = 4 ∨ w = 5 ∨ w = 6 ∨ w = 7 := by
  have h1 := vp_in_iff.mp h
  have h2 : w.toInt = 0 ∨ w.toInt = 1 ∨ w.toInt = 2 ∨ w.toInt = 3 ∨ w.toInt = 4 ∨ w.toInt = 5 ∨ w.toInt = 6 ∨ w.toInt = 7 := by omega
  rcases h2 with h2 | h2 | h2 | h2 | h2 | h2 | h2 | h2
  · exact Or.inl (Int32.toInt_inj.mp h2)
  · exact Or.inr (Or.inl (Int32.toInt_inj.mp h2))
  · exact Or.inr (Or.inr (Or.inl (Int32.toInt_inj.mp h2)))
  · exact Or.inr (Or.inr (Or.inr (Or.inl (Int32.toInt_inj.mp h2))))
  · exact Or.inr (Or.inr (Or.inr (Or.inr (Or.inl (Int32.toInt_inj.mp h2)))))
  · exact Or.inr (Or.inr (Or.inr (Or.inr (Or.inr (Or.inl (Int32.toInt_inj.mp h2))))))
  · exact Or.inr (Or.inr (Or.inr (Or.inr (Or.inr (Or.inr (Or.inl (Int32.toInt_inj.mp h2)))))))
  · exact Or.inr (Or.inr (Or.inr (Or.inr (Or.inr (Or.inr (Or.inr (Int32.toInt_inj.mp h2)))))))
theorem bite_eq {w f : Int32} (hw : vp_in w 8) : f_X1_biteWith w f = f_X6_bite w f := by
  rcases vin8_cases hw with rfl | rfl | rfl | rfl | rfl | rfl | rfl | rfl <;> rfl
theorem gaze_eq {w f : Int32} (hw : vp_in w 8) : f_X1_gazeWith w f = f_X6_gaze w f := by
  rcases vin8_cases hw with rfl | rfl | rfl | rfl | rfl | rfl | rfl | rfl
  case inr.inr.inr.inr.inr.inl =>
    show (4 : Int32) + 2 * (f / 3) = 2 * (2 + f / 3)
    rw [Int32.mul_add]
    rfl
  all_goals rfl
theorem cost_eq {w f : Int32} (hw : vp_in w 8) : f_X1_costWith w f = f_X6_costBy w f := by
  rcases vin8_cases hw with rfl | rfl | rfl | rfl | rfl | rfl | rfl | rfl <;> rfl
theorem shy_eq {w : Int32} (hw : vp_in w 8) : kShy.getD (ix w) 0 = f_X6_shy w := by
  rcases vin8_cases hw with rfl | rfl | rfl | rfl | rfl | rfl | rfl | rfl <;> rfl
theorem least_eq (a b : Int32) : (if a < b then a else b) = f_X6_least a b := by
  unfold f_X6_least
  by_cases h : a < b
  · rw [if_pos h, if_neg]
    intro h2
    have h3 := Int32.lt_iff_toInt_lt.mp h
    have h4 := Int32.le_iff_toInt_le.mp h2
    omega
  · rw [if_neg h, if_pos]
    refine Int32.le_iff_toInt_le.mpr ?_
    have h3 : ¬ a.toInt < b.toInt := fun q => h (Int32.lt_iff_toInt_lt.mpr q)
    omega
theorem most_eq (x : Int32) : (if x < 0 then (0 : Int32) else x) = f_X6_most 0 x := by
  unfold f_X6_most
  by_cases h : x < 0
  · rw [if_pos h, if_neg]
    intro h2
    have h3 := Int32.lt_iff_toInt_lt.mp h
    have h4 := Int32.le_iff_toInt_le.mp h2
    omega
  · rw [if_neg h, if_pos]
    refine Int32.le_iff_toInt_le.mpr ?_
    have h3 : ¬ x.toInt < (0 : Int32).toInt := fun q => h (Int32.lt_iff_toInt_lt.mpr q)
    omega
/-- one of the class' people and one of the reference's row are the same -/
def PR (cg : Mem) (q : Nat) (mg : Mem) (k i : Nat) : Prop :=
  cg q 0 = mg k (3 + 6 * i) ∧ cg q 1 = mg k (3 + 6 * i + 1) ∧ cg q 4 = mg k (3 + 6 * i + 2) ∧ cg q 5 = mg k (3 + 6 * i + 3) ∧ cg q 6 = mg k (3 + 6 * i + 4) ∧ cg q 7 = mg k (3 + 6 * i + 5) ∧
  cg q 2 = f_X1_biteWith (mg k (3 + 6 * i)) (mg k (3 + 6 * i + 1)) ∧ cg q 3 = f_X1_gazeWith (mg k (3 + 6 * i)) (mg k (3 + 6 * i + 1)) ∧ vp_in (mg k (3 + 6 * i)) 8
/-- the class' fete t and the reference's row k are the same -/
def FR (cg : Mem) (t : Nat) (mg : Mem) (k : Nat) : Prop :=
  cg (40 + t) 1 = mg k 0 ∧ cg (40 + t) 2 = mg k 1 ∧ cg (40 + t) 3 = mg k 2 ∧ (0 ≤ (mg k 0).toInt ∧ (mg k 0).toInt ≤ 8) ∧ ∀ i : Nat, (i : Int) < (mg k 0).toInt → PR cg (8 * t + i) mg k i
section FRX
variable {cg mg : Mem} {t k : Nat}
theorem FR.at (h : FR cg t mg k) {p : Int32} (h0 : 0 ≤ p.toInt) (h1 : p.toInt < (mg k 0).toInt) : PR cg (8 * t + ix p) mg k (ix p) ∧ vp_in p 9 := by
  have e := ix_toInt h0
  exact ⟨h.2.2.2.2 (ix p) (by omega), vin_of h0 (by have := h.2.2.2.1.2; omega)⟩
theorem of_0 {p : Int32} (hp : vp_in p 9) : ix (f_X6_of p 0) = 3 + 6 * ix p := by rw [ix_of hp (by unfold vp_in; decide)]; rfl
theorem of_c {p : Int32} (hp : vp_in p 9) {c : Int32} {n : Nat} (hc : vp_in c 6) (hn : ix c = n) : ix (f_X6_of p c) = 3 + 6 * ix p + n := by rw [ix_of hp hc, hn]
theorem vc1 : vp_in (1 : Int32) 6 := by unfold vp_in; decide
theorem vc2 : vp_in (2 : Int32) 6 := by unfold vp_in; decide
theorem vc3 : vp_in (3 : Int32) 6 := by unfold vp_in; decide
theorem vc4 : vp_in (4 : Int32) 6 := by unfold vp_in; decide
theorem vc5 : vp_in (5 : Int32) 6 := by unfold vp_in; decide
theorem of_1 {p : Int32} (hp : vp_in p 9) : ix (f_X6_of p 1) = 3 + 6 * ix p + 1 := of_c hp vc1 (by decide)
theorem of_2 {p : Int32} (hp : vp_in p 9) : ix (f_X6_of p 2) = 3 + 6 * ix p + 2 := of_c hp vc2 (by decide)
theorem of_3 {p : Int32} (hp : vp_in p 9) : ix (f_X6_of p 3) = 3 + 6 * ix p + 3 := of_c hp vc3 (by decide)
theorem of_4 {p : Int32} (hp : vp_in p 9) : ix (f_X6_of p 4) = 3 + 6 * ix p + 4 := of_c hp vc4 (by decide)
theorem of_5 {p : Int32} (hp : vp_in p 9) : ix (f_X6_of p 5) = 3 + 6 * ix p + 5 := of_c hp vc5 (by decide)
theorem canLook_eq (h : FR cg t mg k) {p : Int32} (h0 : 0 ≤ p.toInt) (h1 : p.toInt < (mg k 0).toInt) : f_X3_canLook cg (8 * t + ix p) = f_X6_canLook mg k p := by
  obtain ⟨⟨a0, a1, a4, a5, a6, a7, a2, a3, ak⟩, hp⟩ := h.at h0 h1
  unfold f_X3_canLook f_X6_canLook
  rw [of_0 hp, of_4 hp, a6, a0]
theorem stilledHunger_eq (h : FR cg t mg k) {p : Int32} (h0 : 0 ≤ p.toInt) (h1 : p.toInt < (mg k 0).toInt) : f_X3_stilledHunger cg (8 * t + ix p) = f_X6_bites mg k p := by
  obtain ⟨⟨a0, a1, a4, a5, a6, a7, a2, a3, ak⟩, hp⟩ := h.at h0 h1
  unfold f_X3_stilledHunger f_X6_bites
  rw [of_0 hp, of_1 hp, of_2 hp, least_eq, a4, a2, bite_eq ak]
theorem stilledWish_eq (h : FR cg t mg k) {p : Int32} (h0 : 0 ≤ p.toInt) (h1 : p.toInt < (mg k 0).toInt) : f_X3_stilledWish cg (8 * t + ix p) = f_X6_gazes mg k p := by
  obtain ⟨⟨a0, a1, a4, a5, a6, a7, a2, a3, ak⟩, hp⟩ := h.at h0 h1
  unfold f_X3_stilledWish f_X6_gazes
  rw [of_0 hp, of_1 hp, of_3 hp, least_eq, a5, a3, gaze_eq ak]
theorem joyOfEating_eq (h : FR cg t mg k) {p q : Int32} (h0 : 0 ≤ p.toInt) (h1 : p.toInt < (mg k 0).toInt) (g0 : 0 ≤ q.toInt) (g1 : q.toInt < (mg k 0).toInt) : f_X0_joyOfEating cg t p q = f_X6_eaterJoy mg k p q := by
  obtain ⟨⟨a0, a1, a4, a5, a6, a7, a2, a3, ak⟩, hp⟩ := h.at h0 h1
  obtain ⟨⟨b0, b1, b4, b5, b6, b7, b2, b3, bk⟩, hq⟩ := h.at g0 g1
  unfold f_X0_joyOfEating f_X6_eaterJoy
  rw [of_0 hp, of_5 hq, most_eq, stilledHunger_eq h h0 h1, a0, b7, shy_eq ak]
theorem joysOf_eq (h : FR cg t mg k) {p q : Int32} (h0 : 0 ≤ p.toInt) (h1 : p.toInt < (mg k 0).toInt) (g0 : 0 ≤ q.toInt) (g1 : q.toInt < (mg k 0).toInt) : f_X0_joysOf cg t p q = f_X6_joysOf mg k p q := by
  unfold f_X0_joysOf f_X6_joysOf f_X0_joyOfLooking
  rw [joyOfEating_eq h h0 h1 g0 g1, stilledWish_eq h g0 g1]
theorem isThere_1 (h : FR cg t mg k) {p : Int32} (h0 : 0 ≤ p.toInt) (h1 : p.toInt < (mg k 0).toInt) : f_X0_isThere cg t p = 1 := by
  unfold f_X0_isThere
  rw [if_neg, if_neg]
  · rw [h.1]
    intro q
    have := Int32.le_iff_toInt_le.mp q
    omega
  · intro q
    have h2 := Int32.lt_iff_toInt_lt.mp q
    have e0 : (0 : Int32).toInt = 0 := rfl
    omega
theorem FR_in {p : Int32} (h : FR cg t mg k) (c : ¬ f_X0_isThere cg t p = 0) : 0 ≤ p.toInt ∧ p.toInt < (mg k 0).toInt := by
  unfold f_X0_isThere at c
  split at c
  · exact absurd rfl c
  · split at c
    · exact absurd rfl c
    · have c1 := (by assumption : ¬ p < 0)
      have c2 := (by assumption : ¬ cg (40 + t) 1 ≤ p)
      have h1 : ¬ p.toInt < (0 : Int32).toInt := fun q => c1 (Int32.lt_iff_toInt_lt.mpr q)
      have h2 := lt_of_nle c2
      rw [h.1] at h2
      have e0 : (0 : Int32).toInt = 0 := rfl
      omega
theorem canEat_eq (h : FR cg t mg k) {p q : Int32} (h0 : 0 ≤ p.toInt) (h1 : p.toInt < (mg k 0).toInt) (g0 : 0 ≤ q.toInt) (g1 : q.toInt < (mg k 0).toInt) : f_X0_canEat cg t p q = f_X6_canEat mg k p q := by
  obtain ⟨⟨a0, a1, a4, a5, a6, a7, a2, a3, ak⟩, hp⟩ := h.at h0 h1
  have n1 : ¬ (1 : Int32) = 0 := by decide
  have e : f_X0_areTwo cg t p q = if p = q then 0 else 1 := by
    unfold f_X0_areTwo
    rw [isThere_1 h h0 h1, isThere_1 h g0 g1, if_neg n1, if_neg n1]
  unfold f_X0_canEat f_X6_canEat
  rw [e, of_2 hp, canLook_eq h g0 g1, h.2.1, a4]
  by_cases c : p = q
  · rw [if_pos c, if_pos c, if_pos rfl]
  · rw [if_neg c, if_neg c, if_neg n1]
theorem le_n {a b : Int32} (c : ¬ a ≤ b) : b.toInt < a.toInt := lt_of_nle c
end FRX
