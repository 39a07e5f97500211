section FRM
variable {cg mg : Mem}
theorem isWithin_eq {a b c : Int32} : f_X5_isWithin a b c = f_X6_isIn a b c := rfl
theorem sz_m1 {x : Int32} (h0 : 0 ≤ x.toInt) : (x - 1).toInt = x.toInt - 1 := by
  by_cases h : 1 ≤ x.toInt
  · exact sub1_toInt h
  · have e : x = 0 := Int32.toInt_inj.mp (by have e0 : (0 : Int32).toInt = 0 := rfl; omega)
    rw [e]
    decide
theorem isThere_eq (h : FR cg 0 mg 1) {p : Int32} : f_X0_isThere cg 0 p = f_X6_isPerson mg p := by
  unfold f_X0_isThere f_X6_isPerson f_X6_isIn
  have e := sz_m1 h.2.2.2.1.1
  have e1 : cg (40 + 0) 1 = mg 1 0 := h.1
  rw [e1]
  by_cases c : p < 0
  · rw [if_pos c, if_pos c]
  · rw [if_neg c, if_neg c]
    by_cases d : mg 1 0 ≤ p
    · rw [if_pos d, if_pos (i_lt.mpr (by have := i_le.mp d; omega))]
    · rw [if_neg d, if_neg (fun q => by have := i_lt.mp q; have := lt_of_nle d; omega)]
theorem person_in (h : FR cg 0 mg 1) {p : Int32} (c : ¬ f_X6_isPerson mg p = 0) : 0 ≤ p.toInt ∧ p.toInt < (mg 1 0).toInt := FR_in h (by rw [isThere_eq h]; exact c)
theorem areTwo_eq (h : FR cg 0 mg 1) {p q : Int32} : f_X0_areTwo cg 0 p q = if f_X6_isPerson mg p = 0 then 0 else if f_X6_isPerson mg q = 0 then 0 else if p = q then 0 else 1 := by
  unfold f_X0_areTwo
  rw [isThere_eq h, isThere_eq h]
theorem eq_joys (h : FR cg 0 mg 1) (p q w : Int32) : f_X5_joys cg p q w = f_X6_joys mg p q w := by
  have n1 : ¬ (1 : Int32) = 0 := by decide
  unfold f_X5_joys f_X6_joys f_X6_wrongTurn
  rw [areTwo_eq h, isWithin_eq]
  by_cases a : f_X6_isIn w 0 2 = 0
  · simp only [if_pos a, ite_self]
  · simp only [if_neg a]
    by_cases b : f_X6_isPerson mg p = 0
    · simp only [if_pos b]
      rfl
    · simp only [if_neg b]
      by_cases c : f_X6_isPerson mg q = 0
      · simp only [if_pos c]
        rfl
      · simp only [if_neg c]
        by_cases d : p = q
        · simp only [if_pos d]
          rfl
        · obtain ⟨p0, p1⟩ := person_in h b
          obtain ⟨q0, q1⟩ := person_in h c
          simp only [if_neg d, if_neg n1]
          rw [canEat_eq h p0 p1 q0 q1]
          by_cases e : f_X6_canEat mg 1 p q = 0
          · simp only [if_pos e]
            rfl
          · simp only [if_neg e]
            rw [joysOf_eq h p0 p1 q0 q1, joyOfEating_eq h p0 p1 q0 q1]
            unfold f_X0_joyOfLooking
            rw [stilledWish_eq h q0 q1]
            rfl
/-- the best turn is told of two who are there -/
theorem bestIn_L2 {k : Nat} (hs : 0 ≤ (mg k 0).toInt ∧ (mg k 0).toInt ≤ 8) : ∀ (n m : Nat) (a1 a2 a3 : Int32), lc a3 (mg k 0) n → (¬ a1 < 0 → ∃ p q : Int32, a1 = 10 * p + q ∧ (0 ≤ p.toInt ∧ p.toInt < (mg k 0).toInt) ∧ 0 ≤ q.toInt ∧ q.toInt < (mg k 0).toInt) →
    (¬ f_X6_bestIn_7 mg k n a1 a2 a3 < 0 → ∃ p q : Int32, f_X6_bestIn_7 mg k n a1 a2 a3 = 10 * p + q ∧ (0 ≤ p.toInt ∧ p.toInt < (mg k 0).toInt) ∧ 0 ≤ q.toInt ∧ q.toInt < (mg k 0).toInt) := by
  intro n
  induction n with
  | zero => intro m a1 a2 a3 h1; exact absurd h1.2 (Nat.not_lt_zero _)
  | succ n ih =>
    intro m a1 a2 a3 h1 ha
    rw [f_X6_bestIn_7]
    by_cases c : mg k 0 ≤ a3
    · rw [if_pos c]; exact ha
    · rw [if_neg c]
      have c2 := lt_of_nle c
      have n1 := lc_stepN h1 c
      have inner : ∀ (u : Nat) (b1 b2 b4 : Int32), lc b4 (mg k 0) u → (¬ b1 < 0 → ∃ p q : Int32, b1 = 10 * p + q ∧ (0 ≤ p.toInt ∧ p.toInt < (mg k 0).toInt) ∧ 0 ≤ q.toInt ∧ q.toInt < (mg k 0).toInt) →
          (¬ f_X6_bestIn_17 mg k (fun a1' a2' a3' => f_X6_bestIn_7 mg k n a1' a2' a3') a1 a2 a3 u b1 b2 b4 < 0 → ∃ p q : Int32, f_X6_bestIn_17 mg k (fun a1' a2' a3' => f_X6_bestIn_7 mg k n a1' a2' a3') a1 a2 a3 u b1 b2 b4 = 10 * p + q ∧ (0 ≤ p.toInt ∧ p.toInt < (mg k 0).toInt) ∧ 0 ≤ q.toInt ∧ q.toInt < (mg k 0).toInt) := by
        intro u
        induction u with
        | zero => intro b1 b2 b4 h3; exact absurd h3.2 (Nat.not_lt_zero _)
        | succ u ihu =>
          intro b1 b2 b4 h3 hb
          rw [f_X6_bestIn_17]
          by_cases d : mg k 0 ≤ b4
          · simp only [if_pos d]
            exact ih m b1 b2 _ n1 hb
          · simp only [if_neg d]
            have d2 := lt_of_nle d
            have n3 := lc_stepN h3 d
            split
            · exact ihu _ _ _ n3 hb
            · split
              · exact ihu _ _ _ n3 (fun _ => ⟨a3, b4, rfl, ⟨h1.1, c2⟩, h3.1, d2⟩)
              · exact ihu _ _ _ n3 hb
      exact inner 10 a1 a2 0 (lc_0 (by omega) (by decide)) ha
theorem bestIn_in2 (h : FR cg 0 mg 1) (c : ¬ f_X6_bestIn mg 1 < 0) : (0 ≤ (f_X6_bestIn mg 1 / 10).toInt ∧ (f_X6_bestIn mg 1 / 10).toInt < (mg 1 0).toInt) ∧ 0 ≤ (f_X6_bestIn mg 1 - f_X6_bestIn mg 1 / 10 * 10).toInt ∧ (f_X6_bestIn mg 1 - f_X6_bestIn mg 1 / 10 * 10).toInt < (mg 1 0).toInt := by
  have h8 := h.2.2.2.1
  obtain ⟨p, q, e, ⟨p0, p1⟩, q0, q1⟩ := bestIn_L2 (mg := mg) (k := 1) h8 10 0 (-4) (-1) 0 (lc_0 (by omega) (by decide)) (fun q => absurd (by decide) q) c
  have e2 : f_X6_bestIn mg 1 = 10 * p + q := e
  rw [e2]
  have t10 : (10 : Int32).toInt = 10 := rfl
  have m1 : (10 * p).toInt = 10 * p.toInt := by rw [mul_toInt (by omega) (by omega) (by omega) (by omega), t10]
  have m2 : (10 * p + q).toInt = 10 * p.toInt + q.toInt := by rw [add_toInt (by omega) (by omega) (by omega) (by omega), m1]
  have d1 : ((10 * p + q) / 10).toInt = p.toInt := by
    rw [div_toInt (by omega) (by omega), m2, t10]
    omega
  have m3 : ((10 * p + q) / 10 * 10).toInt = 10 * p.toInt := by rw [mul_toInt (by omega) (by omega) (by omega) (by omega), d1, t10]; omega
  have s1 : ((10 * p + q) - (10 * p + q) / 10 * 10).toInt = q.toInt := by
    rw [sub_toInt (by omega) (by omega), m2, m3]
    omega
  rw [d1, s1]
  exact ⟨⟨p0, p1⟩, q0, q1⟩
theorem eq_bestPair (h : FR cg 0 mg 1) (w : Int32) : f_X5_bestPair cg w = f_X6_bestPair mg w := by
  unfold f_X5_bestPair f_X6_bestPair f_X5_isOneOfTwo f_X6_bestJoys
  rw [isWithin_eq, best_eq h]
  by_cases a : f_X6_isIn w 0 1 = 0
  · rw [if_pos a, if_pos a]
  · rw [if_neg a, if_neg a]
    by_cases b : f_X6_bestIn mg 1 < 0
    · rw [if_pos b, if_pos b]
    · rw [if_neg b, if_neg b]
      have b2 : (0 : Int32) ≤ f_X6_bestIn mg 1 := le_of_nlt b
      rw [if_pos b2]
      have hx := bestIn_in2 h b
      rw [joysOf_eq h hx.1.1 hx.1.2 hx.2.1 hx.2.2]
theorem ord_eq {w : Int32} (hw : vp_in w 8) : kOrd.getD (ix w) 0 = w := by
  rcases vin8_cases hw with rfl | rfl | rfl | rfl | rfl | rfl | rfl | rfl <;> rfl
theorem eq_slices (h : FR cg 0 mg 1) (w : Int32) : (f_X5_slices cg w).1 = (f_X6_slices mg w).1 ∧ FR (f_X5_slices cg w).2 0 (f_X6_slices mg w).2 1 := by
  unfold f_X5_slices f_X6_slices
  rw [isWithin_eq]
  by_cases a : f_X6_isIn w 0 99 = 0
  · simp only [if_pos a]
    exact ⟨trivial, h⟩
  · simp only [if_neg a]
    exact ⟨h.2.1, FR_upS (by decide) h rfl⟩
theorem in9_cases {w : Int32} (h : ¬ f_X6_isIn w 0 8 = 0) : w = 8 ∨ vp_in w 8 := by
  have h1 := isIn_in h
  have e0 : (0 : Int32).toInt = 0 := rfl
  have e8 : (8 : Int32).toInt = 8 := rfl
  by_cases c : w.toInt = 8
  · exact Or.inl (Int32.toInt_inj.mp c)
  · exact Or.inr (vin_of (by omega) (by omega))
theorem eq_person (h : FR cg 0 mg 1) (p w : Int32) : f_X5_person cg p w = f_X6_person mg p w := by
  unfold f_X5_person f_X6_person
  rw [isThere_eq h]
  by_cases b : f_X6_isPerson mg p = 0
  · rw [if_pos b, if_pos b]
  · rw [if_neg b, if_neg b]
    obtain ⟨p0, p1⟩ := person_in h b
    obtain ⟨⟨a0, a1, a4, a5, a6, a7, a2, a3, ak⟩, hp⟩ := h.at p0 p1
    by_cases c : f_X6_isIn w 0 8 = 0
    · rw [if_pos c]
      have nw : ∀ v : Int32, ¬ f_X6_isIn v 0 8 = 0 → ¬ w = v := fun v hv e => hv (e ▸ c)
      rw [if_neg (nw 0 (by decide)), if_neg (nw 1 (by decide)), if_neg (nw 2 (by decide)), if_neg (nw 3 (by decide)), if_neg (nw 4 (by decide)), if_neg (nw 5 (by decide)), if_neg (nw 6 (by decide)), if_neg (nw 7 (by decide)), if_neg (nw 8 (by decide))]
    · rw [if_neg c, a0, a1, a4, a5, a6, a7, a2, a3, ord_eq ak, bite_eq ak, gaze_eq ak, shy_eq ak, of_0 hp, of_1 hp]
      rcases in9_cases c with rfl | hw
      · rfl
      · rcases vin8_cases hw with rfl | rfl | rfl | rfl | rfl | rfl | rfl | rfl
        · rw [of_0 hp]; rfl
        · rw [of_1 hp]; rfl
        · rw [of_2 hp]; rfl
        · rw [of_3 hp]; rfl
        · rw [of_4 hp]; rfl
        · rw [of_5 hp]; rfl
        · rfl
        · rfl
end FRM
