section FRN
variable {cg mg : Mem}
/-- the step's bounds -/
def TB (mg : Mem) : Prop := 0 ≤ (mg 1 2).toInt ∧ (mg 1 2).toInt ≤ 999
theorem turn_2 {p q : Int32} (hp : vp_in p 9) (hq : vp_in q 9) : f_X6_turn_m6 mg 1 p q 1 2 = mg 1 2 + 1 := by
  have n2 : ∀ {x c : Int32}, vp_in x 9 → vp_in c 6 → 2 ≠ ix (f_X6_of x c) := fun hx hc => by rw [ix_of hx hc]; omega
  unfold f_X6_turn_m6
  rw [up_eq]
  unfold f_X6_turn_m5 f_X6_turn_m4 f_X6_turn_m3 f_X6_turn_m2 f_X6_turn_m1
  rw [up_ne (Or.inr (by decide)), up_ne (Or.inr (n2 hq vc5)), up_ne (Or.inr (n2 hp vc4)), up_ne (Or.inr (n2 hq vc3)), up_ne (Or.inr (n2 hp vc2))]
theorem eq_eats (h : FR cg 0 mg 1) (hs : TB mg) (p q : Int32) : (f_X5_eats cg p q).1 = (f_X6_eats mg p q).1 ∧ FR (f_X5_eats cg p q).2 0 (f_X6_eats mg p q).2 1 ∧ TB (f_X6_eats mg p q).2 := by
  have n1 : ¬ (1 : Int32) = 0 := by decide
  have m1 : ¬ (-1 : Int32) = 0 := by decide
  have m3 : ¬ (-3 : Int32) = 0 := by decide
  unfold f_X5_eats f_X6_eats f_X6_wrongTurn f_X0_mayTurn
  rw [areTwo_eq h]
  by_cases b : f_X6_isPerson mg p = 0
  · simp only [if_pos b, if_neg m1]
    exact ⟨rfl, h, hs⟩
  · simp only [if_neg b]
    by_cases c : f_X6_isPerson mg q = 0
    · simp only [if_pos c, if_neg m1]
      exact ⟨rfl, h, hs⟩
    · simp only [if_neg c]
      by_cases d : p = q
      · simp only [if_pos d, if_neg m1]
        exact ⟨rfl, h, hs⟩
      · obtain ⟨p0, p1⟩ := person_in h b
        obtain ⟨q0, q1⟩ := person_in h c
        simp only [if_neg d, if_neg n1]
        rw [canEat_eq h p0 p1 q0 q1]
        by_cases e : f_X6_canEat mg 1 p q = 0
        · simp only [if_pos e, if_neg m3]
          exact ⟨rfl, h, hs⟩
        · simp only [if_neg e]
          have e3 : cg (40 + 0) 3 = mg 1 2 := h.2.2.1
          rw [e3]
          have k9 : (999 : Int32).toInt = 999 := rfl
          by_cases f : (999 : Int32) ≤ mg 1 2
          · have f2 : mg 1 2 = 999 := Int32.toInt_inj.mp (by have := i_le.mp f; have := hs.2; omega)
            simp only [if_pos f, if_pos f2]
            exact ⟨rfl, h, hs⟩
          · have f2 : ¬ mg 1 2 = 999 := fun q => f (by rw [q]; decide)
            simp only [if_neg f, if_neg f2, if_neg n1]
            refine ⟨joysOf_eq h p0 p1 q0 q1, FR_turn (by decide) h p0 p1 q0 q1, ?_⟩
            have f3 := lt_of_nle f
            have t : (f_X6_turn_m6 mg 1 p q 1 2).toInt = (mg 1 2).toInt + 1 := by rw [turn_2 (h.at p0 p1).2 (h.at q0 q1).2, add1_toInt hs.1 (by omega)]
            show 0 ≤ (f_X6_turn_m6 mg 1 p q 1 2).toInt ∧ (f_X6_turn_m6 mg 1 p q 1 2).toInt ≤ 999
            have := hs.1
            omega
theorem eq_feels (h : FR cg 0 mg 1) (hs : TB mg) (p w v : Int32) : (f_X5_feels cg p w v).1 = (f_X6_feels mg p w v).1 ∧ FR (f_X5_feels cg p w v).2 0 (f_X6_feels mg p w v).2 1 ∧ TB (f_X6_feels mg p w v).2 := by
  unfold f_X5_feels f_X6_feels f_X5_isOneOfTwo f_X5_isFeeling
  rw [isThere_eq h, isWithin_eq, isWithin_eq]
  by_cases b : f_X6_isPerson mg p = 0
  · simp only [if_pos b]
    exact ⟨trivial, h, hs⟩
  · simp only [if_neg b]
    by_cases c : f_X6_isIn w 0 1 = 0
    · simp only [if_pos c]
      exact ⟨trivial, h, hs⟩
    · simp only [if_neg c]
      by_cases d : f_X6_isIn v 0 30 = 0
      · simp only [if_pos d]
        exact ⟨trivial, h, hs⟩
      · simp only [if_neg d]
        obtain ⟨p0, p1⟩ := person_in h b
        obtain ⟨⟨a0, a1, a4, a5, a6, a7, a2, a3, ak⟩, hp⟩ := h.at p0 p1
        by_cases e : w = 0
        · simp only [if_pos e]
          rw [of_2 hp]
          refine ⟨a4, FR_up4 (by decide) h p0 p1 rfl, ?_⟩
          unfold TB
          rw [up_ne (Or.inr (by omega))]
          exact hs
        · simp only [if_neg e]
          rw [of_3 hp]
          refine ⟨a5, FR_up5 (by decide) h p0 p1 rfl, ?_⟩
          unfold TB
          rw [up_ne (Or.inr (by omega))]
          exact hs
end FRN
