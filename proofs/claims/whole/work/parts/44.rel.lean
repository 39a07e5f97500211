section FRC
variable {cg mg : Mem}

theorem wi_L (h : FR cg 0 mg 1) : ∀ (n m : Nat) (a1 : Int32) (a2 : Int32), lc a2 (mg 1 0) n → lc a2 (mg 1 0) m → f_X0_allWish_4 cg 0 n a1 a2 = f_X6_count_32 mg 4 m a1 a2 := by
  intro n
  induction n with
  | zero => intro m a1 a2 h1; exact absurd h1.2 (Nat.not_lt_zero _)
  | succ n ih =>
    intro m a1 a2 h1 h2
    cases m with
    | zero => exact absurd h2.2 (Nat.not_lt_zero _)
    | succ m =>
      rw [f_X0_allWish_4, f_X6_count_32, h.1]
      by_cases c : mg 1 0 ≤ a2
      · simp only [if_pos c]

      · simp only [if_neg c]
        have c2 := lt_of_nle c
        have n1 := lc_stepN h1 c
        have n2 := lc_stepN h2 c
        rw [h.c5 h1.1 c2, if_neg (by decide), if_pos trivial]
        exact ih _ _ _ n1 n2

theorem ea_L (h : FR cg 0 mg 1) : ∀ (n m : Nat) (a1 : Int32) (a2 : Int32), lc a2 (mg 1 0) n → lc a2 (mg 1 0) m → f_X0_allEaten_4 cg 0 n a1 a2 = f_X6_count_32 mg 5 m a1 a2 := by
  intro n
  induction n with
  | zero => intro m a1 a2 h1; exact absurd h1.2 (Nat.not_lt_zero _)
  | succ n ih =>
    intro m a1 a2 h1 h2
    cases m with
    | zero => exact absurd h2.2 (Nat.not_lt_zero _)
    | succ m =>
      rw [f_X0_allEaten_4, f_X6_count_32, h.1]
      by_cases c : mg 1 0 ≤ a2
      · simp only [if_pos c]

      · simp only [if_neg c]
        have c2 := lt_of_nle c
        have n1 := lc_stepN h1 c
        have n2 := lc_stepN h2 c
        rw [h.c6 h1.1 c2, if_neg (by decide), if_neg (by decide), if_pos trivial]
        exact ih _ _ _ n1 n2

theorem hc_L (h : FR cg 0 mg 1) : ∀ (n m : Nat) (a1 : Int32) (a2 : Int32), lc a2 (mg 1 0) n → lc a2 (mg 1 0) m → f_X0_allHunger_4 cg 0 n a1 a2 = f_X6_count_32 mg 3 m a1 a2 := by
  intro n
  induction n with
  | zero => intro m a1 a2 h1; exact absurd h1.2 (Nat.not_lt_zero _)
  | succ n ih =>
    intro m a1 a2 h1 h2
    cases m with
    | zero => exact absurd h2.2 (Nat.not_lt_zero _)
    | succ m =>
      rw [f_X0_allHunger_4, f_X6_count_32, h.1]
      by_cases c : mg 1 0 ≤ a2
      · simp only [if_pos c]

      · simp only [if_neg c]
        have c2 := lt_of_nle c
        have n1 := lc_stepN h1 c
        have n2 := lc_stepN h2 c
        rw [h.c4 h1.1 c2, if_pos trivial]
        exact ih _ _ _ n1 n2

theorem orp_all : ∀ i : Fin 8, ∀ j : Fin 256, (j : Nat) < 2 ^ (i : Nat) → (nI j ||| (1 <<< (nI i &&& 31)) : Int32) = nI j + (1 <<< (nI i &&& 31)) ∧ (nI j + (1 <<< (nI i &&& 31)) : Int32).toInt = (j : Int) + (2 ^ (i : Nat) : Nat) := by decide +kernel
theorem orp {a i : Int32} (hi : vp_in i 8) (h0 : 0 ≤ a.toInt) (h1 : a.toInt < (2 ^ (ix i) : Nat)) : a ||| (1 <<< (i &&& 31)) = a + (1 <<< (i &&& 31)) ∧ (a + (1 <<< (i &&& 31))).toInt = a.toInt + (2 ^ (ix i) : Nat) := by
  have hi2 := vp_in_iff.mp hi
  obtain ⟨j, hj, rfl⟩ := nn_of h0
  obtain ⟨k, hk, rfl⟩ := nn_of hi2.1
  rw [nI_toInt hk] at hi2
  have ek : ix (nI k) = k := by
    have := ix_toInt (x := nI k) (by rw [nI_toInt hk]; omega)
    rw [nI_toInt hk] at this
    omega
  rw [ek, nI_toInt hj] at h1
  rw [ek, nI_toInt hj]
  have k8 : k < 8 := by omega
  have p8 : 2 ^ k ≤ 2 ^ 7 := Nat.pow_le_pow_right (by decide) (by omega)
  exact orp_all ⟨k, k8⟩ ⟨j, by omega⟩ (by show j < 2 ^ k; omega)

theorem no_L (h : FR cg 0 mg 1) : ∀ (n m : Nat) (a1 : Int32) (a2 : Int32), lc a2 (mg 1 0) n → lc a2 (mg 1 0) m → (0 ≤ a1.toInt ∧ a1.toInt < (2 ^ (ix a2) : Nat)) → f_X0_whoHasHadNone_4 cg 0 n a1 a2 = f_X6_count_32 mg 6 m a1 a2 := by
  intro n
  induction n with
  | zero => intro m a1 a2 h1; exact absurd h1.2 (Nat.not_lt_zero _)
  | succ n ih =>
    intro m a1 a2 h1 h2 hI
    cases m with
    | zero => exact absurd h2.2 (Nat.not_lt_zero _)
    | succ m =>
      rw [f_X0_whoHasHadNone_4, f_X6_count_32, h.1]
      by_cases c : mg 1 0 ≤ a2
      · simp only [if_pos c]

      · simp only [if_neg c]
        have c2 := lt_of_nle c
        have n1 := lc_stepN h1 c
        have n2 := lc_stepN h2 c
        rw [h.c6 h1.1 c2, if_neg (show ¬ (6 : Int32) = 3 by decide), if_neg (show ¬ (6 : Int32) = 4 by decide), if_neg (show ¬ (6 : Int32) = 5 by decide), Int32.add_zero]
        have h8 := h.2.2.2.1
        have e1 : (a2 + 1).toInt = a2.toInt + 1 := inc_toInt h1.1 c2
        have x0 := ix_toInt h1.1
        have x1 := ix_toInt (x := a2 + 1) (by have := h1.1; omega)
        have ex : ix (a2 + 1) = ix a2 + 1 := by omega
        have pw : (2 ^ (ix (a2 + 1)) : Nat) = 2 ^ (ix a2) * 2 := by rw [ex, Nat.pow_succ]
        by_cases e : mg 1 (ix (f_X6_of a2 4)) = 0
        · obtain ⟨o1, o2⟩ := orp (vin_of h1.1 (by omega)) hI.1 hI.2
          simp only [if_pos e]
          rw [o1]
          exact ih _ _ _ n1 n2 ⟨by omega, by omega⟩
        · simp only [if_neg e]
          exact ih _ _ _ n1 n2 ⟨hI.1, by have := hI.2; omega⟩

theorem eq_count (h : FR cg 0 mg 1) (w : Int32) : f_X5_count cg w = f_X6_count mg w := by
  have i0 : ix (0 : Int32) = 0 := by decide
  have i1 : ix (1 : Int32) = 1 := by decide
  have i2 : ix (2 : Int32) = 2 := by decide
  unfold f_X5_count f_X6_count
  rw [h.z, h.s, h.st]
  by_cases c0 : w = 0
  · subst c0; rw [if_pos rfl, if_neg (by decide), i0]
  · rw [if_neg c0]
    by_cases c1 : w = 1
    · subst c1; rw [if_pos rfl, if_neg (by decide), i1]
    · rw [if_neg c1]
      by_cases c2 : w = 2
      · subst c2; rw [if_pos rfl, if_neg (by decide), i2]
      · have n0 := ne_toInt c0
        have n1 := ne_toInt c1
        have n2 := ne_toInt c2
        have e0 : (0 : Int32).toInt = 0 := rfl
        have e1 : (1 : Int32).toInt = 1 := rfl
        have e2 : (2 : Int32).toInt = 2 := rfl
        have z : f_X6_isIn w 0 2 = 0 := by
          by_cases q : f_X6_isIn w 0 2 = 0
          · exact q
          · have := isIn_in q
            exact absurd rfl (show ¬ (0 : Int) = 0 by omega)
        rw [if_neg c2, if_pos z]
        by_cases c3 : w = 3
        · subst c3; rw [if_pos rfl, if_neg (by decide)]; exact hc_L h 9 10 0 0 h.l9 h.l10
        · rw [if_neg c3]
          by_cases c4 : w = 4
          · subst c4; rw [if_pos rfl, if_neg (by decide)]; exact wi_L h 9 10 0 0 h.l9 h.l10
          · rw [if_neg c4]
            by_cases c5 : w = 5
            · subst c5; rw [if_pos rfl, if_neg (by decide)]; exact ea_L h 9 10 0 0 h.l9 h.l10
            · rw [if_neg c5]
              by_cases c6 : w = 6
              · subst c6; rw [if_pos rfl, if_neg (by decide)]; exact no_L h 9 10 0 0 h.l9 h.l10 (by decide)
              · have n3 := ne_toInt c3
                have n4 := ne_toInt c4
                have n5 := ne_toInt c5
                have n6 := ne_toInt c6
                have e3 : (3 : Int32).toInt = 3 := rfl
                have e4 : (4 : Int32).toInt = 4 := rfl
                have e5 : (5 : Int32).toInt = 5 := rfl
                have e6 : (6 : Int32).toInt = 6 := rfl
                have z3 : f_X6_isIn w 3 6 = 0 := by
                  by_cases q : f_X6_isIn w 3 6 = 0
                  · exact q
                  · have := isIn_in q
                    exact absurd rfl (show ¬ (0 : Int) = 0 by omega)
                rw [if_neg c6, if_pos z3]

theorem left_L (h : FR cg 0 mg 1) (r : RB mg 1) : ∀ (n m : Nat) (a1 : Int32) (a2 : Int32) (b3 : Int32) (b4 : Int32) (b5 : Int32) (a3 : Int32), lc a3 (mg 1 0) n → lc a3 (mg 1 0) m → ((a1 < 0 → a2 = 31) ∧ (¬ a1 < 0 → a2 = mg 1 (ix (f_X6_of a1 2)))) → f_X5_whoIsLeft_8 cg n a1 a2 a3 = f_X6_atAll_25 mg 1 m a1 b3 b4 b5 a3 := by
  intro n
  induction n with
  | zero => intro m a1 a2 b3 b4 b5 a3 h1; exact absurd h1.2 (Nat.not_lt_zero _)
  | succ n ih =>
    intro m a1 a2 b3 b4 b5 a3 h1 h2 hI
    cases m with
    | zero => exact absurd h2.2 (Nat.not_lt_zero _)
    | succ m =>
      rw [f_X5_whoIsLeft_8, f_X6_atAll_25, h.z]
      by_cases c : mg 1 0 ≤ a3
      · simp only [if_pos c]
        rw [if_pos trivial]
      · simp only [if_neg c]
        have c2 := lt_of_nle c
        have n1 := lc_stepN h1 c
        have n2 := lc_stepN h2 c
        rw [h.c4 h1.1 c2, canLook_eq h h1.1 c2]
        have nl : ¬ a3 < 0 := fun q => by
          have := i_lt.mp q
          have e0 : (0 : Int32).toInt = 0 := rfl
          have := h1.1
          omega
        have hh := r.h h1.1 c2
        have e31 : (31 : Int32).toInt = 31 := rfl
        have key : ∀ x y z : Int32, (if a2 ≤ mg 1 (ix (f_X6_of a3 2)) then f_X5_whoIsLeft_8 cg n a1 a2 (a3 + 1) else f_X5_whoIsLeft_8 cg n a3 (mg 1 (ix (f_X6_of a3 2))) (a3 + 1)) = (if a1 < 0 then f_X6_atAll_25 mg 1 m a3 x y z (a3 + 1) else if mg 1 (ix (f_X6_of a1 2)) ≤ mg 1 (ix (f_X6_of a3 2)) then f_X6_atAll_25 mg 1 m a1 x y z (a3 + 1) else f_X6_atAll_25 mg 1 m a3 x y z (a3 + 1)) := fun x y z => by
          by_cases f : a1 < 0
          · rw [if_pos f, if_neg]
            · exact ih _ _ _ _ _ _ _ n1 n2 ⟨fun q => absurd q nl, fun _ => rfl⟩
            · intro q
              have := i_le.mp q
              rw [hI.1 f] at this
              omega
          · rw [if_neg f, hI.2 f]
            split
            · exact ih _ _ _ _ _ _ _ n1 n2 ⟨fun q => absurd q f, fun _ => rfl⟩
            · exact ih _ _ _ _ _ _ _ n1 n2 ⟨fun q => absurd q nl, fun _ => rfl⟩
        by_cases e : f_X6_canLook mg 1 a3 = 0
        · simp only [if_pos e]
          (repeat' split) <;> exact ih _ _ _ _ _ _ _ n1 n2 hI
        · simp only [if_neg e]
          by_cases u1 : mg 1 (ix (f_X6_of a3 2)) ≤ 0
          · simp only [if_pos u1]
            exact key _ _ _
          · simp only [if_neg u1]
            by_cases u2 : mg 1 (ix (f_X6_of a3 4)) = 0
            · simp only [if_pos u2]
              exact key _ _ _
            · simp only [if_neg u2]
              exact key _ _ _

theorem all_L (h : FR cg 0 mg 1) (r : RB mg 1) : ∀ (n m : Nat) (a1 : Int32) (a2 : Int32) (a3 : Int32) (b2 : Int32) (b4 : Int32) (b5 : Int32) (a4 : Int32), lc a4 (mg 1 0) n → lc a4 (mg 1 0) m → (0 ≤ a2.toInt ∧ 0 ≤ b4.toInt ∧ 0 ≤ b5.toInt ∧ a2.toInt ≤ a4.toInt ∧ a2.toInt = b4.toInt + b5.toInt ∧ (a3 = 0 → b5 = 0) ∧ (¬ a3 = 0 → 0 < b5.toInt) ∧ a4.toInt ≤ 9) → f_X5_howManyEatAtAll_9 cg n a1 a2 a3 a4 = f_X6_atAll_25 mg 0 m b2 a1 b4 b5 a4 := by
  intro n
  induction n with
  | zero => intro m a1 a2 a3 b2 b4 b5 a4 h1; exact absurd h1.2 (Nat.not_lt_zero _)
  | succ n ih =>
    intro m a1 a2 a3 b2 b4 b5 a4 h1 h2 hI
    cases m with
    | zero => exact absurd h2.2 (Nat.not_lt_zero _)
    | succ m =>
      rw [f_X5_howManyEatAtAll_9, f_X6_atAll_25, h.z]
      by_cases c : mg 1 0 ≤ a4
      · simp only [if_pos c]
        have n10 : ¬ (0 : Int32) = 1 := by decide
        have e0 : (0 : Int32).toInt = 0 := rfl
        have sl := r.2.1
        simp only [if_neg n10]
        obtain ⟨i1, i2, i3, i4, i5, i6, i7, i8⟩ := hI
        rw [h.s]
        have hl : ∀ x : Int32, (if mg 1 1 < x then mg 1 1 else x) = f_X6_least (mg 1 1) x := least_eq _
        by_cases z : a2 = 0
        · have b4z : b4 = 0 := Int32.toInt_inj.mp (by rw [z] at i5; omega)
          have b5z : b5 = 0 := Int32.toInt_inj.mp (by rw [z] at i5; omega)
          have d1 : b5 ≤ 0 := by rw [b5z]; decide
          have d2 : b4 ≤ 0 := by rw [b4z]; decide
          rw [if_pos z, if_pos d1, if_pos d2]
          exact Int32.toInt_inj.mp (by rw [least_toInt]; omega)
        · have nz := ne_toInt z
          rw [if_neg z]
          by_cases y : a3 = 0
          · have b5z := i6 y
            have d1 : b5 ≤ 0 := by rw [b5z]; decide
            have d2 : ¬ b4 ≤ 0 := fun q => by
              have := i_le.mp q
              rw [b5z] at i5
              omega
            rw [if_pos y, if_pos d1, if_neg d2, hl]
          · have d1 : ¬ b5 ≤ 0 := fun q => by
              have := i_le.mp q
              have := i7 y
              omega
            rw [if_neg y, if_neg d1, hl]
      · simp only [if_neg c]
        have c2 := lt_of_nle c
        have n1 := lc_stepN h1 c
        have n2 := lc_stepN h2 c
        rw [h.c4 h1.1 c2, h.c6 h1.1 c2, canLook_eq h h1.1 c2, Int32.add_zero, Int32.add_zero, Int32.add_zero]
        obtain ⟨i1, i2, i3, i4, i5, i6, i7, i8⟩ := hI
        have h8 := r.1
        have e1 : (1 : Int32).toInt = 1 := rfl
        have e0 : (0 : Int32).toInt = 0 := rfl
        have s2 : (a2 + 1).toInt = a2.toInt + 1 := by rw [addS (by omega) (by omega), e1]
        have s4 : (b4 + 1).toInt = b4.toInt + 1 := by rw [addS (by omega) (by omega), e1]
        have s5 : (b5 + 1).toInt = b5.toInt + 1 := by rw [addS (by omega) (by omega), e1]
        have sa : (a4 + 1).toInt = a4.toInt + 1 := inc_toInt h1.1 c2
        have n10 : ¬ (1 : Int32) = 0 := by decide
        have A : ∀ x y z : Int32, f_X5_howManyEatAtAll_9 cg n x a2 a3 (a4 + 1) = f_X6_atAll_25 mg 0 m y x b4 b5 (a4 + 1) := fun x y z => ih _ _ _ _ _ _ _ _ n1 n2 ⟨i1, i2, i3, by omega, i5, i6, i7, by omega⟩
        have B : ∀ x y : Int32, f_X5_howManyEatAtAll_9 cg n x (a2 + 1) 1 (a4 + 1) = f_X6_atAll_25 mg 0 m y x b4 (b5 + 1) (a4 + 1) := fun x y => ih _ _ _ _ _ _ _ _ n1 n2 ⟨by omega, by omega, by omega, by omega, by omega, fun q => absurd q n10, fun _ => by omega, by omega⟩
        have C : ∀ x y z : Int32, (z = 0 ↔ a3 = 0) → f_X5_howManyEatAtAll_9 cg n x (a2 + 1) z (a4 + 1) = f_X6_atAll_25 mg 0 m y x (b4 + 1) b5 (a4 + 1) := fun x y z hz => ih _ _ _ _ _ _ _ _ n1 n2 ⟨by omega, by omega, by omega, by omega, by omega, fun q => i6 (hz.mp q), fun q => i7 (fun u => q (hz.mpr u)), by omega⟩
        by_cases e : f_X6_canLook mg 1 a4 = 0
        · simp only [if_pos e]
          (repeat' split) <;> exact A _ _ 0
        · simp only [if_neg e]
          by_cases f : mg 1 (ix (f_X6_of a4 2)) ≤ 0
          · simp only [if_pos f]
            (repeat' split) <;> exact B _ _
          · simp only [if_neg f]
            by_cases g : mg 1 (ix (f_X6_of a4 4)) = 0
            · simp only [if_pos g]
              by_cases y : a3 = 0
              · simp only [if_pos y]
                (repeat' split) <;> exact C _ _ _ ⟨fun _ => y, fun _ => rfl⟩
              · simp only [if_neg y]
                (repeat' split) <;> exact C _ _ _ ⟨fun q => absurd q n10, fun q => absurd q y⟩
            · simp only [if_neg g]
              (repeat' split) <;> exact B _ _

theorem eq_atAll (h : FR cg 0 mg 1) (r : RB mg 1) (w : Int32) : f_X5_atAll cg w = f_X6_atAll mg w := by
  unfold f_X5_atAll f_X6_atAll f_X5_isOneOfTwo
  rw [isWithin_eq]
  by_cases c : f_X6_isIn w 0 1 = 0
  · rw [if_pos c, if_pos c]
  · rw [if_neg c, if_neg c]
    by_cases d : w = 0
    · subst d
      rw [if_pos rfl]
      exact all_L h r 9 10 _ _ _ _ _ _ _ h.l9 h.l10 ⟨by decide, by decide, by decide, by decide, by decide, fun _ => rfl, fun q => absurd rfl q, by decide⟩
    · have h01 := isIn_in c
      have hne := ne_toInt d
      have e0 : (0 : Int32).toInt = 0 := rfl
      have e1 : (1 : Int32).toInt = 1 := rfl
      have w1 : w = 1 := Int32.toInt_inj.mp (by omega)
      subst w1
      rw [if_neg d]
      exact left_L h r 9 10 _ _ _ _ _ _ h.l9 h.l10 ⟨fun _ => rfl, fun q => absurd (by decide) q⟩
end FRC
