section FRL
variable {cg mg : Mem} {t k : Nat}
theorem FR.c0 (h : FR cg t mg k) {p : Int32} (h0 : 0 ≤ p.toInt) (h1 : p.toInt < (mg k 0).toInt) : cg (8 * t + ix p) 0 = mg k (ix (f_X6_of p 0)) := by
  rw [of_0 (h.at h0 h1).2]; exact (h.at h0 h1).1.1
theorem FR.c1 (h : FR cg t mg k) {p : Int32} (h0 : 0 ≤ p.toInt) (h1 : p.toInt < (mg k 0).toInt) : cg (8 * t + ix p) 1 = mg k (ix (f_X6_of p 1)) := by
  rw [of_1 (h.at h0 h1).2]; exact (h.at h0 h1).1.2.1
theorem FR.c4 (h : FR cg t mg k) {p : Int32} (h0 : 0 ≤ p.toInt) (h1 : p.toInt < (mg k 0).toInt) : cg (8 * t + ix p) 4 = mg k (ix (f_X6_of p 2)) := by
  rw [of_2 (h.at h0 h1).2]; exact (h.at h0 h1).1.2.2.1
theorem FR.c5 (h : FR cg t mg k) {p : Int32} (h0 : 0 ≤ p.toInt) (h1 : p.toInt < (mg k 0).toInt) : cg (8 * t + ix p) 5 = mg k (ix (f_X6_of p 3)) := by
  rw [of_3 (h.at h0 h1).2]; exact (h.at h0 h1).1.2.2.2.1
theorem FR.c6 (h : FR cg t mg k) {p : Int32} (h0 : 0 ≤ p.toInt) (h1 : p.toInt < (mg k 0).toInt) : cg (8 * t + ix p) 6 = mg k (ix (f_X6_of p 4)) := by
  rw [of_4 (h.at h0 h1).2]; exact (h.at h0 h1).1.2.2.2.2.1
theorem FR.c7 (h : FR cg t mg k) {p : Int32} (h0 : 0 ≤ p.toInt) (h1 : p.toInt < (mg k 0).toInt) : cg (8 * t + ix p) 7 = mg k (ix (f_X6_of p 5)) := by
  rw [of_5 (h.at h0 h1).2]; exact (h.at h0 h1).1.2.2.2.2.2.1
theorem FR.c2 (h : FR cg t mg k) {p : Int32} (h0 : 0 ≤ p.toInt) (h1 : p.toInt < (mg k 0).toInt) : cg (8 * t + ix p) 2 = f_X6_bite (mg k (ix (f_X6_of p 0))) (mg k (ix (f_X6_of p 1))) := by
  obtain ⟨⟨a0, a1, a4, a5, a6, a7, a2, a3, ak⟩, hp⟩ := h.at h0 h1
  rw [of_0 hp, of_1 hp, a2, bite_eq ak]
theorem FR.z (h : FR cg 0 mg 1) : cg 40 1 = mg 1 0 := h.1
theorem FR.s (h : FR cg 0 mg 1) : cg 40 2 = mg 1 1 := h.2.1
theorem FR.st (h : FR cg 0 mg 1) : cg 40 3 = mg 1 2 := h.2.2.1
theorem FR.l9 (h : FR cg t mg k) : lc 0 (mg k 0) 9 := lc_0 (by have := h.2.2.2.1; omega) (by decide)
theorem FR.l10 (h : FR cg t mg k) : lc 0 (mg k 0) 10 := lc_0 (by have := h.2.2.2.1; omega) (by decide)

theorem who_I (h : FR cg 0 mg 1) {K K2 : Int32 → Int32 → Int32} {w a2 a3 : Int32} (hK : ∀ x : Int32, K x (a3 + 1) = K2 x (a3 + 1)) (p0 : 0 ≤ a3.toInt) (p1 : a3.toInt < (mg 1 0).toInt) : ∀ (n m : Nat) (b2 : Int32) (b4 : Int32), lc b4 (mg 1 0) n → lc b4 (mg 1 0) m → f_X5_who_27 cg w K a2 a3 n b2 b4 = f_X6_who_28 mg w K2 a2 a3 m b2 b4 := by
  intro n
  induction n with
  | zero => intro m b2 b4 h1; exact absurd h1.2 (Nat.not_lt_zero _)
  | succ n ih =>
    intro m b2 b4 h1 h2
    cases m with
    | zero => exact absurd h2.2 (Nat.not_lt_zero _)
    | succ m =>
      rw [f_X5_who_27, f_X6_who_28, h.z]
      by_cases c : mg 1 0 ≤ b4
      · simp only [if_pos c]
        exact hK _
      · simp only [if_neg c]
        have c2 := lt_of_nle c
        have n1 := lc_stepN h1 c
        have n2 := lc_stepN h2 c
        rw [canEat_eq h p0 p1 h1.1 c2, Int32.or_zero]
        (repeat' split) <;> exact ih _ _ _ n1 n2

theorem who_O (h : FR cg 0 mg 1) {w : Int32} : ∀ (n m : Nat) (a2 : Int32) (a3 : Int32), lc a3 (mg 1 0) n → lc a3 (mg 1 0) m → f_X5_who_13 cg w n a2 a3 = f_X6_who_15 mg w m a2 a3 := by
  intro n
  induction n with
  | zero => intro m a2 a3 h1; exact absurd h1.2 (Nat.not_lt_zero _)
  | succ n ih =>
    intro m a2 a3 h1 h2
    cases m with
    | zero => exact absurd h2.2 (Nat.not_lt_zero _)
    | succ m =>
      rw [f_X5_who_13, f_X6_who_15, h.z]
      by_cases c : mg 1 0 ≤ a3
      · simp only [if_pos c]

      · simp only [if_neg c]
        have c2 := lt_of_nle c
        have n1 := lc_stepN h1 c
        have n2 := lc_stepN h2 c
        exact who_I h (fun x => ih m x (a3 + 1) n1 n2) h1.1 c2 _ _ _ _ h.l9 h.l10

theorem eq_who (h : FR cg 0 mg 1) (w : Int32) : f_X5_who cg w = f_X6_who mg w := by
  unfold f_X5_who f_X6_who f_X5_isOneOfTwo
  rw [isWithin_eq, who_O h 9 10 0 0 h.l9 h.l10]

theorem jl_I (h : FR cg 0 mg 1) {K K2 : Int32 → Int32 → Int32} {a1 a2 : Int32} (hK : ∀ x : Int32, K x (a2 + 1) = K2 x (a2 + 1)) (p0 : 0 ≤ a2.toInt) (p1 : a2.toInt < (mg 1 0).toInt) : ∀ (n m : Nat) (b1 : Int32) (b3 : Int32), lc b3 (mg 1 0) n → lc b3 (mg 1 0) m → f_X5_joyless_17 cg K a1 a2 n b1 b3 = f_X6_joyless_16 mg K2 a1 a2 m b1 b3 := by
  intro n
  induction n with
  | zero => intro m b1 b3 h1; exact absurd h1.2 (Nat.not_lt_zero _)
  | succ n ih =>
    intro m b1 b3 h1 h2
    cases m with
    | zero => exact absurd h2.2 (Nat.not_lt_zero _)
    | succ m =>
      rw [f_X5_joyless_17, f_X6_joyless_16, h.z]
      by_cases c : mg 1 0 ≤ b3
      · simp only [if_pos c]
        exact hK _
      · simp only [if_neg c]
        have c2 := lt_of_nle c
        have n1 := lc_stepN h1 c
        have n2 := lc_stepN h2 c
        rw [canEat_eq h p0 p1 h1.1 c2, joysOf_eq h p0 p1 h1.1 c2, Int32.add_zero]
        (repeat' split) <;> exact ih _ _ _ n1 n2

theorem jl_O (h : FR cg 0 mg 1) : ∀ (n m : Nat) (a1 : Int32) (a2 : Int32), lc a2 (mg 1 0) n → lc a2 (mg 1 0) m → f_X5_joyless_4 cg n a1 a2 = f_X6_joyless_4 mg m a1 a2 := by
  intro n
  induction n with
  | zero => intro m a1 a2 h1; exact absurd h1.2 (Nat.not_lt_zero _)
  | succ n ih =>
    intro m a1 a2 h1 h2
    cases m with
    | zero => exact absurd h2.2 (Nat.not_lt_zero _)
    | succ m =>
      rw [f_X5_joyless_4, f_X6_joyless_4, h.z]
      by_cases c : mg 1 0 ≤ a2
      · simp only [if_pos c]

      · simp only [if_neg c]
        have c2 := lt_of_nle c
        have n1 := lc_stepN h1 c
        have n2 := lc_stepN h2 c
        exact jl_I h (fun x => ih m x (a2 + 1) n1 n2) h1.1 c2 _ _ _ _ h.l9 h.l10

theorem eq_joyless (h : FR cg 0 mg 1) : f_X5_joyless cg = f_X6_joyless mg := jl_O h 9 10 0 0 h.l9 h.l10

theorem bl_L (h : FR cg 0 mg 1) (r : RB mg 1) {p : Int32} (p0 : 0 ≤ p.toInt) (p1 : p.toInt < (mg 1 0).toInt) : ∀ (n m : Nat) (a2 : Int32) (a3 : Int32) (a4 : Int32), lc a4 (mg 1 0) n → lc a4 (mg 1 0) m → ((a2 < 0 → a3 = -1) ∧ (¬ a2 < 0 → a3 = f_X6_joysOf mg 1 p a2)) → f_X0_bestLookerAt_8 cg 0 p n a2 a3 a4 = f_X6_bestLooker_15 mg p m a2 a4 := by
  intro n
  induction n with
  | zero => intro m a2 a3 a4 h1; exact absurd h1.2 (Nat.not_lt_zero _)
  | succ n ih =>
    intro m a2 a3 a4 h1 h2 hI
    cases m with
    | zero => exact absurd h2.2 (Nat.not_lt_zero _)
    | succ m =>
      rw [f_X0_bestLookerAt_8, f_X6_bestLooker_15, h.1]
      by_cases c : mg 1 0 ≤ a4
      · simp only [if_pos c]

      · simp only [if_neg c]
        have c2 := lt_of_nle c
        have n1 := lc_stepN h1 c
        have n2 := lc_stepN h2 c
        rw [canEat_eq h p0 p1 h1.1 c2, joysOf_eq h p0 p1 h1.1 c2]
        have nl : ¬ a4 < 0 := fun q => by
          have := i_lt.mp q
          have e0 : (0 : Int32).toInt = 0 := rfl
          have := h1.1
          omega
        have jj := (r.joys p0 p1 h1.1 c2).2.2.2
        have em : (-1 : Int32).toInt = -1 := rfl
        by_cases e : f_X6_canEat mg 1 p a4 = 0
        · simp only [if_pos e]
          exact ih _ _ _ _ n1 n2 hI
        · simp only [if_neg e]
          by_cases f : a2 < 0
          · have g : ¬ f_X6_joysOf mg 1 p a4 ≤ a3 := fun q => by
              have := i_le.mp q
              rw [hI.1 f] at this
              omega
            simp only [if_pos f, if_neg g]
            exact ih _ _ _ _ n1 n2 ⟨fun q => absurd q nl, fun _ => rfl⟩
          · simp only [if_neg f]
            rw [hI.2 f]
            split
            · exact ih _ _ _ _ n1 n2 ⟨fun q => absurd q f, fun _ => rfl⟩
            · exact ih _ _ _ _ n1 n2 ⟨fun q => absurd q nl, fun _ => rfl⟩

theorem eq_bestLooker (h : FR cg 0 mg 1) (r : RB mg 1) (p : Int32) : f_X5_bestLooker cg p = f_X6_bestLooker mg p := by
  unfold f_X5_bestLooker f_X6_bestLooker
  rw [isThere_eq h]
  by_cases c : f_X6_isPerson mg p = 0
  · rw [if_pos c, if_pos c]
  · rw [if_neg c, if_neg c]
    obtain ⟨p0, p1⟩ := person_in h c
    exact bl_L h r p0 p1 9 10 _ _ _ h.l9 h.l10 ⟨fun _ => rfl, fun q => absurd (by decide) q⟩

theorem hu_L (h : FR cg 0 mg 1) : ∀ (n m : Nat) (a1 : Int32) (a2 : Int32), lc a2 (mg 1 0) n → lc a2 (mg 1 0) m → f_X0_allHunger_4 cg 0 n a1 a2 = f_X6_hungerAll_4 mg m a1 a2 := by
  intro n
  induction n with
  | zero => intro m a1 a2 h1; exact absurd h1.2 (Nat.not_lt_zero _)
  | succ n ih =>
    intro m a1 a2 h1 h2
    cases m with
    | zero => exact absurd h2.2 (Nat.not_lt_zero _)
    | succ m =>
      rw [f_X0_allHunger_4, f_X6_hungerAll_4, h.1]
      by_cases c : mg 1 0 ≤ a2
      · simp only [if_pos c]

      · simp only [if_neg c]
        have c2 := lt_of_nle c
        have n1 := lc_stepN h1 c
        have n2 := lc_stepN h2 c
        rw [h.c4 h1.1 c2]
        exact ih _ _ _ n1 n2

theorem hu_eq (h : FR cg 0 mg 1) : f_X0_allHunger cg 0 = f_X6_hungerAll mg := hu_L h 9 10 0 0 h.l9 h.l10
theorem hu_in_L (r : RB mg 1) : ∀ (n : Nat) (a1 a2 : Int32), lc a2 (mg 1 0) n → (0 ≤ a1.toInt ∧ a1.toInt ≤ 30 * a2.toInt ∧ a2.toInt ≤ 9) → 0 ≤ (f_X6_hungerAll_4 mg n a1 a2).toInt ∧ (f_X6_hungerAll_4 mg n a1 a2).toInt ≤ 270 := by
  intro n
  induction n with
  | zero => intro a1 a2 h1; exact absurd h1.2 (Nat.not_lt_zero _)
  | succ n ih =>
    intro a1 a2 h1 hI
    have h8 := r.1
    rw [f_X6_hungerAll_4]
    by_cases c : mg 1 0 ≤ a2
    · rw [if_pos c]
      exact ⟨hI.1, by omega⟩
    · rw [if_neg c]
      have c2 := lt_of_nle c
      have n1 := lc_stepN h1 c
      have hh := r.h h1.1 c2
      have e1 : (a2 + 1).toInt = a2.toInt + 1 := inc_toInt h1.1 c2
      refine ih _ _ n1 ?_
      rw [addS (by omega) (by omega), e1]
      omega
theorem hu_in (r : RB mg 1) : 0 ≤ (f_X6_hungerAll mg).toInt ∧ (f_X6_hungerAll mg).toInt ≤ 270 := hu_in_L r 10 0 0 (lc_0 (by have := r.1.2; omega) (by decide)) (by decide)
theorem stuck_L : ∀ (n : Nat) (a1 a2 : Int32), lc a2 (mg 1 0) n → f_X6_stuck_4 mg n a1 a2 = if mg 1 1 ≤ 0 then 0 else if f_X6_hungerAll_4 mg n a1 a2 ≤ 0 then 0 else if 0 ≤ f_X6_bestIn mg 1 then 0 else 1 := by
  intro n
  induction n with
  | zero => intro a1 a2 h1; exact absurd h1.2 (Nat.not_lt_zero _)
  | succ n ih =>
    intro a1 a2 h1
    rw [f_X6_stuck_4, f_X6_hungerAll_4]
    by_cases c : mg 1 0 ≤ a2
    · simp only [if_pos c]
    · simp only [if_neg c]
      exact ih _ _ (lc_stepN h1 c)
theorem eq_stuck (h : FR cg 0 mg 1) : f_X5_stuck cg = f_X6_stuck mg := by
  unfold f_X5_stuck f_X6_stuck
  rw [stuck_L 10 0 0 h.l10, h.s, hu_eq h, best_eq h]
  rfl
theorem eq_feeds (h : FR cg 0 mg 1) (r : RB mg 1) (p : Int32) : f_X5_feeds cg p = f_X6_feeds mg p := by
  unfold f_X5_feeds f_X6_feeds
  rw [isThere_eq h]
  by_cases c : f_X6_isPerson mg p = 0
  · rw [if_pos c, if_pos c]
  · obtain ⟨p0, p1⟩ := person_in h c
    have b := bite_in (w := mg 1 (ix (f_X6_of p 0))) (r.f p0 p1).1 (r.f p0 p1).2
    have e0 : (0 : Int32).toInt = 0 := rfl
    rw [if_neg c, if_neg c, h.c2 p0 p1, h.c4 p0 p1, if_neg]
    intro q
    have := i_le.mp q
    omega

theorem buy_L (h : FR cg 0 mg 1) {v : Int32} : ∀ (n m : Nat) (a2 : Int32) (a3 : Int32), lc a3 (mg 1 0) n → lc a3 (mg 1 0) m → f_X5_howManyBuy_4 cg v n a2 a3 = f_X6_buyers_4 mg v m a2 a3 := by
  intro n
  induction n with
  | zero => intro m a2 a3 h1; exact absurd h1.2 (Nat.not_lt_zero _)
  | succ n ih =>
    intro m a2 a3 h1 h2
    cases m with
    | zero => exact absurd h2.2 (Nat.not_lt_zero _)
    | succ m =>
      rw [f_X5_howManyBuy_4, f_X6_buyers_4, h.z]
      by_cases c : mg 1 0 ≤ a3
      · simp only [if_pos c]

      · simp only [if_neg c]
        have c2 := lt_of_nle c
        have n1 := lc_stepN h1 c
        have n2 := lc_stepN h2 c
        rw [h.c4 h1.1 c2, stilledHunger_eq h h1.1 c2, Int32.add_zero]
        (repeat' split) <;> exact ih _ _ _ n1 n2

theorem sell_L (h : FR cg 0 mg 1) {v : Int32} : ∀ (n m : Nat) (a2 : Int32) (a3 : Int32), lc a3 (mg 1 0) n → lc a3 (mg 1 0) m → f_X5_howManySell_4 cg v n a2 a3 = f_X6_sellers_4 mg v m a2 a3 := by
  intro n
  induction n with
  | zero => intro m a2 a3 h1; exact absurd h1.2 (Nat.not_lt_zero _)
  | succ n ih =>
    intro m a2 a3 h1 h2
    cases m with
    | zero => exact absurd h2.2 (Nat.not_lt_zero _)
    | succ m =>
      rw [f_X5_howManySell_4, f_X6_sellers_4, h.z]
      by_cases c : mg 1 0 ≤ a3
      · simp only [if_pos c]

      · simp only [if_neg c]
        have c2 := lt_of_nle c
        have n1 := lc_stepN h1 c
        have n2 := lc_stepN h2 c
        rw [canLook_eq h h1.1 c2, stilledWish_eq h h1.1 c2, Int32.add_zero]
        (repeat' split) <;> exact ih _ _ _ n1 n2

theorem buy_eq (h : FR cg 0 mg 1) (v : Int32) : f_X5_howManyBuy cg v = f_X6_buyers mg v := buy_L h 9 10 0 0 h.l9 h.l10
theorem sell_eq (h : FR cg 0 mg 1) (v : Int32) : f_X5_howManySell cg v = f_X6_sellers mg v := sell_L h 9 10 0 0 h.l9 h.l10
theorem eq_prices (h : FR cg 0 mg 1) (v w : Int32) : f_X5_prices cg v w = f_X6_prices mg v w := by
  unfold f_X5_prices f_X6_prices f_X5_isPrice f_X5_isOneOfTwo
  rw [isWithin_eq, isWithin_eq, buy_eq h, sell_eq h]
theorem min_lt {a b x : Int32} : ((if a < b then a else b) < x) ↔ (b < x ∨ a < x) := by
  by_cases h : a < b
  · rw [if_pos h]
    have h1 := i_lt.mp h
    exact ⟨fun q => Or.inr q, fun q => q.elim (fun q => i_lt.mpr (by have := i_lt.mp q; omega)) id⟩
  · rw [if_neg h]
    have h1 : ¬ a.toInt < b.toInt := fun q => h (i_lt.mpr q)
    exact ⟨fun q => Or.inl q, fun q => q.elim id (fun q => i_lt.mpr (by have := i_lt.mp q; omega))⟩
theorem clears_L (h : FR cg 0 mg 1) (g : Int32) : ∀ (n : Nat) (a : Int32), f_X5_clears_27 cg g n a = f_X6_clears_14 mg g n a := by
  intro n
  induction n with
  | zero => intro a; rfl
  | succ n ih =>
    intro a
    rw [f_X5_clears_27, f_X6_clears_14, buy_eq h, sell_eq h, h.s]
    by_cases c : (31 : Int32) < a
    · rw [if_pos c, if_pos c]
    · rw [if_neg c, if_neg c]
      by_cases d : mg 1 1 < f_X6_buyers mg a
      · rw [if_pos d, if_pos (min_lt.mpr (Or.inl d))]
        exact ih _
      · rw [if_neg d]
        by_cases e : f_X6_sellers mg g < f_X6_buyers mg a
        · rw [if_pos e, if_pos (min_lt.mpr (Or.inr e))]
          exact ih _
        · rw [if_neg e, if_neg (fun q => (min_lt.mp q).elim d e)]
theorem eq_clears (h : FR cg 0 mg 1) (g : Int32) : f_X5_clears cg g = f_X6_clears mg g := by
  unfold f_X5_clears f_X6_clears f_X5_isPrice
  rw [isWithin_eq, clears_L h]
theorem eq_lastOnes (a b w : Int32) : f_X5_lastOnes cg a b w = f_X6_lastOnes mg a b w := by
  unfold f_X5_lastOnes f_X6_lastOnes f_X5_isOneOfTwo
  rw [isWithin_eq, isWithin_eq, isWithin_eq]
  by_cases c : f_X6_isIn a 0 99 = 0
  · rw [if_pos c, if_pos c]
  · rw [if_neg c, if_neg c]
    by_cases d : f_X6_isIn b 1 9 = 0
    · rw [if_pos d, if_pos d]
    · rw [if_neg d, if_neg d]
      have e0 : (0 : Int32).toInt = 0 := rfl
      have e1 : (1 : Int32).toInt = 1 := rfl
      have e9 : (9 : Int32).toInt = 9 := rfl
      have h1 := isIn_in c
      have h2 := isIn_in d
      have hb : (b + 1).toInt = b.toInt + 1 := by rw [addS (by omega) (by omega), e1]
      have hm := mod_toInt (i := a) (k := b + 1) (by omega) (by omega)
      have hp : 0 ≤ a.toInt % (b + 1).toInt := Int.emod_nonneg _ (by omega)
      have hz : ∀ x : Int32, 0 ≤ x.toInt → (if 1 < x then 1 else x) = if x ≤ 0 then (0 : Int32) else 1 := fun x hx => by
        by_cases q : x ≤ 0
        · have q2 := i_le.mp q
          have q3 : x = 0 := Int32.toInt_inj.mp (by omega)
          rw [q3]
          decide
        · have q2 := lt_of_nle q
          rw [if_neg q]
          by_cases u : 1 < x
          · rw [if_pos u]
          · rw [if_neg u]
            have u2 : ¬ (1 : Int32).toInt < x.toInt := fun y => u (i_lt.mpr y)
            exact Int32.toInt_inj.mp (by omega)
      rw [hz _ (by rw [hm]; exact hp)]
theorem part_eq (h : FR cg 0 mg 1) (r : RB mg 1) {p : Int32} (p0 : 0 ≤ p.toInt) (p1 : p.toInt < (mg 1 0).toInt) : f_X5_shareOf cg p = f_X6_partOfSlices mg p := by
  unfold f_X5_shareOf f_X6_partOfSlices
  have n1 : ¬ (1 : Int32) = 0 := by decide
  have e0 : (0 : Int32).toInt = 0 := rfl
  rw [hu_eq h, isThere_1 h p0 p1, if_neg n1, h.s, h.c4 p0 p1]
  by_cases c : f_X6_hungerAll mg = 0
  · rw [if_pos c, if_pos (by rw [c]; decide)]
  · rw [if_neg c, if_neg]
    intro q
    have := i_le.mp q
    have := (hu_in r).1
    exact c (Int32.toInt_inj.mp (by omega))

theorem sh_L (h : FR cg 0 mg 1) (r : RB mg 1) {w : Int32} : ∀ (n m : Nat) (a2 : Int32) (a3 : Int32), lc a3 (mg 1 0) n → lc a3 (mg 1 0) m → f_X5_shares_38 cg w n a2 a3 = f_X6_shares_34 mg w m a2 a3 := by
  intro n
  induction n with
  | zero => intro m a2 a3 h1; exact absurd h1.2 (Nat.not_lt_zero _)
  | succ n ih =>
    intro m a2 a3 h1 h2
    cases m with
    | zero => exact absurd h2.2 (Nat.not_lt_zero _)
    | succ m =>
      rw [f_X5_shares_38, f_X6_shares_34, h.z]
      by_cases c : mg 1 0 ≤ a3
      · simp only [if_pos c]

      · simp only [if_neg c]
        have c2 := lt_of_nle c
        have n1 := lc_stepN h1 c
        have n2 := lc_stepN h2 c
        rw [part_eq h r h1.1 c2]
        exact ih _ _ _ n1 n2

theorem eq_shares (h : FR cg 0 mg 1) (r : RB mg 1) (p : Int32) : f_X5_shares cg p = f_X6_shares mg p := by
  unfold f_X5_shares f_X6_shares
  have e0 : (0 : Int32).toInt = 0 := rfl
  have em : (-1 : Int32).toInt = -1 := rfl
  have hz := sz_m1 h.2.2.2.1.1
  have h8 := h.2.2.2.1
  rw [h.s, h.z, sh_L h r 9 10 _ _ h.l9 h.l10]
  by_cases c : p = -1
  · subst c
    rw [if_pos rfl, if_neg (by decide), if_pos (i_lt.mpr (by omega)), if_pos (by decide), if_pos (by decide)]
  · have hc := ne_toInt c
    rw [if_neg c]
    by_cases d : p < -1
    · have d2 := i_lt.mp d
      rw [if_pos d]
      have e : f_X6_isPerson mg p = 0 := by
        unfold f_X6_isPerson f_X6_isIn
        rw [if_pos (i_lt.mpr (by omega))]
      rw [if_pos e]
    · have d2 : ¬ p.toInt < (-1 : Int32).toInt := fun q => d (i_lt.mpr q)
      rw [if_neg d]
      by_cases f : p < mg 1 0
      · have f2 := i_lt.mp f
        have e : ¬ f_X6_isPerson mg p = 0 := by
          unfold f_X6_isPerson f_X6_isIn
          rw [if_neg (fun q => by have := i_lt.mp q; omega), if_neg (fun q => by have := i_lt.mp q; omega)]
          decide
        rw [if_pos f, if_neg e, if_neg (fun q => by have := i_lt.mp q; omega), if_neg (fun q => by have := i_lt.mp q; omega)]
        exact part_eq h r (by omega) f2
      · have f2 : ¬ p.toInt < (mg 1 0).toInt := fun q => f (i_lt.mpr q)
        have e : f_X6_isPerson mg p = 0 := by
          unfold f_X6_isPerson f_X6_isIn
          rw [if_neg (fun q => by have := i_lt.mp q; omega), if_pos (i_lt.mpr (by omega))]
        rw [if_neg f, if_pos e]
end FRL
