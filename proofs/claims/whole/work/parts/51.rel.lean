section FRT2
variable {cg mg : Mem} {t k : Nat}
/-- a row's element, now -/
theorem el_at (s : SRs cg mg) {d i : Int32} (c : f_X6_wrongRow mg d (-1) = 0) (i0 : 0 ≤ i.toInt) (i1 : i.toInt < (mg 12 (ix d)).toInt) : f_X4_at cg (ix d) i = mg 13 (ix (100 * d + i)) := by
  obtain ⟨_, _, _, _, hl, _⟩ := row_2 s c
  rw [at_eq s c]
  unfold f_X6_isIn
  have e := sz_m1 hl.1
  rw [if_neg (fun q => by have := lt0_iff.mp q; omega), if_neg (fun q => by have := i_lt.mp q; omega)]
  decide
theorem bits_g (g g2 : Mem) (x : Int32) : ∀ (n : Nat) (a b : Int32), f_X6_bits_4 g x n a b = f_X6_bits_4 g2 x n a b := by
  intro n
  induction n with
  | zero => intro a b; rfl
  | succ n ih =>
    intro a b
    rw [f_X6_bits_4, f_X6_bits_4, ih]
theorem bits_all : ∀ j : Fin 256, f_J6_bitCount_0f7a4 (nI j) = f_X6_bits (fun _ _ => 0) (nI j) := by decide +kernel
theorem bits_eq {x : Int32} (h0 : 0 ≤ x.toInt) (h1 : x.toInt < 256) : f_J6_bitCount_0f7a4 x = f_X6_bits mg x := by
  obtain ⟨j, hj, rfl⟩ := nn_of h0
  rw [nI_toInt hj] at h1
  have e : f_X6_bits mg (nI j) = f_X6_bits (fun _ _ => 0) (nI j) := bits_g _ _ _ _ _ _
  rw [e]
  exact bits_all ⟨j, by omega⟩
theorem th_0 {K : Int32 → Int32 → Int32} {d h f v a6 a7 : Int32} : ∀ (n : Nat) (b8 b10 : Int32), lc b10 (mg 12 (ix d)) n → f_X6_throat_70 mg d h f v K a6 a7 n b8 0 b10 = K a6 (a7 + 1) := by
  intro n
  induction n with
  | zero => intro b8 b10 h1; exact absurd h1.2 (Nat.not_lt_zero _)
  | succ n ih =>
    intro b8 b10 h1
    rw [f_X6_throat_70]
    by_cases c : mg 12 (ix d) ≤ b10
    · rw [if_pos c, if_pos rfl, Int32.or_zero]
    · rw [if_neg c]
      have n1 := lc_stepN h1 c
      have z1 : (0 : Int32) &&& 1 = 0 := by decide
      have z0 : (0 : Int32) &&& 0 = 0 := by decide
      rw [z1, z0]
      split <;> exact ih _ _ n1

theorem th_I (s : SRs cg mg) {d h f v a6 a7 : Int32} (c0 : f_X6_wrongRow mg d (-1) = 0) (hw : vp_in a7 8) {K : Int32 → Int32 → Int32} : ∀ (n m : Nat) (b8 : Int32) (b10 : Int32), lc b10 (mg 12 (ix d)) n → lc b10 (mg 12 (ix d)) m → (f_X5_hungerFellSo_5 cg (ix d) h (f_X1_biteWith a7 f) n b8 b10 = 0 ∧ f_X6_throat_70 mg d h f v K a6 a7 m b8 1 b10 = K a6 (a7 + 1)) ∨ (¬ f_X5_hungerFellSo_5 cg (ix d) h (f_X1_biteWith a7 f) n b8 b10 = 0 ∧ f_X6_throat_70 mg d h f v K a6 a7 m b8 1 b10 = K (a6 ||| (1 <<< (a7 &&& 31))) (a7 + 1)) := by
  intro n
  induction n with
  | zero => intro m b8 b10 h1; exact absurd h1.2 (Nat.not_lt_zero _)
  | succ n ih =>
    intro m b8 b10 h1 h2
    cases m with
    | zero => exact absurd h2.2 (Nat.not_lt_zero _)
    | succ m =>
      rw [f_X5_hungerFellSo_5, f_X6_throat_70, (row_2 s c0).2.2.1]
      by_cases c : mg 12 (ix d) ≤ b10
      · simp only [if_pos c]
        rw [if_neg (by decide : ¬ (1 : Int32) = 0)]
        exact Or.inr ⟨by decide, rfl⟩
      · simp only [if_neg c]
        have c2 := lt_of_nle c
        have n1 := lc_stepN h1 c
        have n2 := lc_stepN h2 c
        rw [el_at s c0 h1.1 c2, least_eq, bite_eq hw]
        have z1 : (1 : Int32) &&& 1 = 1 := by decide
        have z0 : (1 : Int32) &&& 0 = 0 := by decide
        rw [z1, z0]
        by_cases e : mg 13 (ix (100 * d + b10)) = f_X6_least b8 (f_X6_bite a7 f)
        · simp only [if_pos e]
          have := ih m (b8 - f_X6_least b8 (f_X6_bite a7 f)) (b10 + 1) n1 n2
          rw [bite_eq hw] at this
          exact this
        · simp only [if_neg e]
          exact Or.inl ⟨trivial, th_0 _ _ _ n2⟩

theorem th_O (s : SRs cg mg) {d h f v : Int32} (c0 : f_X6_wrongRow mg d (-1) = 0) : ∀ (n m : Nat) (a6 : Int32) (a7 : Int32), lc a7 (8) n → lc a7 (8) m → (0 ≤ a6.toInt ∧ a6.toInt < (2 ^ (ix a7) : Nat) ∧ a7.toInt ≤ 8) → f_X5_throat_52 cg d h f v n a6 a7 = f_X6_throat_54 mg d h f v m a6 a7 := by
  intro n
  induction n with
  | zero => intro m a6 a7 h1; exact absurd h1.2 (Nat.not_lt_zero _)
  | succ n ih =>
    intro m a6 a7 h1 h2 hI
    cases m with
    | zero => exact absurd h2.2 (Nat.not_lt_zero _)
    | succ m =>
      rw [f_X5_throat_52, f_X6_throat_54]
      by_cases c : 8 ≤ a7
      · simp only [if_pos c]
        have c3 := i_le.mp c
        have e8 : (8 : Int32).toInt = 8 := rfl
        have x7 := ix_toInt h1.1
        have p8 : 2 ^ (ix a7) ≤ 2 ^ 8 := Nat.pow_le_pow_right (by decide) (by omega)
        rw [bits_eq (mg := mg) hI.1 (by omega)]
      · simp only [if_neg c]
        have c2 := lt_of_nle c
        have n1 := lc_stepN h1 c
        have n2 := lc_stepN h2 c
        have e8 : (8 : Int32).toInt = 8 := rfl
        have hw : vp_in a7 8 := vin_of h1.1 (by omega)
        have hl := (row_2 s c0).2.2.2.2.1
        have l : lc 0 (mg 12 (ix d)) 101 := lc_0 (by omega) (by decide)
        have e1 : (a7 + 1).toInt = a7.toInt + 1 := inc_toInt h1.1 c2
        have x0 := ix_toInt h1.1
        have x1 := ix_toInt (x := a7 + 1) (by have := h1.1; omega)
        have ex : ix (a7 + 1) = ix a7 + 1 := by omega
        have pw : (2 ^ (ix (a7 + 1)) : Nat) = 2 ^ (ix a7) * 2 := by rw [ex, Nat.pow_succ]
        obtain ⟨o1, o2⟩ := orp hw hI.1 hI.2.1
        have key := th_I s (d := d) (h := h) (f := f) (v := v) (a6 := a6) (a7 := a7) c0 hw (K := fun a6' a7' => f_X6_throat_54 mg d h f v m a6' a7') 101 101 h 0 l l
        have u : f_X5_hungerFellSo cg (ix d) h (f_X1_biteWith a7 f) = f_X5_hungerFellSo_5 cg (ix d) h (f_X1_biteWith a7 f) 101 h 0 := rfl
        rw [u]
        rcases key with ⟨k1, k2⟩ | ⟨k1, k2⟩
        · rw [if_pos k1, k2]
          exact ih _ _ _ n1 n2 ⟨hI.1, by have := hI.2.1; omega, by omega⟩
        · rw [if_neg k1, k2]
          exact ih _ _ _ n1 n2 ⟨by rw [o1, o2]; have := hI.1; omega, by rw [o1, o2]; have := hI.2.1; omega, by omega⟩

theorem eq_throat (s : SRs cg mg) (d h f v : Int32) : f_X5_throat cg d h f v = f_X6_throat mg d h f v := by
  unfold f_X5_throat f_X6_throat f_X5_isFeeling f_X5_isFigure f_X5_isOneOfTwo
  rw [isWithin_eq, isWithin_eq, isWithin_eq, refusalR_eq s, isShelf_eq]
  by_cases a : f_X6_isShelf d = 0
  · have hw : f_X6_wrongRow mg d (-1) = -1 := by unfold f_X6_wrongRow; rw [if_pos a]
    have m1 : ¬ (-1 : Int32) = 0 := by decide
    rw [hw]
    simp only [if_pos a, if_neg m1, ite_self]
  · simp only [if_neg a]
    by_cases b : f_X6_wrongRow mg d (-1) = 0
    · simp only [if_pos b]
      have l : lc 0 8 9 := lc_0 (by decide) (by decide)
      rw [th_O s b 9 9 0 0 l l (by decide)]
    · simp only [if_neg b]
/-- who is there, now -/
theorem now_canEat (h : FR cg 0 mg 1) (x y : Int32) : f_X0_canEat cg 0 x y = if f_X6_isPerson mg x = 0 then 0 else if f_X6_isPerson mg y = 0 then 0 else f_X6_canEat mg 1 x y := by
  by_cases a : f_X6_isPerson mg x = 0
  · rw [if_pos a]
    unfold f_X0_canEat
    rw [areTwo_eq h, if_pos a, if_pos rfl]
  · rw [if_neg a]
    by_cases b : f_X6_isPerson mg y = 0
    · rw [if_pos b]
      unfold f_X0_canEat
      rw [areTwo_eq h, if_neg a, if_pos b, if_pos rfl]
    · rw [if_neg b]
      obtain ⟨p0, p1⟩ := person_in h a
      obtain ⟨q0, q1⟩ := person_in h b
      exact canEat_eq h p0 p1 q0 q1
/-- all elements of the row are of people -/
def PA (mg : Mem) (d : Int32) (n : Int) : Prop := ∀ i : Int32, 0 ≤ i.toInt → i.toInt < n → ¬ f_X6_isPerson mg (mg 13 (ix (100 * d + i))) = 0
theorem wp_103 (h : FR cg 0 mg 1) (s : SRs cg mg) {d : Int32} (c0 : f_X6_wrongRow mg d (-1) = 0) (ev : (mg 12 (ix d)).toInt % 2 = 0) (pa : PA mg d (mg 12 (ix d)).toInt) : ∀ (n : Nat) (a : Int32), (0 ≤ a.toInt ∧ a.toInt ≤ 102 ∧ a.toInt % 2 = 0 ∧ ((mg 12 (ix d)).toInt - a.toInt).toNat < n) →
    (f_X5_arePairsApart_78 cg (ix d) n a = 1 ∧ f_X6_wrongPairs_103 mg d n a = 0) ∨ (f_X5_arePairsApart_78 cg (ix d) n a = 0 ∧ f_X6_wrongPairs_103 mg d n a = -13) := by
  obtain ⟨_, _, e5, _, hl, _⟩ := row_2 s c0
  intro n
  induction n with
  | zero => intro a h1; exact absurd h1.2.2.2 (Nat.not_lt_zero _)
  | succ n ih =>
    intro a h1
    rw [f_X5_arePairsApart_78, f_X6_wrongPairs_103, e5]
    by_cases c : mg 12 (ix d) ≤ a
    · rw [if_pos c, if_pos c]; exact Or.inl ⟨rfl, rfl⟩
    · have c2 := lt_of_nle c
      rw [if_neg c, if_neg c]
      have a1 : (a + 1).toInt = a.toInt + 1 := add1_toInt h1.1 (by omega)
      have a2 : (a + 2).toInt = a.toInt + 2 := inc2_toInt h1.1 (by omega)
      have p1 := pa a h1.1 c2
      have p2 := pa (a + 1) (by omega) (by omega)
      have z1 := el_at s c0 h1.1 c2
      have z2 := el_at s c0 (i := a + 1) (by omega) (by omega)
      rw [← Int32.add_assoc] at z2 p2
      rw [z1, z2, now_canEat h, if_neg p1, if_neg p2]
      by_cases e : f_X6_canEat mg 1 (mg 13 (ix (100 * d + a))) (mg 13 (ix (100 * d + a + 1))) = 0
      · rw [if_pos e, if_pos e]; exact Or.inr ⟨rfl, rfl⟩
      · rw [if_neg e, if_neg e]
        exact ih _ ⟨by omega, by omega, by omega, by omega⟩

theorem wp_42 (h : FR cg 0 mg 1) (s : SRs cg mg) {d : Int32} (c0 : f_X6_wrongRow mg d (-1) = 0) (ev : (mg 12 (ix d)).toInt % 2 = 0) : ∀ (n m : Nat) (a2 : Int32) (a3 : Int32), lc a3 (mg 12 (ix d)) n → lc a3 (mg 12 (ix d)) m → PA mg d a3.toInt → (f_X5_arePairsApart_24 cg (ix d) n a2 a3 = 1 ∧ f_X6_wrongPairs_42 mg d m a2 a3 = 0 ∧ PA mg d (mg 12 (ix d)).toInt) ∨ (f_X5_arePairsApart_24 cg (ix d) n a2 a3 = 0 ∧ f_X6_wrongPairs_42 mg d m a2 a3 = -13) := by
  intro n
  induction n with
  | zero => intro m a2 a3 h1; exact absurd h1.2 (Nat.not_lt_zero _)
  | succ n ih =>
    intro m a2 a3 h1 h2 hI
    cases m with
    | zero => exact absurd h2.2 (Nat.not_lt_zero _)
    | succ m =>
      rw [f_X5_arePairsApart_24, f_X6_wrongPairs_42, (row_2 s c0).2.2.1]
      by_cases c : mg 12 (ix d) ≤ a3
      · simp only [if_pos c]
        have c3 := i_le.mp c
        have hl := (row_2 s c0).2.2.2.2.1
        have e0 : (0 : Int32).toInt = 0 := rfl
        have pa : PA mg d (mg 12 (ix d)).toInt := fun i i0 i1 => hI i i0 (by omega)
        rcases wp_103 h s c0 ev pa 102 0 ⟨by decide, by decide, by decide, by omega⟩ with ⟨x, y⟩ | ⟨x, y⟩
        · exact Or.inl ⟨x, y, pa⟩
        · exact Or.inr ⟨x, y⟩
      · simp only [if_neg c]
        have c2 := lt_of_nle c
        have n1 := lc_stepN h1 c
        have n2 := lc_stepN h2 c
        rw [el_at s c0 h1.1 c2, isThere_eq h]
        have e1 : (a3 + 1).toInt = a3.toInt + 1 := inc_toInt h1.1 c2
        by_cases e : f_X6_isPerson mg (mg 13 (ix (100 * d + a3))) = 0
        · simp only [if_pos e]; exact Or.inr ⟨trivial, trivial⟩
        · simp only [if_neg e]
          by_cases f : (a2 >>> (mg 13 (ix (100 * d + a3)) &&& 31)) &&& 1 = 1
          · simp only [if_pos f]; exact Or.inr ⟨trivial, trivial⟩
          · simp only [if_neg f]
            refine ih _ _ _ n1 n2 (fun i i0 i1 => ?_)
            by_cases x : i.toInt < a3.toInt
            · exact hI i i0 x
            · have : i = a3 := Int32.toInt_inj.mp (by omega)
              rw [this]; exact e

theorem wp_eq (h : FR cg 0 mg 1) (s : SRs cg mg) {d : Int32} (c0 : f_X6_wrongRow mg d (-1) = 0) : (f_X5_arePairsApart cg (ix d) = 1 ∧ f_X6_wrongPairs mg d = 0 ∧ PA mg d (mg 12 (ix d)).toInt ∧ (mg 12 (ix d)).toInt % 2 = 0 ∧ (mg 12 (ix d)).toInt ≤ 8) ∨ (f_X5_arePairsApart cg (ix d) = 0 ∧ f_X6_wrongPairs mg d = -13) := by
  obtain ⟨_, _, e5, _, hl, _⟩ := row_2 s c0
  unfold f_X5_arePairsApart f_X6_wrongPairs
  rw [e5, if_pos c0]
  by_cases ev : (mg 12 (ix d)).toInt % 2 = 0
  · have n1 : ¬ mg 12 (ix d) - mg 12 (ix d) / 2 * 2 = 1 := fun q => (mod2 hl.1).2.mp q ev
    rw [if_pos ((mod2 hl.1).1.mpr ev), if_neg n1]
    by_cases f : mg 12 (ix d) ≤ 8
    · have f2 := i_le.mp f
      have e8 : (8 : Int32).toInt = 8 := rfl
      have e0 : (0 : Int32).toInt = 0 := rfl
      rw [if_pos f, if_pos f]
      have l : lc 0 (mg 12 (ix d)) 9 := lc_0 (by omega) (by decide)
      rcases wp_42 h s c0 ev 9 9 0 0 l l (fun i i0 i1 => by omega) with ⟨x, y, z⟩ | ⟨x, y⟩
      · exact Or.inl ⟨x, y, z, ev, by omega⟩
      · exact Or.inr ⟨x, y⟩
    · rw [if_neg f, if_neg f]
      exact Or.inr ⟨rfl, rfl⟩
  · have n0 : ¬ mg 12 (ix d) - mg 12 (ix d) / 2 * 2 = 0 := fun q => ev ((mod2 hl.1).1.mp q)
    rw [if_neg n0, if_pos ((mod2 hl.1).2.mpr ev)]
    exact Or.inr ⟨rfl, rfl⟩
theorem gain_alg {a b c e : Int32} : (a + b) - (c + e) = ((a + b) - c) - e := Int32.toBitVec_inj.mp (by
  show (a.toBitVec + b.toBitVec) - (c.toBitVec + e.toBitVec) = ((a.toBitVec + b.toBitVec) - c.toBitVec) - e.toBitVec
  rw [BitVec.sub_sub])
/-- two told pairs: the elements and the gain -/
theorem gain_eq (h : FR cg 0 mg 1) (s : SRs cg mg) {d : Int32} (c0 : f_X6_wrongRow mg d (-1) = 0) (pa : PA mg d (mg 12 (ix d)).toInt) (ev : (mg 12 (ix d)).toInt % 2 = 0) (l8 : (mg 12 (ix d)).toInt ≤ 8) {a b : Int32} (a0 : 0 ≤ a.toInt) (a1 : a.toInt < (mg 12 (ix d) / 2).toInt) (b0 : 0 ≤ b.toInt) (b1 : b.toInt < (mg 12 (ix d) / 2).toInt) :
    f_X5_gainOfSwap cg (ix d) a b = (((f_X6_joysOf mg 1 (mg 13 (ix (100 * d + 2 * a))) (mg 13 (ix (100 * d + 2 * b + 1))) + f_X6_joysOf mg 1 (mg 13 (ix (100 * d + 2 * b))) (mg 13 (ix (100 * d + 2 * a + 1)))) - f_X6_joysOf mg 1 (mg 13 (ix (100 * d + 2 * a))) (mg 13 (ix (100 * d + 2 * a + 1)))) - f_X6_joysOf mg 1 (mg 13 (ix (100 * d + 2 * b))) (mg 13 (ix (100 * d + 2 * b + 1)))) := by
  have hl := (row_2 s c0).2.2.2.2.1
  have t2 : (2 : Int32).toInt = 2 := rfl
  have hh : (mg 12 (ix d) / 2).toInt = (mg 12 (ix d)).toInt / 2 := by rw [div_toInt hl.1 (by omega), t2]
  have el : ∀ x : Int32, 0 ≤ x.toInt → x.toInt < (mg 12 (ix d) / 2).toInt → f_X4_at cg (ix d) (2 * x) = mg 13 (ix (100 * d + 2 * x)) ∧ f_X4_at cg (ix d) (2 * x + 1) = mg 13 (ix (100 * d + 2 * x + 1)) ∧ PI mg (mg 13 (ix (100 * d + 2 * x))) ∧ PI mg (mg 13 (ix (100 * d + 2 * x + 1))) := fun x x0 x1 => by
    have y1 : (2 * x : Int32).toInt = 2 * x.toInt := by rw [mulS (by rw [t2]; omega) (by rw [t2]; omega), t2]
    have y2 : (2 * x + 1 : Int32).toInt = 2 * x.toInt + 1 := by rw [add1_toInt (by omega) (by omega), y1]
    have q1 := pa (2 * x) (by omega) (by omega)
    have q2 := pa (2 * x + 1) (by omega) (by omega)
    have z2 := el_at s c0 (i := 2 * x + 1) (by omega) (by omega)
    rw [← Int32.add_assoc] at q2 z2
    exact ⟨el_at s c0 (by omega) (by omega), z2, person_in h q1, person_in h q2⟩
  obtain ⟨a2, a3, a4, a5⟩ := el a a0 a1
  obtain ⟨b2, b3, b4, b5⟩ := el b b0 b1
  unfold f_X5_gainOfSwap
  rw [a2, a3, b2, b3, joysOf_eq h a4.1 a4.2 b5.1 b5.2, joysOf_eq h b4.1 b4.2 a5.1 a5.2, joysOf_eq h a4.1 a4.2 a5.1 a5.2, joysOf_eq h b4.1 b4.2 b5.1 b5.2, gain_alg]

theorem sw_I (h : FR cg 0 mg 1) (s : SRs cg mg) {d : Int32} (c0 : f_X6_wrongRow mg d (-1) = 0) (pa : PA mg d (mg 12 (ix d)).toInt) (ev : (mg 12 (ix d)).toInt % 2 = 0) (l8 : (mg 12 (ix d)).toInt ≤ 8) {a4 a5 a6 : Int32} (x0 : 0 ≤ a6.toInt) (x1 : a6.toInt < (mg 12 (ix d) / 2).toInt) {K K2 : Int32 → Int32 → Int32 → Int32} (hK : ∀ x y : Int32, K x y (a6 + 1) = K2 y x (a6 + 1)) : ∀ (n m : Nat) (b4 : Int32) (b5 : Int32) (b7 : Int32), lc b7 (mg 12 (ix d) / 2) n → lc b7 (mg 12 (ix d) / 2) m → f_X5_swap_57 cg d K a4 a5 a6 n b4 b5 b7 = f_X6_swap_50 mg d K2 a5 a4 a6 m b5 b4 b7 := by
  intro n
  induction n with
  | zero => intro m b4 b5 b7 h1; exact absurd h1.2 (Nat.not_lt_zero _)
  | succ n ih =>
    intro m b4 b5 b7 h1 h2
    cases m with
    | zero => exact absurd h2.2 (Nat.not_lt_zero _)
    | succ m =>
      rw [f_X5_swap_57, f_X6_swap_50, (row_2 s c0).2.2.1]
      by_cases c : mg 12 (ix d) / 2 ≤ b7
      · simp only [if_pos c]
        exact hK _ _
      · simp only [if_neg c]
        have c2 := lt_of_nle c
        have n1 := lc_stepN h1 c
        have n2 := lc_stepN h2 c
        rw [gain_eq h s c0 pa ev l8 x0 x1 h1.1 c2]
        generalize (((f_X6_joysOf mg 1 (mg 13 (ix (100 * d + 2 * a6))) (mg 13 (ix (100 * d + 2 * b7 + 1))) + f_X6_joysOf mg 1 (mg 13 (ix (100 * d + 2 * b7))) (mg 13 (ix (100 * d + 2 * a6 + 1)))) - f_X6_joysOf mg 1 (mg 13 (ix (100 * d + 2 * a6))) (mg 13 (ix (100 * d + 2 * a6 + 1)))) - f_X6_joysOf mg 1 (mg 13 (ix (100 * d + 2 * b7))) (mg 13 (ix (100 * d + 2 * b7 + 1)))) = v at *
        by_cases e : v ≤ b4
        · have e2 : ¬ b4 < v := fun q => by have := i_lt.mp q; have := i_le.mp e; omega
          simp only [if_pos e, if_neg e2]
          exact ih _ _ _ _ n1 n2
        · have e2 : b4 < v := i_lt.mpr (lt_of_nle e)
          simp only [if_neg e, if_pos e2]
          exact ih _ _ _ _ n1 n2

theorem sw_O (h : FR cg 0 mg 1) (s : SRs cg mg) {d : Int32} (c0 : f_X6_wrongRow mg d (-1) = 0) (pa : PA mg d (mg 12 (ix d)).toInt) (ev : (mg 12 (ix d)).toInt % 2 = 0) (l8 : (mg 12 (ix d)).toInt ≤ 8) : ∀ (n m : Nat) (a4 : Int32) (a5 : Int32) (a6 : Int32), lc a6 (mg 12 (ix d) / 2) n → lc a6 (mg 12 (ix d) / 2) m → f_X5_swap_40 cg d n a4 a5 a6 = f_X6_swap_37 mg d m a5 a4 a6 := by
  intro n
  induction n with
  | zero => intro m a4 a5 a6 h1; exact absurd h1.2 (Nat.not_lt_zero _)
  | succ n ih =>
    intro m a4 a5 a6 h1 h2
    cases m with
    | zero => exact absurd h2.2 (Nat.not_lt_zero _)
    | succ m =>
      rw [f_X5_swap_40, f_X6_swap_37, (row_2 s c0).2.2.1]
      by_cases c : mg 12 (ix d) / 2 ≤ a6
      · simp only [if_pos c]

      · simp only [if_neg c]
        have c2 := lt_of_nle c
        have n1 := lc_stepN h1 c
        have n2 := lc_stepN h2 c
        have t2 : (2 : Int32).toInt = 2 := rfl
        have hl := (row_2 s c0).2.2.2.2.1
        have hh : (mg 12 (ix d) / 2).toInt = (mg 12 (ix d)).toInt / 2 := by rw [div_toInt hl.1 (by omega), t2]
        have e1 : (a6 + 1).toInt = a6.toInt + 1 := inc_toInt h1.1 c2
        have h10 := h1.1
        have l : lc (a6 + 1) (mg 12 (ix d) / 2) 51 := lc_from (by omega) (by omega) (by decide)
        exact sw_I h s c0 pa ev l8 h1.1 c2 (K := fun a4' a5' a6' => f_X5_swap_40 cg d n a4' a5' a6') (K2 := fun a3' a4' a7' => f_X6_swap_37 mg d m a3' a4' a7') (fun x y => ih m x y (a6 + 1) n1 n2) 51 51 a4 a5 (a6 + 1) l l

theorem eq_swap (h : FR cg 0 mg 1) (s : SRs cg mg) (d : Int32) : f_X5_swap cg d = f_X6_swap mg d := by
  unfold f_X5_swap f_X6_swap
  rw [refusalR_eq s]
  by_cases c0 : f_X6_wrongRow mg d (-1) = 0
  · rw [if_pos c0]
    have hl := (row_2 s c0).2.2.2.2.1
    rcases wp_eq h s c0 with ⟨x, y, pa, ev, l8⟩ | ⟨x, y⟩
    · have t2 : (2 : Int32).toInt = 2 := rfl
      have hh : (mg 12 (ix d) / 2).toInt = (mg 12 (ix d)).toInt / 2 := by rw [div_toInt hl.1 (by omega), t2]
      have l : lc 0 (mg 12 (ix d) / 2) 51 := lc_0 (by omega) (by decide)
      rw [x, y, if_neg (by decide : ¬ (1 : Int32) = 0), if_pos rfl]
      exact sw_O h s c0 pa ev l8 51 51 _ _ _ l l
    · rw [x, y, if_pos rfl, if_neg (by decide)]
  · rw [if_neg c0]
    have e : f_X6_wrongPairs mg d = f_X6_wrongRow mg d (-1) := by
      unfold f_X6_wrongPairs
      rw [if_neg c0]
    rw [e, if_neg c0]
end FRT2
