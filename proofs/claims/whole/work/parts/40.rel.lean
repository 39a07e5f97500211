section FRW
variable {cg mg : Mem}
theorem hold_L {d : Nat} {p0 p1 : Int32} : ∀ (n : Nat) (a : Int32) (g2 : Mem), lc a 100 n → ∀ q f, f_X4_holdRow_17 cg d p0 p1 n a g2 q f = if q = 32 + d ∧ ix a ≤ f ∧ f < 100 then 0 else g2 q f := by
  intro n
  induction n with
  | zero => intro a g2 h; exact absurd h.2 (Nat.not_lt_zero _)
  | succ n ih =>
    intro a g2 h q f
    rw [f_X4_holdRow_17]
    have e100 : (100 : Int32).toInt = 100 := rfl
    have h0 := ix_toInt h.1
    by_cases c : (100 : Int32) ≤ a
    · have c2 := i_le.mp c
      rw [if_pos c, if_neg (by omega)]
    · have c2 := lt_of_nle c
      have e1 := inc_toInt (b := 100) h.1 c2
      have h1 := ix_toInt (x := a + 1) (by omega)
      rw [if_neg c, ih _ _ (lc_stepN h c)]
      unfold f_X4_holdRow_m4
      by_cases x : q = 32 + d ∧ f = ix a
      · obtain ⟨rfl, rfl⟩ := x
        rw [if_neg (by omega), if_pos (by omega), up_eq]
      · rw [up_ne (by omega)]
        by_cases y : q = 32 + d ∧ ix (a + 1) ≤ f ∧ f < 100
        · rw [if_pos y, if_pos (by omega)]
        · rw [if_neg y, if_neg (by omega)]
theorem rowz_L {p0 p1 p2 : Int32} (hd : vp_in p0 8) : ∀ (n : Nat) (a : Int32) (g2 : Mem), lc a 100 n → (f_X6_row_55 mg p0 p1 p2 n a g2).1 = 0 ∧ ∀ q f, (f_X6_row_55 mg p0 p1 p2 n a g2).2 q f = if q = 13 ∧ 100 * ix p0 + ix a ≤ f ∧ f < 100 * ix p0 + 100 then 0 else g2 q f := by
  intro n
  induction n with
  | zero => intro a g2 h; exact absurd h.2 (Nat.not_lt_zero _)
  | succ n ih =>
    intro a g2 h
    rw [f_X6_row_55]
    have e100 : (100 : Int32).toInt = 100 := rfl
    have h0 := ix_toInt h.1
    by_cases c : (100 : Int32) ≤ a
    · have c2 := i_le.mp c
      simp only [if_pos c]
      exact ⟨trivial, fun q f => by rw [if_neg (by omega)]⟩
    · have c2 := lt_of_nle c
      have e1 := inc_toInt (b := 100) h.1 c2
      have h1 := ix_toInt (x := a + 1) (by omega)
      have hx : ix (100 * p0 + a) = 100 * ix p0 + ix a := elt_ix hd (vin_of h.1 (by omega))
      simp only [if_neg c]
      obtain ⟨i1, i2⟩ := ih (a + 1) (f_X6_row_m4 mg p0 p1 p2 a g2) (lc_stepN h c)
      refine ⟨i1, fun q f => ?_⟩
      rw [i2]
      unfold f_X6_row_m4
      rw [hx]
      by_cases x : q = 13 ∧ f = 100 * ix p0 + ix a
      · obtain ⟨rfl, rfl⟩ := x
        rw [if_neg (by omega), if_pos (by omega), up_eq]
      · rw [up_ne (by omega)]
        by_cases y : q = 13 ∧ 100 * ix p0 + ix (a + 1) ≤ f ∧ f < 100 * ix p0 + 100
        · rw [if_pos y, if_pos (by omega)]
        · rw [if_neg y, if_neg (by omega)]
end FRW
