section FRF
variable {cg mg : Mem} {t k : Nat}
theorem l_div {x y : Int64} (hx : 0 ≤ x.toInt) (hy : 0 < y.toInt) : (x / y).toInt = x.toInt / y.toInt := by
  obtain ⟨a, ha, rfl⟩ := l_nn hx
  obtain ⟨b, hb, rfl⟩ := l_nn (Int.le_of_lt hy)
  rw [pk_lT hb] at hy ⊢
  have hb0 : 0 < b := by omega
  rw [pk_lT ha, pk_lDiv ha hb0 hb, pk_lT (Nat.lt_of_le_of_lt (Nat.div_le_self _ _) ha)]
  omega
theorem lcmp_0 : lg_cmp (0 : Int64) (0 : Int64) = 0 := by decide
theorem cd_eq {p0 p1 q0 q1 : Int64} : ∀ (L : Nat) (x y : Int64) (c : Int32) (n m : Nat), 0 ≤ x.toInt → 0 ≤ y.toInt → y.toInt < 2 ^ L → 0 ≤ c.toInt → c.toInt + 2 * L ≤ 100 → lc c 100 n → y.toInt.toNat < m → f_X5_commonDivisor_9 cg p0 p1 n x y c = f_X6_gcd_6 mg q0 q1 m x y := by
  have e100 : (100 : Int32).toInt = 100 := rfl
  have e0 : (0 : Int64).toInt = 0 := rfl
  have base : ∀ (x : Int64) (c : Int32) (n m : Nat), lc c 100 n → 0 < m → f_X5_commonDivisor_9 cg p0 p1 n x 0 c = x ∧ f_X6_gcd_6 mg q0 q1 m x 0 = x := fun x c n m hn hm => by
    cases n with
    | zero => exact absurd hn.2 (Nat.not_lt_zero _)
    | succ n =>
      cases m with
      | zero => exact absurd hm (Nat.not_lt_zero _)
      | succ m =>
        rw [f_X5_commonDivisor_9, f_X6_gcd_6, if_pos lcmp_0, if_pos lcmp_0, ite_self]
        exact ⟨rfl, rfl⟩
  intro L
  induction L with
  | zero =>
    intro x y c n m hx hy hl h0 hc hn hm
    have y0 : y = 0 := Int64.toInt_inj.mp (by rw [e0]; have : (2 : Int) ^ 0 = 1 := rfl; omega)
    subst y0
    obtain ⟨a, b⟩ := base x c n m hn (by omega)
    rw [a, b]
  | succ L ih =>
    intro x y c n m hx hy hl h0 hc hn hm
    by_cases z : y = 0
    · subst z
      obtain ⟨a, b⟩ := base x c n m hn (by omega)
      rw [a, b]
    · have hy0 := l_ne hy z
      have lz : ∀ w : Int64, ¬ w = 0 → ¬ lg_cmp w 0 = 0 := fun w hw q => hw (lcmp_eq q)
      have r1 := l_rem hx hy0
      have r1a := Int.emod_nonneg x.toInt (show y.toInt ≠ 0 by omega)
      have r1b := Int.emod_lt_of_pos x.toInt hy0
      cases n with
      | zero => exact absurd hn.2 (Nat.not_lt_zero _)
      | succ n =>
        cases m with
        | zero => exact absurd hm (Nat.not_lt_zero _)
        | succ m =>
          have nc : ¬ (100 : Int32) ≤ c := fun q => by have := i_le.mp q; omega
          have n1 := lc_stepN hn nc
          have e1 : (c + 1).toInt = c.toInt + 1 := add1_toInt h0 (by omega)
          rw [f_X5_commonDivisor_9, f_X6_gcd_6, if_neg nc, if_neg (lz y z), if_neg (lz y z)]
          by_cases u : x - x / y * y = 0
          · rw [u]
            obtain ⟨a, b⟩ := base y (c + 1) n m n1 (by omega)
            rw [a, b]
          · have hu0 := l_ne (by omega) u
            have r2 := l_rem hy hu0
            have r2a := Int.emod_nonneg y.toInt (show (x - x / y * y).toInt ≠ 0 by omega)
            have r2b := Int.emod_lt_of_pos y.toInt hu0
            have r2c := Int.emod_add_mul_ediv y.toInt (x - x / y * y).toInt
            have q1 : 1 ≤ y.toInt / (x - x / y * y).toInt := by
              have := Int.ediv_nonneg hy (Int.le_of_lt hu0)
              by_cases w : y.toInt / (x - x / y * y).toInt = 0
              · rw [w] at r2c; omega
              · omega
            have q2 : (x - x / y * y).toInt * 1 ≤ (x - x / y * y).toInt * (y.toInt / (x - x / y * y).toInt) := Int.mul_le_mul_of_nonneg_left q1 (Int.le_of_lt hu0)
            have pl : (2 : Int) ^ (L + 1) = 2 ^ L * 2 := Int.pow_succ _ _
            cases n with
            | zero => exact absurd n1.2 (Nat.not_lt_zero _)
            | succ n =>
              cases m with
              | zero => omega
              | succ m =>
                have nc2 : ¬ (100 : Int32) ≤ c + 1 := fun q => by have := i_le.mp q; omega
                have e2 : (c + 1 + 1).toInt = c.toInt + 2 := by rw [add1_toInt (by omega) (by omega)]; omega
                rw [f_X5_commonDivisor_9, f_X6_gcd_6, if_neg nc2, if_neg (lz _ u), if_neg (lz _ u)]
                generalize hw : x - x / y * y = w at *
                exact ih w (y - y / w * w) (c + 1 + 1) n m (by omega) (by omega) (by omega) (by omega) (by omega) (lc_stepN n1 nc2) (by omega)
theorem gcd_nn {p0 p1 : Int64} (h0 : 0 ≤ p0.toInt) (h1 : 0 ≤ p1.toInt) : 0 ≤ (f_X6_gcd mg p0 p1).toInt := by
  have key : ∀ (n : Nat) (x y : Int64), 0 ≤ x.toInt → 0 ≤ y.toInt → 0 ≤ (f_X6_gcd_6 mg p0 p1 n x y).toInt := by
    intro n
    induction n with
    | zero => intro x y _ _; exact (by decide : 0 ≤ (0 : Int64).toInt)
    | succ n ih =>
      intro x y hx hy
      rw [f_X6_gcd_6]
      by_cases c : lg_cmp y 0 = 0
      · rw [if_pos c]; exact hx
      · rw [if_neg c]
        have hy0 := l_ne hy (lcmp_ne c)
        exact ih _ _ hy (by rw [l_rem hx hy0]; exact Int.emod_nonneg _ (by omega))
  exact key _ _ _ h0 h1
theorem hu_0 (r : RB mg 1) (h : (mg 1 0).toInt ≤ 0) : f_X6_hungerAll mg = 0 := by
  unfold f_X6_hungerAll
  rw [f_X6_hungerAll_4, if_pos (i_le.mpr (by have e0 : (0 : Int32).toInt = 0 := rfl
                                             omega))]
theorem frac_eq {a b b2 : Int64} {w : Int32} (a0 : 0 ≤ a.toInt) (b0 : 0 < b.toInt) (b1 : b.toInt < 2 ^ 40) (hb : ¬ a = 0 → b2 = b) (hw : w = 0 ∨ w = 1) : f_X5_partInLeastTerms cg a b w = f_X6_partOf mg a b2 w := by
  have e0 : (0 : Int64).toInt = 0 := rfl
  have e1 : (1 : Int64).toInt = 1 := rfl
  have l : lc 0 100 101 := lc_0 (by decide) (by decide)
  have cz : (0 : Int32).toInt = 0 := rfl
  have g : f_X5_commonDivisor cg a b = f_X6_gcd mg a b := cd_eq 40 a b 0 101 _ a0 (Int.le_of_lt b0) b1 (by decide) (by decide) l (by omega)
  have mx : ∀ y : Int64, 0 < y.toInt → (if (1 : Int64) < y then y else 1) = y := fun y hy => by
    by_cases q : (1 : Int64) < y
    · rw [if_pos q]
    · rw [if_neg q]
      have : ¬ (1 : Int64).toInt < y.toInt := fun z => q (Int64.lt_iff_toInt_lt.mpr z)
      exact Int64.toInt_inj.mp (by omega)
  unfold f_X5_partInLeastTerms f_X6_partOf
  by_cases z : a = 0
  · subst z
    have gb : f_X6_gcd mg 0 b = b := by
      have h1 : f_X6_gcd mg 0 b = f_X6_gcd_6 mg 0 b (b.toInt.toNat + 1) 0 b := rfl
      have lz : ¬ lg_cmp b 0 = 0 := fun q => by rw [lcmp_eq q] at b0; omega
      have zz : (0 : Int64) - 0 / b * b = 0 := Int64.toInt_inj.mp (by rw [l_rem (by decide) b0, e0]; exact Int.zero_emod _)
      rw [h1, f_X6_gcd_6, if_neg lz, zz]
      obtain ⟨j, hj⟩ : ∃ j, b.toInt.toNat = j + 1 := ⟨b.toInt.toNat - 1, by omega⟩
      rw [hj, f_X6_gcd_6, if_pos lcmp_0]
    rw [g, gb, mx b b0, if_pos lcmp_0]
    rcases hw with rfl | rfl
    · rw [if_pos rfl]
      exact Int64.toInt_inj.mp (by rw [l_div (by decide) b0, e0]; exact Int.zero_ediv _)
    · rw [if_neg (by decide)]
      exact Int64.toInt_inj.mp (by rw [l_div (Int.le_of_lt b0) b0]; exact Int.ediv_self (by omega))
  · have lz : ¬ lg_cmp a 0 = 0 := fun q => z (lcmp_eq q)
    rw [hb z, if_neg lz, g, mx]
    have gn := gcd_ne (g := mg) a0 (Int.le_of_lt b0) z
    exact l_ne (gcd_nn a0 (Int.le_of_lt b0)) gn
theorem eq_mean (h : FR cg 0 mg 1) (r : RB mg 1) (w : Int32) : f_X5_mean cg w = f_X6_mean mg w := by
  unfold f_X5_mean f_X6_mean f_X5_isOneOfTwo
  rw [isWithin_eq, hu_eq h, h.z]
  by_cases c : f_X6_isIn w 0 1 = 0
  · rw [if_pos c, if_pos c]
  · rw [if_neg c, if_neg c]
    have h01 := isIn_in c
    have e0 : (0 : Int32).toInt = 0 := rfl
    have e1 : (1 : Int32).toInt = 1 := rfl
    have hw : w = 0 ∨ w = 1 := by
      by_cases z : w = 0
      · exact Or.inl z
      · have := ne_toInt z
        exact Or.inr (Int32.toInt_inj.mp (by omega))
    have hu := hu_in r
    have r1 := r.1
    by_cases s : mg 1 0 < 1
    · have s2 := i_lt.mp s
      rw [if_pos s]
      refine frac_eq (by rw [Int32.toInt_toInt64]; exact hu.1) (by decide) (by decide) (fun q => ?_) hw
      have z := hu_0 r (by omega)
      exact absurd (by rw [z]; rfl) q
    · have s2 : ¬ (mg 1 0).toInt < (1 : Int32).toInt := fun q => s (i_lt.mpr q)
      rw [if_neg s]
      exact frac_eq (by rw [Int32.toInt_toInt64]; exact hu.1) (by rw [Int32.toInt_toInt64]; omega) (by rw [Int32.toInt_toInt64]; have : (2 : Int) ^ 40 = 1099511627776 := by decide
                                                                                                       omega) (fun _ => rfl) hw
end FRF
