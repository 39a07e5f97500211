theorem l_nn {x : Int64} (h : 0 ≤ x.toInt) : ∃ k : Nat, k < 2 ^ 63 ∧ x = lN k := by
  apply pk_lOf
  intro q
  have h1 := Int64.lt_iff_toInt_lt.mp q
  have e0 : (0 : Int64).toInt = 0 := rfl
  omega
theorem l_rem {x y : Int64} (hx : 0 ≤ x.toInt) (hy : 0 < y.toInt) : (x - x / y * y).toInt = x.toInt % y.toInt := by
  obtain ⟨a, ha, rfl⟩ := l_nn hx
  obtain ⟨b, hb, rfl⟩ := l_nn (Int.le_of_lt hy)
  rw [pk_lT hb] at hy ⊢
  have hb0 : 0 < b := by omega
  rw [pk_lT ha, pk_lRem ha hb0 hb, pk_lT (Nat.lt_of_le_of_lt (Nat.mod_le _ _) ha)]
  omega
theorem l_mul {x y : Int64} (hx : 0 ≤ x.toInt) (hy : 0 ≤ y.toInt) (h : x.toInt * y.toInt < 2 ^ 63) : (x * y).toInt = x.toInt * y.toInt := by
  obtain ⟨a, ha, rfl⟩ := l_nn hx
  obtain ⟨b, hb, rfl⟩ := l_nn hy
  rw [pk_lT ha, pk_lT hb] at h ⊢
  have h2 : a * b < 2 ^ 63 := by exact_mod_cast h
  rw [lN_mul, pk_lT h2]
  exact Int.natCast_mul a b
theorem l_add {x y : Int64} (hx : 0 ≤ x.toInt) (hy : 0 ≤ y.toInt) (h : x.toInt + y.toInt < 2 ^ 63) : (x + y).toInt = x.toInt + y.toInt := by
  obtain ⟨a, ha, rfl⟩ := l_nn hx
  obtain ⟨b, hb, rfl⟩ := l_nn hy
  rw [pk_lT ha, pk_lT hb] at h ⊢
  rw [lN_add, pk_lT (by omega)]
  omega
theorem l_ne {x : Int64} (h0 : 0 ≤ x.toInt) (h : ¬ x = 0) : 0 < x.toInt := by
  have : x.toInt ≠ (0 : Int64).toInt := fun q => h (Int64.toInt_inj.mp q)
  have e0 : (0 : Int64).toInt = 0 := rfl
  omega
theorem gcd_fuel {x : Int64} (h : 0 ≤ x.toInt) : x.toInt.toNat < x.toInt.toNat + 1 := by omega
theorem gcd_step {x y : Int64} {n : Nat} (hx : 0 ≤ x.toInt) (hy : 0 ≤ y.toInt ∧ y.toInt.toNat < n + 1) (c : ¬ y = 0) : 0 ≤ (x - x / y * y).toInt ∧ (x - x / y * y).toInt.toNat < n := by
  have h1 := l_ne hy.1 c
  rw [l_rem hx h1]
  have h2 := Int.emod_nonneg x.toInt (show y.toInt ≠ 0 by omega)
  have h3 := Int.emod_lt_of_pos x.toInt h1
  have h4 := hy.2
  omega
theorem lcmp_eq {x : Int64} (h : lg_cmp x (0 : Int64) = 0) : x = 0 := by
  unfold lg_cmp at h
  repeat' split at h
  all_goals first | assumption | exact absurd h (by decide)
theorem pow32_le {n m : Nat} (h : n ≤ m) : (32 : Int) ^ n ≤ 32 ^ m := by
  exact_mod_cast Nat.pow_le_pow_right (by decide : 0 < 32) h
theorem one_le32 (n : Nat) : (0 ≤ (1 : Int64).toInt ∧ (1 : Int64).toInt ≤ (32 : Int) ^ n) := by
  have e1 : (1 : Int64).toInt = 1 := rfl
  have := pow32_le (Nat.zero_le n)
  rw [e1]
  simp at this
  omega
theorem pw_gen {x : Int64} {q a : Int32} (hx : 0 ≤ x.toInt ∧ x.toInt ≤ 32 ^ a.toInt.toNat) (h0 : 0 ≤ a.toInt) (h8 : a.toInt < 8) (hq0 : 0 ≤ q.toInt) (hq : q.toInt ≤ 32) : 0 ≤ (x * Int32.toInt64 q).toInt ∧ (x * Int32.toInt64 q).toInt ≤ 32 ^ (a + 1).toInt.toNat := by
  have e : (a + 1).toInt = a.toInt + 1 := add1_toInt h0 (by omega)
  have hb := pow32_le (show a.toInt.toNat ≤ 7 by omega)
  have hq2 : (Int32.toInt64 q).toInt = q.toInt := Int32.toInt_toInt64 q
  have h1 : x.toInt * q.toInt ≤ 32 ^ a.toInt.toNat * 32 := Int.mul_le_mul hx.2 hq hq0 (Int.le_trans hx.1 hx.2)
  have h2 : 0 ≤ x.toInt * q.toInt := Int.mul_nonneg hx.1 hq0
  have h3 : x.toInt * (Int32.toInt64 q).toInt < 2 ^ 63 := by rw [hq2]; omega
  rw [l_mul hx.1 (by rw [hq2]; exact hq0) h3, hq2, e]
  have h4 : (a.toInt + 1).toNat = a.toInt.toNat + 1 := by omega
  rw [h4, Int.pow_succ]
  exact ⟨h2, h1⟩
theorem pw_step {x : Int64} {q a n : Int32} {k : Nat} (hx : 0 ≤ x.toInt ∧ x.toInt ≤ 32 ^ a.toInt.toNat) (hL : lc a n (k + 1)) (c : ¬ n ≤ a) (h8 : n.toInt ≤ (8 : Int32).toInt) (hq : (2 : Int32).toInt ≤ q.toInt ∧ q.toInt ≤ (20 : Int32).toInt) : 0 ≤ (x * Int32.toInt64 q).toInt ∧ (x * Int32.toInt64 q).toInt ≤ 32 ^ (a + 1).toInt.toNat := by
  have c2 := lt_of_nle c
  have e8 : (8 : Int32).toInt = 8 := rfl
  have e2 : (2 : Int32).toInt = 2 := rfl
  have e20 : (20 : Int32).toInt = 20 := rfl
  exact pw_gen hx hL.1 (by omega) (by omega) (by omega)
theorem pw_stepM {x : Int64} {q a n : Int32} {k : Nat} (hx : 0 ≤ x.toInt ∧ x.toInt ≤ 32 ^ a.toInt.toNat) (hL : lc a n (k + 1)) (c : ¬ n ≤ a) (h8 : n.toInt ≤ (8 : Int32).toInt) (hq : (2 : Int32).toInt ≤ q.toInt ∧ q.toInt ≤ (20 : Int32).toInt) : 0 ≤ (x * Int32.toInt64 (q - 1)).toInt ∧ (x * Int32.toInt64 (q - 1)).toInt ≤ 32 ^ (a + 1).toInt.toNat := by
  have c2 := lt_of_nle c
  have e8 : (8 : Int32).toInt = 8 := rfl
  have e2 : (2 : Int32).toInt = 2 := rfl
  have e20 : (20 : Int32).toInt = 20 := rfl
  have h1 := sub1_toInt (x := q) (by omega)
  exact pw_gen hx hL.1 (by omega) (by omega) (by omega)
theorem crowd_sh {n : Int32} (h : (0 : Int32).toInt ≤ n.toInt ∧ n.toInt ≤ (8 : Int32).toInt) : ((1 : Int32) <<< (n &&& 31)).toInt < (257 : Nat) := by
  have e0 : (0 : Int32).toInt = 0 := rfl
  have e8 : (8 : Int32).toInt = 8 := rfl
  obtain ⟨j, hj, rfl⟩ := vp_in_of (n := 9) (vin_of (i := n) (by omega) (by omega)) (by omega)
  have : ∀ j : Nat, j < 9 → ((1 : Int32) <<< (nI j &&& 31)).toInt < (257 : Nat) := by decide
  exact this j hj
theorem d12_step {a n : Int32} {k : Nat} (hL : lc a n (k + 1)) (c : ¬ n ≤ a) (h8 : n.toInt ≤ (8 : Int32).toInt) : (a + 1).toInt ≤ 10 := by
  have c2 := lt_of_nle c
  have e8 : (8 : Int32).toInt = 8 := rfl
  rw [add1_toInt hL.1 (by omega)]
  omega
theorem cw_add {b5 d10 : Int64} {b9 d12 s : Int32} {n : Nat} (hB : 0 ≤ b5.toInt ∧ b5.toInt ≤ b9.toInt * 2 ^ 50) (hL1 : lc b9 s (n + 1)) (c : ¬ s ≤ b9) (hs : s.toInt < (257 : Nat)) (hW : 0 ≤ d10.toInt ∧ d10.toInt ≤ 32 ^ d12.toInt.toNat) (hd : d12.toInt ≤ 10) : 0 ≤ (b5 + d10).toInt ∧ (b5 + d10).toInt ≤ (b9 + 1).toInt * 2 ^ 50 := by
  have c2 := lt_of_nle c
  have h0 := hL1.1
  have e := add1_toInt (a := b9) h0 (by omega)
  have hp := pow32_le (show d12.toInt.toNat ≤ 10 by omega)
  have e10 : (32 : Int) ^ 10 = 2 ^ 50 := by decide
  rw [l_add hB.1 hW.1 (by omega), e]
  omega
theorem cw_add0 {b5 : Int64} {b9 s : Int32} {n : Nat} (hB : 0 ≤ b5.toInt ∧ b5.toInt ≤ b9.toInt * 2 ^ 50) (hL1 : lc b9 s (n + 1)) (c : ¬ s ≤ b9) (hs : s.toInt < (257 : Nat)) : 0 ≤ (b5 + 0).toInt ∧ (b5 + 0).toInt ≤ (b9 + 1).toInt * 2 ^ 50 := by
  have c2 := lt_of_nle c
  have h0 := hL1.1
  have e := add1_toInt (a := b9) h0 (by omega)
  have e5 : b5 + 0 = b5 := by simp
  rw [e5, e]
  omega
theorem and1_in (x : Int32) : 0 ≤ (x &&& 1).toInt ∧ (x &&& 1).toInt ≤ 1 := by
  have := vp_in_iff.mp (pk_andIn x (m := 1) 1 (by decide) (by decide))
  omega
theorem bits_L {g : Mem} {x : Int32} : ∀ (n : Nat) (a1 a2 : Int32), lc a2 10 n → 0 ≤ a1.toInt → a1.toInt ≤ a2.toInt → a2.toInt ≤ 10 → 0 ≤ (f_X6_bits_4 g x n a1 a2).toInt ∧ (f_X6_bits_4 g x n a1 a2).toInt ≤ 10 := by
  intro n
  induction n with
  | zero => intro a1 a2 hL; exact absurd hL.2 (Nat.not_lt_zero _)
  | succ n ih =>
    intro a1 a2 hL h0 h1 h2
    rw [f_X6_bits_4]
    split
    · exact ⟨h0, by omega⟩
    · have c := (by assumption : ¬ (10 : Int32) ≤ a2)
      have c2 := lt_of_nle c
      have e10 : (10 : Int32).toInt = 10 := rfl
      have h3 := and1_in (x >>> (a2 &&& 31))
      have e := add1_toInt (a := a2) hL.1 (by omega)
      have e2 := add_toInt h0 (by omega) h3.1 (by omega)
      exact ih _ _ (lc_stepN hL c) (by omega) (by omega) (by omega)
theorem bits_r {g : Mem} (x : Int32) : 0 ≤ (f_X6_bits g x).toInt ∧ (f_X6_bits g x).toInt ≤ 10 := bits_L 11 0 0 (lc_0 (by decide) (by decide)) (by decide) (by decide) (by decide)
