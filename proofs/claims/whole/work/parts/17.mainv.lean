theorem one_step {a : Int32} (h0 : 0 ≤ a.toInt) (h : 1 ≤ a.toInt) (hb : a.toInt ≤ 1000) : 1 ≤ (a + 1).toInt := by
  rw [inc_toInt (b := 2000) h0 (by have : (2000 : Int32).toInt = 2000 := rfl; omega)]
  omega
theorem i64_ne {a : Int32} (h : 1 ≤ a.toInt) : ¬ Int32.toInt64 a = 0 := by
  intro q
  have h2 := congrArg Int64.toInt q
  rw [Int32.toInt_toInt64] at h2
  have e0 : (0 : Int64).toInt = 0 := rfl
  omega
theorem lcmp_ne {x : Int64} (h : ¬ lg_cmp x (0 : Int64) = 0) : ¬ x = 0 := by
  rintro rfl
  exact h (by decide)
theorem max1_ne {x : Int64} : ¬ (if (1 : Int64) < x then x else (1 : Int64)) = 0 := by
  split
  · rintro rfl
    exact absurd (by assumption : (1 : Int64) < 0) (by decide)
  · decide
theorem crowd_0 {p0 p2 : Int32} (h0 : (0 : Int32).toInt ≤ p0.toInt ∧ p0.toInt ≤ (8 : Int32).toInt) (h2 : (0 : Int32).toInt ≤ p2.toInt ∧ p2.toInt ≤ (4 : Int32).toInt) : lcE (2 * p2) p0 10 := by
  have e0 : (0 : Int32).toInt = 0 := rfl
  have e8 : (8 : Int32).toInt = 8 := rfl
  have e4 : (4 : Int32).toInt = 4 := rfl
  have e2 : (2 : Int32).toInt = 2 := rfl
  have h3 : (2 * p2).toInt = 2 * p2.toInt := by rw [mul_toInt (by omega) (by omega) (by omega) (by omega), e2]
  exact lcE_from (by omega) (by omega) (by decide)
theorem crowd_in {a8 p0 : Int32} {n : Nat} (hL : lcE a8 p0 n) (c : ¬ p0 < a8) (h0 : (0 : Int32).toInt ≤ p0.toInt ∧ p0.toInt ≤ (8 : Int32).toInt) : a8.toInt ≤ 8 ∧ (p0 - a8).toInt ≤ 8 := by
  have e0 : (0 : Int32).toInt = 0 := rfl
  have e8 : (8 : Int32).toInt = 8 := rfl
  have c2 : ¬ p0.toInt < a8.toInt := fun q => c (Int32.lt_iff_toInt_lt.mpr q)
  have h1 := hL.1
  obtain ⟨i, hi, rfl⟩ := nn_of h1
  obtain ⟨j, hj, rfl⟩ := nn_of (show 0 ≤ p0.toInt by omega)
  rw [nI_toInt hi] at c2 h1 ⊢
  rw [nI_toInt hj] at c2 h0
  rw [pk_sub (by omega), nI_toInt (by omega)]
  omega
