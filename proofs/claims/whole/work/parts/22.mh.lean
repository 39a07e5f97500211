theorem le8_in {x : Int32} (c : x ≤ 8) : x.toInt ≤ 8 := by
  have := Int32.le_iff_toInt_le.mp c
  have e8 : (8 : Int32).toInt = 8 := rfl
  omega
theorem hA_step {g : Mem} {d a : Int32} (h0 : 0 ≤ a.toInt) (h9 : a.toInt ≤ 1000) (hA : ∀ j : Int32, 0 ≤ j.toInt → j.toInt < a.toInt → vp_in (g 13 (ix (100 * d + j))) 9) (hn : vp_in (g 13 (ix (100 * d + a))) 9) : ∀ j : Int32, 0 ≤ j.toInt → j.toInt < (a + 1).toInt → vp_in (g 13 (ix (100 * d + j))) 9 := by
  intro j hj hj2
  rw [inc_toInt (b := 2000) h0 (by have : (2000 : Int32).toInt = 2000 := rfl; omega)] at hj2
  by_cases e : j = a
  · rw [e]; exact hn
  · have : j.toInt ≠ a.toInt := ne_toInt e
    exact hA j hj (by omega)
theorem assoc1 {d a : Int32} : 100 * d + a + 1 = 100 * d + (a + 1) := Int32.add_assoc _ _ _
theorem add1_toInt {a : Int32} (h0 : 0 ≤ a.toInt) (h9 : a.toInt ≤ 1000) : (a + 1).toInt = a.toInt + 1 := inc_toInt (b := 2000) h0 (by have : (2000 : Int32).toInt = 2000 := rfl; omega)
theorem wp_in {g : Mem} {d a len : Int32} {n : Nat} (hd : vp_in d 8) (h : 0 ≤ a.toInt ∧ a.toInt ≤ 102 ∧ (len.toInt - a.toInt).toNat < n + 1) (c : ¬ len ≤ a) (hl : len.toInt ≤ 100) (he : len.toInt % 2 = 0) (hea : a.toInt % 2 = 0) (hA : ∀ j : Int32, 0 ≤ j.toInt → j.toInt < len.toInt → vp_in (g 13 (ix (100 * d + j))) 9) : vp_in (g 13 (ix (100 * d + a))) 9 ∧ vp_in (g 13 (ix (100 * d + a + 1))) 9 := by
  have c2 := lt_of_nle c
  have e := add1_toInt (a := a) h.1 (by omega)
  exact ⟨hA a h.1 c2, by rw [assoc1]; exact hA (a + 1) (by omega) (by omega)⟩
theorem odd_of {x : Int32} (h0 : 0 ≤ x.toInt) (c : ¬ x - x / 2 * 2 = 1) : x.toInt % 2 = 0 := even_of h0 c
