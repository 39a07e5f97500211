theorem sizeIn {g : Mem} (hI : InM g) {d : Nat} (hd : d < 8) {i : Int32} (c : ¬ f_X6_isIn i 0 (g 12 d - 1) = 0) : vp_in i 100 := by
  have h1 := isIn_in c
  have e0 : (0 : Int32).toInt = 0 := rfl
  have h2 := InM_len hI hd
  have h3 := InM_len0 hI hd
  by_cases h : 1 ≤ (g 12 d).toInt
  · rw [sub1_toInt h] at h1
    exact vin_of (by omega) (by omega)
  · have e : g 12 d = 0 := Int32.toInt_inj.mp (by omega)
    rw [e] at h1
    have : ((0 : Int32) - 1).toInt = -1 := by decide
    omega
theorem elt_in2 {d i s : Int32} (hd : vp_in d 8) (hi : 0 ≤ i.toInt ∧ 0 ≤ s.toInt ∧ i.toInt + s.toInt < 100) : vp_in (100 * d + i + s) 800 := by
  have h1 := vp_in_iff.mp hd
  have e : (100 : Int32).toInt = 100 := rfl
  have h3 : (100 * d).toInt = 100 * d.toInt := by rw [mul_toInt (by omega) (by omega) (by omega) (by omega), e]
  have h4 : (100 * d + i).toInt = 100 * d.toInt + i.toInt := by rw [add_toInt (by omega) (by omega) (by omega) (by omega), h3]
  exact vin_of (by rw [add_toInt (by omega) (by omega) (by omega) (by omega)]; omega) (by rw [add_toInt (by omega) (by omega) (by omega) (by omega)]; omega)
theorem sub_toInt {x y : Int32} (h0 : 0 ≤ y.toInt) (h : y.toInt ≤ x.toInt) : (x - y).toInt = x.toInt - y.toInt := by
  obtain ⟨j, hj, rfl⟩ := nn_of h0
  obtain ⟨i, hi, rfl⟩ := nn_of (show 0 ≤ x.toInt by omega)
  rw [nI_toInt hj, nI_toInt hi] at h ⊢
  rw [pk_sub (by omega), nI_toInt (by omega)]
  omega
theorem sub_neg {x y : Int32} (h0 : 0 ≤ x.toInt) (h : x.toInt < y.toInt) : (x - y).toInt < 0 := by
  obtain ⟨i, hi, rfl⟩ := nn_of h0
  obtain ⟨j, hj, rfl⟩ := nn_of (show 0 ≤ y.toInt by omega)
  rw [nI_toInt hj, nI_toInt hi] at h
  by_cases q : j < 2 ^ 30
  · have := pk_sneg (a := i) (b := j) q (by omega)
    exact lt0_iff.mp this
  · rw [Int32.toInt_sub, nI_toInt hi, nI_toInt hj]
    unfold Int.bmod
    dsimp only
    split <;> omega
theorem copyM_in {si sj i j n : Int32} (h1 : si.toInt ≤ 100) (h2 : 0 ≤ si.toInt) (h3 : sj.toInt ≤ 100) (h4 : 0 ≤ sj.toInt) (c1 : ¬ n < 0) (c2 : ¬ i < 0) (c3 : ¬ j < 0) (c4 : ¬ si - i < n) (c5 : n ≤ sj - j) :
    0 ≤ i.toInt ∧ 0 ≤ j.toInt ∧ 0 ≤ n.toInt ∧ i.toInt + n.toInt ≤ 100 ∧ n.toInt ≤ 100 ∧ j.toInt + n.toInt ≤ 100 := by
  rw [lt0_iff] at c1 c2 c3
  have c4 : ¬ (si - i).toInt < n.toInt := fun q => c4 (Int32.lt_iff_toInt_lt.mpr q)
  have c5 := Int32.le_iff_toInt_le.mp c5
  have k1 : i.toInt ≤ si.toInt := by
    refine Int.not_lt.mp (fun q => ?_)
    have := sub_neg h2 q
    omega
  have k2 : j.toInt ≤ sj.toInt := by
    refine Int.not_lt.mp (fun q => ?_)
    have := sub_neg h4 q
    omega
  rw [sub_toInt (by omega) k1] at c4
  rw [sub_toInt (by omega) k2] at c5
  omega
theorem copyStep {i j n a : Int32} {k : Nat} (h : 0 ≤ i.toInt ∧ 0 ≤ j.toInt ∧ 0 ≤ n.toInt ∧ i.toInt + n.toInt ≤ 100 ∧ n.toInt ≤ 100 ∧ j.toInt + n.toInt ≤ 100) (hL : lc a n k) (c : ¬ n ≤ a) :
    (0 ≤ i.toInt ∧ 0 ≤ a.toInt ∧ i.toInt + a.toInt < 100) ∧ (0 ≤ j.toInt ∧ 0 ≤ a.toInt ∧ j.toInt + a.toInt < 100) ∧ (0 ≤ i.toInt ∧ 0 ≤ (n - 1 - a).toInt ∧ i.toInt + (n - 1 - a).toInt < 100) ∧ (0 ≤ j.toInt ∧ 0 ≤ (n - 1 - a).toInt ∧ j.toInt + (n - 1 - a).toInt < 100) := by
  have c2 := lt_of_nle c
  have h1 := hL.1
  have e1 := sub1_toInt (x := n) (by omega)
  have e2 : (n - 1 - a).toInt = n.toInt - 1 - a.toInt := by rw [sub_toInt h1 (by omega), e1]
  omega
