theorem what_in {w : Int32} (c1 : ¬ f_X6_isIn w 0 8 = 0) (c2 : ¬ (6 : Int32) ≤ w) : vp_in w 6 := by
  have h1 := isIn_in c1
  have e0 : (0 : Int32).toInt = 0 := rfl
  have e6 : (6 : Int32).toInt = 6 := rfl
  have h2 := lt_of_nle c2
  exact vin_of (by omega) (by omega)
theorem s_lt8 {g : Mem} (hI : InM g) (c : ¬ g 1 0 = 8) : vp_in (g 1 0) 8 := by
  have h1 := InM_s hI
  have h2 := InM_s0 hI
  have h3 : (g 1 0).toInt ≠ (8 : Int32).toInt := ne_toInt c
  have e8 : (8 : Int32).toInt = 8 := rfl
  exact vin_of (by omega) (by omega)
theorem k1_neM {k : Int32} (h : ¬ f_X6_isIn k 1 9 = 0) : ¬ k + 1 = 0 := by
  have h1 := isIn_in h
  have e1 : (1 : Int32).toInt = 1 := rfl
  have e9 : (9 : Int32).toInt = 9 := rfl
  intro q
  have h2 := congrArg Int32.toInt q
  rw [add_toInt (by omega) (by omega) (by omega) (by omega)] at h2
  have e0 : (0 : Int32).toInt = 0 := rfl
  omega
theorem cnt_in {w : Int32} (c1 : ¬ f_X6_isIn w 0 2 = 0) : vp_in w 57 := by
  have h1 := isIn_in c1
  have e0 : (0 : Int32).toInt = 0 := rfl
  have e2 : (2 : Int32).toInt = 2 := rfl
  exact vin_of (by omega) (by omega)
