
theorem and_in {x y : Int32} (h : vp_in x 256) : vp_in (x &&& y) 256 := by
  obtain ⟨j, hj, rfl⟩ := vp_in_of h (by omega)
  have e : nI j = nI j &&& (255 : Int32) := by
    rw [pk_andN (n := j) (by omega) 8 (by decide), Nat.mod_eq_of_lt (by omega)]
  have e2 : nI j &&& y = (nI j &&& y) &&& (255 : Int32) := by
    rw [Int32.and_assoc, Int32.and_comm y, ← Int32.and_assoc, ← e]
  rw [e2]
  exact pk_andIn _ 8 (by decide) (by decide)
theorem idx_joys {p l : Int32} (hp : vp_in p 8) (hl : vp_in l 8) : vp_in (p * 8 + l) 64 := by
  have h1 := vp_in_iff.mp hp
  have h2 := vp_in_iff.mp hl
  have e8 : (8 : Int32).toInt = 8 := rfl
  have h3 : (p * 8).toInt = p.toInt * 8 := by rw [mul_toInt (by omega) (by omega) (by omega) (by omega), e8]
  exact vin_of (by rw [add_toInt (by omega) (by omega) (by omega) (by omega)]; omega) (by rw [add_toInt (by omega) (by omega) (by omega) (by omega)]; omega)
theorem idx_most {s f : Int32} (hs : vp_in s 5) (hf : vp_in f 256) : vp_in (s * 256 + f) 1280 := by
  have h1 := vp_in_iff.mp hs
  have h2 := vp_in_iff.mp hf
  have e8 : (256 : Int32).toInt = 256 := rfl
  have h3 : (s * 256).toInt = s.toInt * 256 := by rw [mul_toInt (by omega) (by omega) (by omega) (by omega), e8]
  exact vin_of (by rw [add_toInt (by omega) (by omega) (by omega) (by omega)]; omega) (by rw [add_toInt (by omega) (by omega) (by omega) (by omega)]; omega)
theorem sub1_toInt {x : Int32} (h0 : 1 ≤ x.toInt) : (x - 1).toInt = x.toInt - 1 := by
  obtain ⟨j, hj, rfl⟩ := nn_of (show 0 ≤ x.toInt by omega)
  rw [nI_toInt hj] at h0 ⊢
  rw [show (1 : Int32) = nI 1 from rfl, pk_sub (by omega), nI_toInt (by omega)]
  omega
theorem pred_in {s : Int32} (hs : vp_in s 5) (c : ¬ s = 0) : vp_in (s - 1) 5 := by
  have h1 := vp_in_iff.mp hs
  have e0 : (0 : Int32).toInt = 0 := rfl
  have h2 : s.toInt ≠ (0 : Int32).toInt := ne_toInt c
  exact vin_of (by rw [sub1_toInt (by omega)]; omega) (by rw [sub1_toInt (by omega)]; omega)
theorem all_in {x : Int32} (h0 : 0 ≤ x.toInt) (h : x.toInt ≤ 8) : vp_in ((1 : Int32) <<< (x &&& 31) - 1) 256 := by
  obtain ⟨j, hj, rfl⟩ := vp_in_of (n := 9) (vin_of h0 (by omega)) (by omega)
  have : ∀ j : Nat, j < 9 → vp_in ((1 : Int32) <<< (nI j &&& 31) - 1) 256 := by unfold vp_in; decide
  exact this j hj
theorem dec_toInt {x : Int32} (h0 : 1 ≤ x.toInt) : (x + (-1)).toInt = x.toInt - 1 := by
  obtain ⟨j, hj, rfl⟩ := nn_of (show 0 ≤ x.toInt by omega)
  rw [nI_toInt hj] at h0 ⊢
  obtain ⟨q, rfl⟩ : ∃ q, j = q + 1 := ⟨j - 1, by omega⟩
  rw [pk_m1, nI_toInt (by omega)]
  omega
theorem dec_in {x : Int32} (h : vp_in x 5) (h1 : 1 ≤ x.toInt) : vp_in (x + (-1)) 5 := by
  have h2 := vp_in_iff.mp h
  exact vin_of (by rw [dec_toInt h1]; omega) (by rw [dec_toInt h1]; omega)
theorem next_lc {p s : Int32} (hp : vp_in p 8) (hz : s.toInt ≤ 8) : lc (p + 1) s 9 := by
  have h1 := vp_in_iff.mp hp
  have e : (p + 1).toInt = p.toInt + 1 := inc_toInt (b := 100) h1.1 (by have : (100 : Int32).toInt = 100 := rfl; omega)
  exact lc_from (by omega) (by omega) (by decide)
