section FRP
variable {cg mg : Mem} {t k : Nat}
theorem FR_crow {cg2 : Mem} (e : ∀ q, q < 24 ∨ 40 ≤ q → cg2 q = cg q) (ht : t < 3) (h : FR cg t mg k) : FR cg2 t mg k := by
  obtain ⟨e1, e2, e3, e4, e5⟩ := h
  have e40 := e (40 + t) (Or.inr (by omega))
  refine ⟨by rw [e40]; exact e1, by rw [e40]; exact e2, by rw [e40]; exact e3, e4, fun i hi => ?_⟩
  have ei := e (8 * t + i) (Or.inl (by omega))
  unfold PR
  rw [ei]
  exact e5 i hi
theorem SRs_upE (h : SRs cg mg) {d i : Nat} (hd : d < 8) (hi : i < 100) {v w : Int32} (e : v = w) : SRs (up cg (32 + d) i v) (up mg 13 (100 * d + i) w) := fun d2 hd2 => by
  subst e
  obtain ⟨h1, h2, h3, h4⟩ := h d2 hd2
  unfold SR
  rw [up_row (by omega : 24 + d2 ≠ 32 + d), up_row (by decide : 8 ≠ 13), up_row (by decide : 9 ≠ 13), up_row (by decide : 10 ≠ 13), up_row (by decide : 11 ≠ 13), up_row (by decide : 12 ≠ 13)]
  refine ⟨h1, h2, h3, fun q => ?_⟩
  obtain ⟨a, b, c, f, g⟩ := h4 q
  refine ⟨a, b, c, f, fun j hj => ?_⟩
  by_cases x : d2 = d ∧ j = i
  · obtain ⟨rfl, rfl⟩ := x
    rw [up_eq, up_eq]
  · rw [up_ne (by omega), up_ne (Or.inr (by omega))]
    exact g j hj
theorem eq_put (h : FR cg 0 mg 1) (hs : SRs cg mg) (d i v : Int32) : (f_X5_put cg d i v).1 = (f_X6_put mg d i v).1 ∧ FR (f_X5_put cg d i v).2 0 (f_X6_put mg d i v).2 1 ∧ SRs (f_X5_put cg d i v).2 (f_X6_put mg d i v).2 := by
  unfold f_X5_put f_X6_put
  rw [refusalR_eq hs]
  by_cases c : f_X6_wrongRow mg d (-1) = 0
  · simp only [if_pos c]
    rw [hasPlace_eq hs c]
    by_cases b : f_X6_isIn i 0 (mg 12 (ix d) - 1) = 0
    · simp only [if_pos b]
      exact ⟨trivial, h, hs⟩
    · simp only [if_neg b]
      have hi := place_in hs c b
      obtain ⟨hd, e1, _⟩ := row_2 hs c
      have ei := elt_ix hd hi
      have key : ∀ x y : Int32, x = y → FR (up cg (32 + ix d) (ix i) x) 0 (up mg 13 (ix (100 * d + i)) y) 1 ∧ SRs (up cg (32 + ix d) (ix i) x) (up mg 13 (ix (100 * d + i)) y) := fun x y e => by
        have hd8 := vin_lt hd
        rw [ei]
        exact ⟨FR_row (up_row (by decide)) (FR_crow (fun q hq => up_row (by omega)) (by decide) h), SRs_upE hs hd8 (vin_lt hi) e⟩
      unfold f_X4_lowestBits
      rw [e1]
      by_cases s0 : mg 11 (ix d) = 0
      · simp only [if_pos s0]
        exact ⟨trivial, key _ _ rfl⟩
      · simp only [if_neg s0]
        by_cases s1 : mg 11 (ix d) = 1
        · simp only [if_pos s1]
          exact ⟨trivial, key _ _ rfl⟩
        · simp only [if_neg s1]
          exact ⟨trivial, key _ _ rfl⟩
  · simp only [if_neg c]
    exact ⟨trivial, h, hs⟩
end FRP
