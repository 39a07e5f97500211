section FRE
variable {cg mg : Mem} {t k : Nat}
theorem FR_row {mg2 : Mem} (e : mg2 k = mg k) (h : FR cg t mg k) : FR cg t mg2 k := by
  unfold FR PR at *
  rw [e]
  exact h
theorem SRs_row {mg2 : Mem} (e : ∀ r, 8 ≤ r → r ≤ 13 → mg2 r = mg r) (h : SRs cg mg) : SRs cg mg2 := fun d hd => by
  have h2 := h d hd
  unfold SR at *
  rw [e 8 (by decide) (by decide), e 9 (by decide) (by decide), e 10 (by decide) (by decide), e 11 (by decide) (by decide), e 12 (by decide) (by decide), e 13 (by decide) (by decide)]
  exact h2
theorem up_row {g : Mem} {r q f : Nat} {v : Int32} (h : q ≠ r) : up g r f v q = g q := funext fun _ => up_ne (Or.inl h)
theorem hasPlace_eq (h : SRs cg mg) {d i : Int32} (c : f_X6_wrongRow mg d (-1) = 0) : f_X4_hasPlace cg (ix d) i = f_X6_isIn i 0 (mg 12 (ix d) - 1) := by
  obtain ⟨_, _, e2, _, hl, _⟩ := row_2 h c
  unfold f_X4_hasPlace f_X6_isIn
  have e := sz_m1 hl.1
  rw [e2]
  by_cases a : i < 0
  · rw [if_pos a, if_pos a]
  · rw [if_neg a, if_neg a]
    by_cases b : mg 12 (ix d) ≤ i
    · rw [if_pos b, if_pos (i_lt.mpr (by have := i_le.mp b; omega))]
    · rw [if_neg b, if_neg (fun q => by have := i_lt.mp q; have := lt_of_nle b; omega)]
theorem elt_ix {d i : Int32} (hd : vp_in d 8) (hi : vp_in i 100) : ix (100 * d + i) = 100 * ix d + ix i := by
  have h1 := vp_in_iff.mp hd
  have h2 := vp_in_iff.mp hi
  have e : (100 : Int32).toInt = 100 := rfl
  have h3 : (100 * d).toInt = 100 * d.toInt := by rw [mul_toInt (by omega) (by omega) (by omega) (by omega), e]
  have h4 : (100 * d + i).toInt = 100 * d.toInt + i.toInt := by rw [add_toInt (by omega) (by omega) (by omega) (by omega), h3]
  have x1 := ix_toInt h1.1
  have x2 := ix_toInt h2.1
  have x3 := ix_toInt (x := 100 * d + i) (by omega)
  omega
theorem place_in (h : SRs cg mg) {d i : Int32} (c : f_X6_wrongRow mg d (-1) = 0) (b : ¬ f_X6_isIn i 0 (mg 12 (ix d) - 1) = 0) : vp_in i 100 := by
  obtain ⟨_, _, _, _, hl, _⟩ := row_2 h c
  have h1 := isIn_in b
  have e := sz_m1 hl.1
  have e0 : (0 : Int32).toInt = 0 := rfl
  exact vin_of (by omega) (by omega)
theorem at_eq (h : SRs cg mg) {d i : Int32} (c : f_X6_wrongRow mg d (-1) = 0) (b : ¬ f_X6_isIn i 0 (mg 12 (ix d) - 1) = 0) : f_X4_at cg (ix d) i = mg 13 (ix (100 * d + i)) := by
  have hi := place_in h c b
  have hx := vin_lt hi
  obtain ⟨hd, _, _, _, _, he⟩ := row_2 h c
  unfold f_X4_at
  rw [hasPlace_eq h c, if_neg b, elt_ix hd hi]
  exact he _ hx
theorem wrongRow_2 {d : Int32} (a : ¬ f_X6_isShelf d = 0) : f_X6_wrongRow mg d (-1) = 0 ↔ mg 8 (ix d) = 2 := by
  unfold f_X6_wrongRow
  rw [if_neg a]
  constructor
  · intro h
    by_cases x : mg 8 (ix d) = 0
    · rw [if_pos x] at h; exact absurd h (by decide)
    · rw [if_neg x] at h
      by_cases y : mg 8 (ix d) = 2
      · exact y
      · rw [if_neg y] at h; exact absurd h (by decide)
  · intro h
    rw [h]
    rfl
/-- the law's element and the reference's: what was thrown, and the value -/
theorem eq_element (h : SRs cg mg) (d i : Int32) : (f_X6_element mg d i).2 = up mg 0 19 (rL (f_X5_element cg d i)) ∧ ((f_X5_element cg d i).1 = 0 → (f_X6_element mg d i).1 = (f_X5_element cg d i).2) ∧ (¬ (f_X5_element cg d i).1 = 0 → (f_X6_element mg d i).1 = 0) := by
  have n1 : ¬ (1 : Int32) = 0 := by decide
  have n2 : ¬ (2 : Int32) = 0 := by decide
  have n3 : ¬ (3 : Int32) = 0 := by decide
  have n32 : ¬ (3 : Int32) = 2 := by decide
  unfold rL f_X5_element f_X6_element
  rw [isShelf_eq, refusalR_eq h]
  simp only [up_eq]
  by_cases a : f_X6_isShelf d = 0
  · simp only [if_pos a, if_neg n1, if_neg n2]
    exact ⟨rfl, fun q => absurd q n2, fun _ => trivial⟩
  · simp only [if_neg a]
    by_cases b : mg 8 (ix d) = 2
    · have c := (wrongRow_2 a).mpr b
      simp only [if_pos b, if_pos c]
      rw [hasPlace_eq h c]
      by_cases f : f_X6_isIn i 0 (mg 12 (ix d) - 1) = 0
      · simp only [if_pos f, if_neg n2, if_neg n3, if_neg n32]
        exact ⟨trivial, fun q => absurd q n3, fun _ => trivial⟩
      · simp only [if_neg f]
        rw [at_eq h c f, up_row (by decide)]
        exact ⟨rfl, fun _ => rfl, fun q => absurd trivial q⟩
    · have c : ¬ f_X6_wrongRow mg d (-1) = 0 := fun q => b ((wrongRow_2 a).mp q)
      simp only [if_neg b, if_neg c, if_neg n2, if_neg n3, if_neg n32]
      exact ⟨trivial, fun q => absurd q n3, fun _ => trivial⟩
end FRE
