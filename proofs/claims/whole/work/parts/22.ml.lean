/-- the window that the reference reads a text through: a row's place and length, the reader's place at most n -/
def WP (g : Mem) (n : Int) : Prop := 0 ≤ (g 0 6).toInt ∧ (g 0 6).toInt ≤ 700 ∧ (g 0 7).toInt ≤ 100 ∧ 0 ≤ (g 0 5).toInt ∧ (g 0 5).toInt ≤ n
theorem here_in {g : Mem} (h : WP g 600) (c : ¬ g 0 7 ≤ g 0 5) : vp_in (g 0 6 + g 0 5) 800 := by
  obtain ⟨h1, h2, h3, h4, h5⟩ := h
  have c2 := lt_of_nle c
  exact vin_of (by rw [add_toInt (by omega) (by omega) (by omega) (by omega)]; omega) (by rw [add_toInt (by omega) (by omega) (by omega) (by omega)]; omega)
theorem WP_inc {g : Mem} (h : WP g 500) : WP (up g 0 5 (g 0 5 + 1)) 600 := by
  obtain ⟨h1, h2, h3, h4, h5⟩ := h
  have e := add1_toInt (a := g 0 5) h4 (by omega)
  refine ⟨?_, ?_, ?_, ?_, ?_⟩
  · rw [up_ne (by decide)]; exact h1
  · rw [up_ne (by decide)]; exact h2
  · rw [up_ne (by decide)]; exact h3
  · rw [up_eq]; omega
  · rw [up_eq]; omega
theorem WP_num {g : Mem} {n : Int} (h : WP g n) {j : Nat} {v : Int32} : WP (up g 5 j v) n := by
  obtain ⟨h1, h2, h3, h4, h5⟩ := h
  refine ⟨?_, ?_, ?_, ?_, ?_⟩ <;> rw [up_ne (Or.inl (by decide))] <;> assumption
theorem WP_pl {g : Mem} (h : WP g 600) (c : (g 0 5).toInt < (g 0 7).toInt) : WP (up g 0 5 (g 0 5 + 1)) 600 := by
  obtain ⟨h1, h2, h3, h4, h5⟩ := h
  have e := add1_toInt (a := g 0 5) h4 (by omega)
  refine ⟨?_, ?_, ?_, ?_, ?_⟩
  · rw [up_ne (by decide)]; exact h1
  · rw [up_ne (by decide)]; exact h2
  · rw [up_ne (by decide)]; exact h3
  · rw [up_eq]; omega
  · rw [up_eq]; omega
theorem WP_up {g : Mem} {n m : Int} (h : WP g n) (hn : n ≤ m) : WP g m := ⟨h.1, h.2.1, h.2.2.1, h.2.2.2.1, Int.le_trans h.2.2.2.2 hn⟩
