section FRS
variable {cg mg : Mem}
/-- a shelf of the class and of the reference hold the same -/
def SR (cg mg : Mem) (d : Nat) : Prop := cg (24 + d) 1 = mg 8 d ∧ (mg 8 d = 0 ∨ mg 8 d = 1 ∨ mg 8 d = 2) ∧ (mg 8 d = 1 → cg (24 + d) 2 = mg 9 d ∧ cg (24 + d) 3 = mg 10 d ∧ vp_in (mg 9 d) 8 ∧ 0 ≤ (mg 10 d).toInt ∧ (mg 10 d).toInt ≤ 9) ∧
  (mg 8 d = 2 → cg (24 + d) 4 = mg 11 d ∧ cg (24 + d) 5 = mg 12 d ∧ (0 ≤ (mg 11 d).toInt ∧ (mg 11 d).toInt ≤ 2) ∧ (0 ≤ (mg 12 d).toInt ∧ (mg 12 d).toInt ≤ 100) ∧ ∀ j : Nat, j < 100 → cg (32 + d) j = mg 13 (100 * d + j))
def SRs (cg mg : Mem) : Prop := ∀ d : Nat, d < 8 → SR cg mg d
theorem shelf_in {p : Int32} (c : ¬ f_X6_isShelf p = 0) : vp_in p 8 := by
  have h := isIn_in c
  have e0 : (0 : Int32).toInt = 0 := rfl
  have e7 : (7 : Int32).toInt = 7 := rfl
  exact vin_of (by omega) (by omega)
theorem isShelf_eq {p : Int32} : f_X5_isShelf p = f_X6_isShelf p := rfl
theorem refusalK_eq (h : SRs cg mg) (p : Int32) : f_X5_refusalOfKind cg p = f_X6_wrongKept mg p := by
  unfold f_X5_refusalOfKind f_X5_refusalUnlessHeld f_X6_wrongKept
  rw [isShelf_eq]
  by_cases a : f_X6_isShelf p = 0
  · rw [if_pos a, if_pos a]
  · rw [if_neg a, if_neg a]
    obtain ⟨e, hv, _⟩ := h (ix p) (vin_lt (shelf_in a))
    rw [e]
    rcases hv with hv | hv | hv <;> rw [hv] <;> rfl
theorem refusalR_eq (h : SRs cg mg) (p : Int32) : f_X5_refusalOfRow cg p = f_X6_wrongRow mg p (-1) := by
  unfold f_X5_refusalOfRow f_X5_refusalUnlessHeld f_X6_wrongRow
  rw [isShelf_eq]
  by_cases a : f_X6_isShelf p = 0
  · rw [if_pos a, if_pos a]
  · rw [if_neg a, if_neg a]
    obtain ⟨e, hv, _⟩ := h (ix p) (vin_lt (shelf_in a))
    rw [e]
    rcases hv with hv | hv | hv <;> rw [hv] <;> rfl
theorem kept_1 (h : SRs cg mg) {p : Int32} (c : f_X6_wrongKept mg p = 0) : vp_in p 8 ∧ cg (24 + ix p) 2 = mg 9 (ix p) ∧ cg (24 + ix p) 3 = mg 10 (ix p) ∧ vp_in (mg 9 (ix p)) 8 ∧ 0 ≤ (mg 10 (ix p)).toInt ∧ (mg 10 (ix p)).toInt ≤ 9 := by
  have m1 : ¬ (-1 : Int32) = 0 := by decide
  unfold f_X6_wrongKept at c
  by_cases a : f_X6_isShelf p = 0
  · rw [if_pos a] at c; exact absurd c m1
  · rw [if_neg a] at c
    obtain ⟨e, hv, hk, _⟩ := h (ix p) (vin_lt (shelf_in a))
    rcases hv with hv | hv | hv
    · rw [hv] at c; exact absurd c (by decide)
    · exact ⟨shelf_in a, hk hv⟩
    · rw [hv] at c; exact absurd c (by decide)
theorem row_2 (h : SRs cg mg) {p : Int32} (c : f_X6_wrongRow mg p (-1) = 0) : vp_in p 8 ∧ cg (24 + ix p) 4 = mg 11 (ix p) ∧ cg (24 + ix p) 5 = mg 12 (ix p) ∧ (0 ≤ (mg 11 (ix p)).toInt ∧ (mg 11 (ix p)).toInt ≤ 2) ∧ (0 ≤ (mg 12 (ix p)).toInt ∧ (mg 12 (ix p)).toInt ≤ 100) ∧ ∀ j : Nat, j < 100 → cg (32 + ix p) j = mg 13 (100 * ix p + j) := by
  have m1 : ¬ (-1 : Int32) = 0 := by decide
  unfold f_X6_wrongRow at c
  by_cases a : f_X6_isShelf p = 0
  · rw [if_pos a] at c; exact absurd c m1
  · rw [if_neg a] at c
    obtain ⟨e, hv, _, hr⟩ := h (ix p) (vin_lt (shelf_in a))
    rcases hv with hv | hv | hv
    · rw [hv] at c; exact absurd (show (-11 : Int32) = 0 from c) (by decide)
    · rw [hv] at c; exact absurd (show (-12 : Int32) = 0 from c) (by decide)
    · exact ⟨shelf_in a, hr hv⟩
theorem eq_cost (h : SRs cg mg) (p : Int32) : f_X5_cost cg p = f_X6_cost mg p := by
  unfold f_X5_cost f_X6_cost
  rw [refusalK_eq h]
  by_cases c : f_X6_wrongKept mg p = 0
  · rw [if_pos c, if_pos c]
    obtain ⟨_, e1, e2, hk, _⟩ := kept_1 h c
    rw [e1, e2, cost_eq hk]
  · rw [if_neg c, if_neg c]
theorem tail_eq {w f : Int32} (hw : vp_in w 8) : f_toss_tail w f = if w = 4 then -15 else if w = 7 then -15 else if f = 0 then -15 else if w = 5 then 200 + f_X6_costBy w f else if w = 3 then 100 + f else f := by
  unfold f_toss_tail f_X1_failWith
  rw [cost_eq hw]
  by_cases c : f = 0
  · simp only [if_pos c]
    rcases vin8_cases hw with rfl | rfl | rfl | rfl | rfl | rfl | rfl | rfl <;> rfl
  · simp only [if_neg c]
    rcases vin8_cases hw with rfl | rfl | rfl | rfl | rfl | rfl | rfl | rfl <;> rfl
theorem eq_toss (h : SRs cg mg) (p : Int32) : f_X5_toss cg p = f_X6_toss mg p := by
  unfold f_X5_toss f_X6_toss
  rw [refusalK_eq h]
  by_cases c : f_X6_wrongKept mg p = 0
  · rw [if_pos c, if_pos c]
    obtain ⟨_, e1, e2, hk, _⟩ := kept_1 h c
    rw [e1, e2, tail_eq hk]
  · rw [if_neg c, if_neg c]
theorem comes_keep {k : Nat} {w p1 p2 p3 : Int32} (hp : vp_in (mg k 0) 9) : f_X6_adds mg k w p1 p2 p3 k 2 = mg k 2 := by
  show up (f_X6_adds_m6 mg k w p1 p2 p3) k 0 _ k 2 = mg k 2
  rw [up_ne (Or.inr (by decide)), ad_o hp (Or.inl (by omega))]
theorem eq_comes (h : FR cg 0 mg 1) (hT : TB mg) (hs : SRs cg mg) (d a b : Int32) : (f_X5_comes cg d a b).1 = (f_X6_comes mg d a b).1 ∧ FR (f_X5_comes cg d a b).2 0 (f_X6_comes mg d a b).2 1 ∧ TB (f_X6_comes mg d a b).2 := by
  have n1 : ¬ (1 : Int32) = 0 := by decide
  unfold f_X5_comes f_X6_comes f_X5_isFeeling r_X0_takeIn m_X0_takeIn f_X0_takeIn
  rw [isWithin_eq, isWithin_eq, refusalK_eq hs, isShelf_eq]
  have hsh : f_X6_isShelf d = 0 → f_X6_wrongKept mg d = -1 := fun q => by unfold f_X6_wrongKept; rw [if_pos q]
  by_cases s0 : f_X6_isShelf d = 0
  · have hw := hsh s0
    have m1 : ¬ (-1 : Int32) = 0 := by decide
    rw [hw]
    simp only [if_pos s0, if_neg m1, ite_self]
    exact ⟨trivial, h, hT⟩
  · simp only [if_neg s0]
    by_cases ca : f_X6_isIn a 0 30 = 0
    · simp only [if_pos ca]
      exact ⟨trivial, h, hT⟩
    · simp only [if_neg ca]
      by_cases cb : f_X6_isIn b 0 30 = 0
      · simp only [if_pos cb]
        exact ⟨trivial, h, hT⟩
      · simp only [if_neg cb]
        by_cases c : f_X6_wrongKept mg d = 0
        · simp only [if_pos c]
          obtain ⟨_, e1, e2, hk, _⟩ := kept_1 hs c
          have h8 := h.2.2.2.1
          have e8 : (8 : Int32).toInt = 8 := rfl
          have ez : cg (40 + 0) 1 = mg 1 0 := h.1
          rw [ez, e1, e2]
          by_cases f : mg 1 0 = 8
          · have f2 : ¬ mg 1 0 < 8 := fun q => by have := i_lt.mp q; rw [f] at this; omega
            simp only [if_pos f, if_neg f2]
            exact ⟨rfl, h, hT⟩
          · have hne := ne_toInt f
            have f2 : mg 1 0 < 8 := i_lt.mpr (by omega)
            have hp : vp_in (mg 1 0) 9 := vin_of h8.1 (by omega)
            simp only [if_pos f2, if_neg f, if_neg n1]
            refine ⟨?_, FR_takeIn (by decide) h f hk, ?_⟩
            · show mg 1 0 = (up (f_X6_adds_m6 mg 1 (mg 9 (ix d)) (mg 10 (ix d)) a b) 1 0 (f_X6_adds_m6 mg 1 (mg 9 (ix d)) (mg 10 (ix d)) a b 1 0 + 1) 1 0) - 1
              rw [up_eq, ad_o hp (Or.inl (by omega)), Int32.add_sub_cancel]
            · unfold TB
              rw [comes_keep hp]
              exact hT
        · simp only [if_neg c]
          exact ⟨trivial, h, hT⟩
end FRS
