section FRK
variable {cg mg : Mem}
theorem SRs_set {C M : Mem} {D : Nat} (h : SRs cg mg) (hD8 : D < 8) (hC : ∀ q, q ≠ 24 + D → C q = cg q) (hM : ∀ r f : Nat, 8 ≤ r → r ≤ 13 → (f ≠ D ∨ 10 < r) → M r f = mg r f) (hD : SR C M D) : SRs C M := fun d2 hd2 => by
  by_cases x : d2 = D
  · rw [x]; exact hD
  · obtain ⟨h1, h2, h3, h4⟩ := h d2 hd2
    unfold SR
    rw [hC (24 + d2) (by omega), hC (32 + d2) (by omega), hM 8 d2 (by decide) (by decide) (Or.inl x), hM 9 d2 (by decide) (by decide) (Or.inl x), hM 10 d2 (by decide) (by decide) (Or.inl x), hM 11 d2 (by decide) (by decide) (Or.inl x), hM 12 d2 (by decide) (by decide) (Or.inl x)]
    refine ⟨h1, h2, h3, fun q => ?_⟩
    obtain ⟨a, b, c, f, g⟩ := h4 q
    exact ⟨a, b, c, f, fun j hj => by rw [hM 13 _ (by decide) (by decide) (Or.inr (by decide))]; exact g j hj⟩
theorem eq_keep (h : FR cg 0 mg 1) (hs : SRs cg mg) (d w p f : Int32) : (f_X5_keep cg d w p f).1 = (f_X6_keep mg d w p f).1 ∧ FR (f_X5_keep cg d w p f).2 0 (f_X6_keep mg d w p f).2 1 ∧ SRs (f_X5_keep cg d w p f).2 (f_X6_keep mg d w p f).2 := by
  have e7 : (8 : Int32) - 1 = 7 := by decide
  unfold f_X5_keep f_X6_keep f_X5_isOneOfTwo f_X5_isKind f_X5_isFigure
  rw [isShelf_eq, isWithin_eq, isWithin_eq, isWithin_eq, e7]
  by_cases a : f_X6_isShelf d = 0
  · simp only [if_pos a]
    exact ⟨trivial, h, hs⟩
  · simp only [if_neg a]
    have hd := vin_lt (shelf_in a)
    by_cases b : f_X6_isIn w 0 1 = 0
    · simp only [if_pos b]
      exact ⟨trivial, h, hs⟩
    · simp only [if_neg b]
      by_cases c : w = 0
      · have c1 : ¬ w = 1 := fun q => by rw [q] at c; exact absurd c (by decide)
        simp only [if_pos c, if_neg c1]
        subst c
        have m0 : f_X6_keep_m6 mg d 0 p f 8 (ix d) = 0 := by
          unfold f_X6_keep_m6 f_X6_keep_m5 f_X6_keep_m4
          rw [up_ne (Or.inl (by decide)), up_ne (Or.inl (by decide)), up_eq]
        refine ⟨trivial, FR_row (by unfold f_X6_keep_m6 f_X6_keep_m5 f_X6_keep_m4; rw [up_row (by decide), up_row (by decide), up_row (by decide)]) (FR_crow (fun q hq => up_row (by omega)) (by decide) h), SRs_set hs hd (fun q hq => up_row hq) (fun r g h8 h13 hx => ?_) ⟨?_, Or.inl m0, fun q => ?_, fun q => ?_⟩⟩
        · unfold f_X6_keep_m6 f_X6_keep_m5 f_X6_keep_m4
          rw [up_ne (by omega), up_ne (by omega), up_ne (by omega)]
        · rw [up_eq, m0]
        · rw [m0] at q; exact absurd q (by decide)
        · rw [m0] at q; exact absurd q (by decide)
      · have h01 := isIn_in b
        have c1 : w = 1 := Int32.toInt_inj.mp (by have hne := ne_toInt c; have e0 : (0 : Int32).toInt = 0 := rfl; have e1 : (1 : Int32).toInt = 1 := rfl; omega)
        simp only [if_neg c, if_pos c1]
        subst c1
        by_cases x : f_X6_isIn p 0 7 = 0
        · simp only [if_pos x]
          exact ⟨trivial, h, hs⟩
        · simp only [if_neg x]
          by_cases y : f_X6_isIn f 0 9 = 0
          · simp only [if_pos y]
            exact ⟨trivial, h, hs⟩
          · simp only [if_neg y]
            have hp : vp_in p 8 := shelf_in x
            have hf := isIn_in y
            have m0 : f_X6_keep_m3 mg d 1 p f 8 (ix d) = 1 := by
              unfold f_X6_keep_m3 f_X6_keep_m2 f_X6_keep_m1
              rw [up_ne (Or.inl (by decide)), up_ne (Or.inl (by decide)), up_eq]
            have m1 : f_X6_keep_m3 mg d 1 p f 9 (ix d) = p := by
              unfold f_X6_keep_m3 f_X6_keep_m2 f_X6_keep_m1
              rw [up_ne (Or.inl (by decide)), up_eq]
            have m2 : f_X6_keep_m3 mg d 1 p f 10 (ix d) = f := by
              unfold f_X6_keep_m3
              rw [up_eq]
            refine ⟨trivial, FR_row (by unfold f_X6_keep_m3 f_X6_keep_m2 f_X6_keep_m1; rw [up_row (by decide), up_row (by decide), up_row (by decide)]) (FR_crow (fun q hq => ?_) (by decide) h), SRs_set hs hd (fun q hq => ?_) (fun r g h8 h13 hx => ?_) ⟨?_, Or.inr (Or.inl m0), fun q => ?_, fun q => ?_⟩⟩
            · unfold f_X4_holdKind f_X4_holdKind_m3 f_X4_holdKind_m2 f_X4_holdKind_m1
              rw [up_row (by omega), up_row (by omega), up_row (by omega)]
            · unfold f_X4_holdKind f_X4_holdKind_m3 f_X4_holdKind_m2 f_X4_holdKind_m1
              rw [up_row hq, up_row hq, up_row hq]
            · unfold f_X6_keep_m3 f_X6_keep_m2 f_X6_keep_m1
              rw [up_ne (by omega), up_ne (by omega), up_ne (by omega)]
            · rw [m0]
              unfold f_X4_holdKind f_X4_holdKind_m3 f_X4_holdKind_m2 f_X4_holdKind_m1
              rw [up_ne (Or.inr (by decide)), up_ne (Or.inr (by decide)), up_eq]
            · rw [m1, m2]
              unfold f_X4_holdKind f_X4_holdKind_m3 f_X4_holdKind_m2 f_X4_holdKind_m1
              refine ⟨?_, ?_, hp, ?_⟩
              · rw [up_ne (Or.inr (by decide)), up_eq]
              · rw [up_eq]
              · have e0 : (0 : Int32).toInt = 0 := rfl
                have e9 : (9 : Int32).toInt = 9 := rfl
                omega
            · rw [m0] at q; exact absurd q (by decide)
end FRK
