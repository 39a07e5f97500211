section FRV
variable {cg mg : Mem}
theorem eq_row (h : FR cg 0 mg 1) (hs : SRs cg mg) (d s n : Int32) : (f_X5_row cg d s n).1 = (f_X6_row mg d s n).1 ∧ FR (f_X5_row cg d s n).2 0 (f_X6_row mg d s n).2 1 ∧ SRs (f_X5_row cg d s n).2 (f_X6_row mg d s n).2 := by
  unfold f_X5_row f_X6_row
  rw [isShelf_eq, isWithin_eq]
  by_cases a : f_X6_isShelf d = 0
  · simp only [if_pos a]
    exact ⟨trivial, h, hs⟩
  · simp only [if_neg a]
    have hv := shelf_in a
    have hd := vin_lt hv
    by_cases b : f_X6_isIn s 0 2 = 0
    · simp only [if_pos b]
      exact ⟨trivial, h, hs⟩
    · simp only [if_neg b]
      by_cases c : n ≤ 100
      · simp only [if_pos c]
        by_cases e : 0 ≤ n
        · simp only [if_pos e]
          have hsrt := isIn_in b
          have hn0 := i_le.mp e
          have hn1 := i_le.mp c
          have e0 : (0 : Int32).toInt = 0 := rfl
          have e2 : (2 : Int32).toInt = 2 := rfl
          have e100 : (100 : Int32).toInt = 100 := rfl
          have i0 : ix (0 : Int32) = 0 := by decide
          have hl : lc 0 100 101 := lc_0 (by decide) (by decide)
          have hC : ∀ q f, f_X4_holdRow cg (ix d) s n q f = if q = 32 + ix d ∧ 0 ≤ f ∧ f < 100 then 0 else up (up (up cg (24 + ix d) 1 2) (24 + ix d) 4 s) (24 + ix d) 5 n q f := fun q f => by
            have := hold_L (cg := cg) (d := ix d) (p0 := s) (p1 := n) 101 0 (f_X4_holdRow_m3 cg (ix d) s n) hl q f
            rw [i0] at this
            exact this
          obtain ⟨z1, z2⟩ := rowz_L (mg := mg) (p1 := s) (p2 := n) hv 101 0 (f_X6_row_m3 mg d s n) hl
          have hM : ∀ q f, (f_X6_row_55 mg d s n 101 0 (f_X6_row_m3 mg d s n)).2 q f = if q = 13 ∧ 100 * ix d + 0 ≤ f ∧ f < 100 * ix d + 100 then 0 else up (up (up mg 8 (ix d) 2) 11 (ix d) s) 12 (ix d) n q f := fun q f => by
            have := z2 q f
            rw [i0] at this
            exact this
          refine ⟨z1.symm, FR_row (funext fun f => ?_) (FR_crow (fun q hq => funext fun f => ?_) (by decide) h), fun d2 hd2 => ?_⟩
          · rw [hM, if_neg (by omega), up_ne (by omega), up_ne (by omega), up_ne (by omega)]
          · rw [hC, if_neg (by omega), up_ne (by omega), up_ne (by omega), up_ne (by omega)]
          · by_cases x : d2 = ix d
            · subst x
              have k8 : (f_X6_row_55 mg d s n 101 0 (f_X6_row_m3 mg d s n)).2 8 (ix d) = 2 := by rw [hM, if_neg (by omega), up_ne (by omega), up_ne (by omega), up_eq]
              refine ⟨?_, Or.inr (Or.inr k8), fun q => ?_, fun _ => ⟨?_, ?_, ?_, ?_, fun j hj => ?_⟩⟩
              · rw [k8, hC, if_neg (by omega), up_ne (by omega), up_ne (by omega), up_eq]
              · rw [k8] at q; exact absurd q (by decide)
              · rw [hC, if_neg (by omega), up_ne (by omega), up_eq, hM, if_neg (by omega), up_ne (by omega), up_eq]
              · rw [hC, if_neg (by omega), up_eq, hM, if_neg (by omega), up_eq]
              · rw [hM, if_neg (by omega), up_ne (by omega), up_eq]; omega
              · rw [hM, if_neg (by omega), up_eq]; omega
              · rw [hC, if_pos (by omega), hM, if_pos (by omega)]
            · obtain ⟨h1, h2, h3, h4⟩ := hs d2 hd2
              have C24 : ∀ f, f_X4_holdRow cg (ix d) s n (24 + d2) f = cg (24 + d2) f := fun f => by rw [hC, if_neg (by omega), up_ne (by omega), up_ne (by omega), up_ne (by omega)]
              have C32 : ∀ f, f_X4_holdRow cg (ix d) s n (32 + d2) f = cg (32 + d2) f := fun f => by rw [hC, if_neg (by omega), up_ne (by omega), up_ne (by omega), up_ne (by omega)]
              have Mr : ∀ r, r ≠ 13 → (f_X6_row_55 mg d s n 101 0 (f_X6_row_m3 mg d s n)).2 r d2 = mg r d2 := fun r hr => by rw [hM, if_neg (by omega), up_ne (by omega), up_ne (by omega), up_ne (by omega)]
              unfold SR
              rw [C24, C24, C24, C24, C24, Mr 8 (by decide), Mr 9 (by decide), Mr 10 (by decide), Mr 11 (by decide), Mr 12 (by decide)]
              refine ⟨h1, h2, h3, fun q => ?_⟩
              obtain ⟨b1, b2, b3, b4, g⟩ := h4 q
              refine ⟨b1, b2, b3, b4, fun j hj => ?_⟩
              rw [C32, hM, if_neg (by omega), up_ne (by omega), up_ne (by omega), up_ne (by omega)]
              exact g j hj
        · simp only [if_neg e]
          exact ⟨trivial, h, hs⟩
      · simp only [if_neg c]
        exact ⟨trivial, h, hs⟩
end FRV
