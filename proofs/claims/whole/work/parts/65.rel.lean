section STC
variable {cg mg : Mem}
theorem st_copy (h : RI cg mg) (d i e j n : Int32) : (f_X5_copy cg d i e j n).1 = (f_X6_copy mg d i e j n).1 ∧ RI (f_X5_copy cg d i e j n).2 (f_X6_copy mg d i e j n).2 := by
  have e0 : (0 : Int32).toInt = 0 := rfl
  unfold f_X5_copy f_X6_copy
  rw [isShelf_eq, isShelf_eq]
  by_cases a : f_X6_isShelf d = 0
  · simp only [if_pos a]; exact ⟨trivial, h⟩
  · simp only [if_neg a]
    by_cases b : f_X6_isShelf e = 0
    · simp only [if_pos b]; exact ⟨trivial, h⟩
    · simp only [if_neg b]
      have hd := vin_lt (shelf_in a)
      have he := vin_lt (shelf_in b)
      have sd := h.1.2.1 (ix d) hd
      have se := h.1.2.1 (ix e) he
      rw [sd.1, se.1]
      by_cases k1 : mg 8 (ix d) = 0
      · simp only [if_pos k1]; exact ⟨trivial, h⟩
      · simp only [if_neg k1]
        by_cases k2 : mg 8 (ix e) = 0
        · simp only [if_pos k2]; exact ⟨trivial, h⟩
        · simp only [if_neg k2]
          by_cases k3 : mg 8 (ix d) = 2
          · simp only [if_pos k3]
            by_cases k4 : mg 8 (ix e) = 2
            · simp only [if_pos k4]
              obtain ⟨d1, d2, d3, d4, d5⟩ := sd.2.2.2 k3
              obtain ⟨g1, g2, g3, g4, g5⟩ := se.2.2.2 k4
              rw [d1, g1]
              by_cases k5 : mg 11 (ix d) = mg 11 (ix e)
              · simp only [if_pos k5]
                by_cases k6 : n < 0
                · simp only [if_pos k6]; exact ⟨trivial, h⟩
                · have k6b : ¬ n.toInt < (0 : Int32).toInt := fun q => k6 (i_lt.mpr q)
                  simp only [if_neg k6]
                  have hpd := hasPlaces_eq (cg := cg) (d := ix d) (i := i) (n := n) (by rw [d2]; exact d4)
                  have hpe := hasPlaces_eq (cg := cg) (d := ix e) (i := j) (n := n) (by rw [g2]; exact g4)
                  rw [d2] at hpd
                  rw [g2] at hpe
                  have bad : ¬ (0 ≤ i.toInt ∧ 0 ≤ j.toInt ∧ i.toInt + n.toInt ≤ (mg 12 (ix d)).toInt ∧ j.toInt + n.toInt ≤ (mg 12 (ix e)).toInt) → (if i < 0 then (((-13 : Int32), mg)) else (if j < 0 then (((-13 : Int32), mg)) else (if ((mg 12 (ix d)) - i) < n then (((-13 : Int32), mg)) else (if n ≤ ((mg 12 (ix e)) - j) then (f_X6_copy_122 mg d i e j n 101 (0 : Int32) mg) else (((-13 : Int32), mg)))))) = ((-13 : Int32), mg) := fun q => by
                    by_cases u1 : i < 0
                    · rw [if_pos u1]
                    · have u1b : ¬ i.toInt < (0 : Int32).toInt := fun z => u1 (i_lt.mpr z)
                      rw [if_neg u1]
                      by_cases u2 : j < 0
                      · rw [if_pos u2]
                      · have u2b : ¬ j.toInt < (0 : Int32).toInt := fun z => u2 (i_lt.mpr z)
                        rw [if_neg u2]
                        by_cases u3 : mg 12 (ix d) - i < n
                        · rw [if_pos u3]
                        · have u3b : ¬ (mg 12 (ix d) - i).toInt < n.toInt := fun z => u3 (i_lt.mpr z)
                          rw [if_neg u3, if_neg]
                          intro u4
                          have u4b := i_le.mp u4
                          have hi := Int32.toInt_lt i
                          have hj := Int32.toInt_lt j
                          rw [Int32.toInt_sub, Int.bmod_eq_of_le (by omega) (by omega)] at u3b u4b
                          exact q ⟨by omega, by omega, by omega, by omega⟩
                  rcases hpd with ⟨v1, v2⟩ | ⟨v1, v2, v3, v4⟩
                  · simp only [v1, if_true]
                    rw [bad (fun q => v2 ⟨q.1, by omega, q.2.2.1⟩)]
                    exact ⟨rfl, h⟩
                  · have n1 : ¬ (1 : Int32) = 0 := by decide
                    simp only [v1, if_neg n1]
                    rcases hpe with ⟨w1, w2⟩ | ⟨w1, w2, w3, w4⟩
                    · simp only [w1, if_true]
                      rw [bad (fun q => w2 ⟨q.2.1, by omega, q.2.2.2⟩)]
                      exact ⟨rfl, h⟩
                    · simp only [w1, if_neg n1]
                      have s1 : (mg 12 (ix d) - i).toInt = (mg 12 (ix d)).toInt - i.toInt := subS (by omega) (by omega)
                      have s2 : (mg 12 (ix e) - j).toInt = (mg 12 (ix e)).toInt - j.toInt := subS (by omega) (by omega)
                      have u1 : ¬ i < 0 := fun z => by have := i_lt.mp z; omega
                      have u2 : ¬ j < 0 := fun z => by have := i_lt.mp z; omega
                      have u3 : ¬ mg 12 (ix d) - i < n := fun z => by have := i_lt.mp z; omega
                      have u4 : n ≤ mg 12 (ix e) - j := i_le.mpr (by omega)
                      simp only [if_neg u1, if_neg u2, if_neg u3, if_pos u4]
                      have xi := ix_toInt v2
                      have xj := ix_toInt w2
                      have xn := ix_toInt v3
                      have i0 : ix (0 : Int32) = 0 := by decide
                      have l : lc 0 n 101 := lc_0 (by omega) (by decide)
                      have st : CQ mg mg (100 * ix d + ix i) (100 * ix e + ix j) (if i ≤ j then ix n - ix (0 : Int32) else 0) (if i ≤ j then ix n else ix (0 : Int32)) := by
                        rw [i0]
                        refine ⟨fun _ _ => rfl, fun f => ?_⟩
                        split <;> rw [if_neg (by omega)]
                      obtain ⟨r1, r2, r3⟩ := cp_L (shelf_in a) (shelf_in b) v2 w2 v3 (by omega) (by omega) 101 0 mg l ⟨by omega, st⟩
                      refine ⟨r1.symm, RI_shelf h (fun q hq => upR_row (by omega)) (fun r hr => r2 r (by omega)) (fun x hx => ?_) (In_rows (fun q hq => upR_row (by omega)) h.2.1) (fun D hD => by rw [r2 12 (by decide)]; exact h.2.2.1.2.2 D hD) (BY_CQ h.2.2.2 hd he (by omega) (by omega) ⟨r2, r3⟩ k3 k5)⟩
                      have sx := h.1.2.1 x hx
                      unfold SR
                      rw [upR_row (by omega : 24 + x ≠ 32 + ix e), r2 8 (by decide), r2 9 (by decide), r2 10 (by decide), r2 11 (by decide), r2 12 (by decide)]
                      refine ⟨sx.1, sx.2.1, sx.2.2.1, fun q => ?_⟩
                      obtain ⟨y1, y2, y3, y4, y5⟩ := sx.2.2.2 q
                      refine ⟨y1, y2, y3, y4, fun f hf => ?_⟩
                      rw [r3]
                      by_cases xe : x = ix e
                      · subst xe
                        rw [upR_eq]
                        unfold va_cpy
                        by_cases z : ix j ≤ f ∧ f < ix j + ix n
                        · rw [if_pos z, if_pos (by omega), d5 _ (by omega)]
                          rw [show 100 * ix d + (ix i + (f - ix j)) = 100 * ix d + ix i + (100 * ix e + f - (100 * ix e + ix j)) by omega]
                        · rw [if_neg z, if_neg (by omega)]
                          exact y5 f hf
                      · rw [upR_row (by omega), if_neg (by omega)]
                        exact y5 f hf
              · simp only [if_neg k5]; exact ⟨trivial, h⟩
            · simp only [if_neg k4]; exact ⟨trivial, h⟩
          · simp only [if_neg k3]; exact ⟨trivial, h⟩
end STC
