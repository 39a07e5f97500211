section FRJ
variable {cg mg : Mem}
/-- what has been copied of the row, from a place on, so many -/
def CQ (mg m : Mem) (D E lo hi : Nat) : Prop := (∀ r, r ≠ 13 → m r = mg r) ∧ ∀ f, m 13 f = if E + lo ≤ f ∧ f < E + hi then mg 13 (D + (f - E)) else mg 13 f
theorem cp_L {p0 p1 p2 p3 p4 : Int32} (h0 : vp_in p0 8) (h2 : vp_in p2 8) (i0 : 0 ≤ p1.toInt) (j0 : 0 ≤ p3.toInt) (n0 : 0 ≤ p4.toInt) (i1 : p1.toInt + p4.toInt ≤ 100) (j1 : p3.toInt + p4.toInt ≤ 100) :
    ∀ (n : Nat) (a : Int32) (m : Mem), lc a p4 n → (a.toInt ≤ p4.toInt ∧ CQ mg m (100 * ix p0 + ix p1) (100 * ix p2 + ix p3) (if p1 ≤ p3 then ix p4 - ix a else 0) (if p1 ≤ p3 then ix p4 else ix a)) →
    (f_X6_copy_122 mg p0 p1 p2 p3 p4 n a m).1 = p4 ∧ CQ mg (f_X6_copy_122 mg p0 p1 p2 p3 p4 n a m).2 (100 * ix p0 + ix p1) (100 * ix p2 + ix p3) 0 (ix p4) := by
  have d0 := vp_in_iff.mp h0
  have d2 := vp_in_iff.mp h2
  have xi := ix_toInt i0
  have xj := ix_toInt j0
  have xn := ix_toInt n0
  have x0 := ix_toInt d0.1
  have x2 := ix_toInt d2.1
  have e100 : (100 : Int32).toInt = 100 := rfl
  have e1 : (1 : Int32).toInt = 1 := rfl
  have m0 : (100 * p0 : Int32).toInt = 100 * p0.toInt := by rw [mulS (by rw [e100]; omega) (by rw [e100]; omega), e100]
  have m2 : (100 * p2 : Int32).toInt = 100 * p2.toInt := by rw [mulS (by rw [e100]; omega) (by rw [e100]; omega), e100]
  have s0 : (100 * p0 + p1 : Int32).toInt = 100 * p0.toInt + p1.toInt := by rw [addS (by omega) (by omega), m0]
  have s2 : (100 * p2 + p3 : Int32).toInt = 100 * p2.toInt + p3.toInt := by rw [addS (by omega) (by omega), m2]
  intro n
  induction n with
  | zero => intro a m h1; exact absurd h1.2 (Nat.not_lt_zero _)
  | succ n ih =>
    intro a m h1 hI
    obtain ⟨ha, hq⟩ := hI
    have xa := ix_toInt h1.1
    rw [f_X6_copy_122]
    by_cases c : p4 ≤ a
    · have c2 := i_le.mp c
      simp only [if_pos c]
      refine ⟨trivial, ?_⟩
      have : ix a = ix p4 := by omega
      rw [this, Nat.sub_self, ite_self, ite_self] at hq
      exact hq
    · have c2 := lt_of_nle c
      simp only [if_neg c]
      have h10 := h1.1
      have n1 := lc_stepN h1 c
      have ea : (a + 1).toInt = a.toInt + 1 := inc_toInt h1.1 c2
      have xa1 := ix_toInt (x := a + 1) (by omega)
      by_cases u : p1 ≤ p3
      · have u2 := i_le.mp u
        simp only [if_pos u]
        rw [if_pos u, if_pos u] at hq
        have t1 : (p4 - 1 : Int32).toInt = p4.toInt - 1 := by rw [subS (by omega) (by omega), e1]
        have t2 : (p4 - 1 - a : Int32).toInt = p4.toInt - 1 - a.toInt := by rw [subS (by omega) (by omega), t1]
        have q0 : (100 * p0 + p1 + (p4 - 1 - a) : Int32).toInt = 100 * p0.toInt + p1.toInt + (p4.toInt - 1 - a.toInt) := by rw [addS (by omega) (by omega), s0, t2]
        have q2 : (100 * p2 + p3 + (p4 - 1 - a) : Int32).toInt = 100 * p2.toInt + p3.toInt + (p4.toInt - 1 - a.toInt) := by rw [addS (by omega) (by omega), s2, t2]
        have y0 := ix_toInt (x := 100 * p0 + p1 + (p4 - 1 - a)) (by omega)
        have y2 := ix_toInt (x := 100 * p2 + p3 + (p4 - 1 - a)) (by omega)
        have z0 : ix (100 * p0 + p1 + (p4 - 1 - a)) = 100 * ix p0 + ix p1 + (ix p4 - 1 - ix a) := by omega
        have z2 : ix (100 * p2 + p3 + (p4 - 1 - a)) = 100 * ix p2 + ix p3 + (ix p4 - 1 - ix a) := by omega
        refine ih (a + 1) _ n1 ⟨by omega, fun r hr => by rw [up_row hr]; exact hq.1 r hr, fun f => ?_⟩
        rw [if_pos u, if_pos u, z0, z2]
        by_cases v : f = 100 * ix p2 + ix p3 + (ix p4 - 1 - ix a)
        · subst v
          rw [up_eq, if_pos (by omega), hq.2, if_neg (by omega)]
          rw [show 100 * ix p0 + ix p1 + (100 * ix p2 + ix p3 + (ix p4 - 1 - ix a) - (100 * ix p2 + ix p3)) = 100 * ix p0 + ix p1 + (ix p4 - 1 - ix a) by omega]
        · rw [up_ne (Or.inr v), hq.2]
          by_cases w : 100 * ix p2 + ix p3 + (ix p4 - ix a) ≤ f ∧ f < 100 * ix p2 + ix p3 + ix p4
          · rw [if_pos w, if_pos (by omega)]
          · rw [if_neg w, if_neg (by omega)]
      · have u2 := lt_of_nle u
        simp only [if_neg u]
        rw [if_neg u, if_neg u] at hq
        have q0 : (100 * p0 + p1 + a : Int32).toInt = 100 * p0.toInt + p1.toInt + a.toInt := by rw [addS (by omega) (by omega), s0]
        have q2 : (100 * p2 + p3 + a : Int32).toInt = 100 * p2.toInt + p3.toInt + a.toInt := by rw [addS (by omega) (by omega), s2]
        have y0 := ix_toInt (x := 100 * p0 + p1 + a) (by omega)
        have y2 := ix_toInt (x := 100 * p2 + p3 + a) (by omega)
        have z0 : ix (100 * p0 + p1 + a) = 100 * ix p0 + ix p1 + ix a := by omega
        have z2 : ix (100 * p2 + p3 + a) = 100 * ix p2 + ix p3 + ix a := by omega
        refine ih (a + 1) _ n1 ⟨by omega, fun r hr => by rw [up_row hr]; exact hq.1 r hr, fun f => ?_⟩
        rw [if_neg u, if_neg u, z0, z2]
        by_cases v : f = 100 * ix p2 + ix p3 + ix a
        · subst v
          rw [up_eq, if_pos (by omega), hq.2, if_neg (by omega)]
          rw [show 100 * ix p0 + ix p1 + (100 * ix p2 + ix p3 + ix a - (100 * ix p2 + ix p3)) = 100 * ix p0 + ix p1 + ix a by omega]
        · rw [up_ne (Or.inr v), hq.2]
          by_cases w : 100 * ix p2 + ix p3 + 0 ≤ f ∧ f < 100 * ix p2 + ix p3 + ix a
          · rw [if_pos w, if_pos (by omega)]
          · rw [if_neg w, if_neg (by omega)]
theorem upR_row {g : Mem} {k q : Nat} {r : Nat → Int32} (h : q ≠ k) : upR g k r q = g q := if_neg h
theorem upR_eq {g : Mem} {k : Nat} {r : Nat → Int32} : upR g k r k = r := if_pos rfl
theorem hasPlaces_eq {d : Nat} {i n : Int32} (hl : 0 ≤ (cg (24 + d) 5).toInt ∧ (cg (24 + d) 5).toInt ≤ 100) : (f_X4_hasPlaces cg d i n = 0 ∧ ¬ (0 ≤ i.toInt ∧ 0 ≤ n.toInt ∧ i.toInt + n.toInt ≤ (cg (24 + d) 5).toInt)) ∨ (f_X4_hasPlaces cg d i n = 1 ∧ 0 ≤ i.toInt ∧ 0 ≤ n.toInt ∧ i.toInt + n.toInt ≤ (cg (24 + d) 5).toInt) := by
  have e0 : (0 : Int32).toInt = 0 := rfl
  unfold f_X4_hasPlaces
  by_cases a : i < 0
  · have := i_lt.mp a
    rw [if_pos a]; exact Or.inl ⟨rfl, by omega⟩
  · have a2 : ¬ i.toInt < (0 : Int32).toInt := fun q => a (i_lt.mpr q)
    rw [if_neg a]
    by_cases b : n < 0
    · have := i_lt.mp b
      rw [if_pos b]; exact Or.inl ⟨rfl, by omega⟩
    · have b2 : ¬ n.toInt < (0 : Int32).toInt := fun q => b (i_lt.mpr q)
      rw [if_neg b]
      by_cases c : cg (24 + d) 5 < i
      · have := i_lt.mp c
        rw [if_pos c]; exact Or.inl ⟨rfl, by omega⟩
      · have c2 : ¬ (cg (24 + d) 5).toInt < i.toInt := fun q => c (i_lt.mpr q)
        have s : (cg (24 + d) 5 - i).toInt = (cg (24 + d) 5).toInt - i.toInt := subS (by omega) (by omega)
        rw [if_neg c]
        by_cases f : cg (24 + d) 5 - i < n
        · have := i_lt.mp f
          rw [if_pos f]; exact Or.inl ⟨rfl, by omega⟩
        · have f2 : ¬ (cg (24 + d) 5 - i).toInt < n.toInt := fun q => f (i_lt.mpr q)
          rw [if_neg f]; exact Or.inr ⟨rfl, by omega, by omega, by omega⟩
theorem eq_copy (h : RLt cg mg) (d i e j n : Int32) : (f_X5_copy cg d i e j n).1 = (f_X6_copy mg d i e j n).1 ∧ RLt (f_X5_copy cg d i e j n).2 (f_X6_copy mg d i e j n).2 := by
  have e0 : (0 : Int32).toInt = 0 := rfl
  unfold f_X5_copy f_X6_copy
  rw [isShelf_eq, isShelf_eq]
  by_cases a : f_X6_isShelf d = 0
  · simp only [if_pos a]; exact ⟨trivial, h⟩
  · simp only [if_neg a]
    by_cases b : f_X6_isShelf e = 0
    · simp only [if_pos b]; exact ⟨trivial, h⟩
    · simp only [if_neg b]
      have hd := vin_lt (shelf_in a)
      have he := vin_lt (shelf_in b)
      have sd := h.2.1 (ix d) hd
      have se := h.2.1 (ix e) he
      rw [sd.1, se.1]
      by_cases k1 : mg 8 (ix d) = 0
      · simp only [if_pos k1]; exact ⟨trivial, h⟩
      · simp only [if_neg k1]
        by_cases k2 : mg 8 (ix e) = 0
        · simp only [if_pos k2]; exact ⟨trivial, h⟩
        · simp only [if_neg k2]
          by_cases k3 : mg 8 (ix d) = 2
          · simp only [if_pos k3]
            by_cases k4 : mg 8 (ix e) = 2
            · simp only [if_pos k4]
              obtain ⟨d1, d2, d3, d4, d5⟩ := sd.2.2.2 k3
              obtain ⟨g1, g2, g3, g4, g5⟩ := se.2.2.2 k4
              rw [d1, g1]
              by_cases k5 : mg 11 (ix d) = mg 11 (ix e)
              · simp only [if_pos k5]
                by_cases k6 : n < 0
                · simp only [if_pos k6]; exact ⟨trivial, h⟩
                · have k6b : ¬ n.toInt < (0 : Int32).toInt := fun q => k6 (i_lt.mpr q)
                  simp only [if_neg k6]
                  have hpd := hasPlaces_eq (cg := cg) (d := ix d) (i := i) (n := n) (by rw [d2]; exact d4)
                  have hpe := hasPlaces_eq (cg := cg) (d := ix e) (i := j) (n := n) (by rw [g2]; exact g4)
                  rw [d2] at hpd
                  rw [g2] at hpe
                  have bad : ¬ (0 ≤ i.toInt ∧ 0 ≤ j.toInt ∧ i.toInt + n.toInt ≤ (mg 12 (ix d)).toInt ∧ j.toInt + n.toInt ≤ (mg 12 (ix e)).toInt) → (if i < 0 then (((-13 : Int32), mg)) else (if j < 0 then (((-13 : Int32), mg)) else (if ((mg 12 (ix d)) - i) < n then (((-13 : Int32), mg)) else (if n ≤ ((mg 12 (ix e)) - j) then (f_X6_copy_122 mg d i e j n 101 (0 : Int32) mg) else (((-13 : Int32), mg)))))) = ((-13 : Int32), mg) := fun q => by
                    by_cases u1 : i < 0
                    · rw [if_pos u1]
                    · have u1b : ¬ i.toInt < (0 : Int32).toInt := fun z => u1 (i_lt.mpr z)
                      rw [if_neg u1]
                      by_cases u2 : j < 0
                      · rw [if_pos u2]
                      · have u2b : ¬ j.toInt < (0 : Int32).toInt := fun z => u2 (i_lt.mpr z)
                        rw [if_neg u2]
                        by_cases u3 : mg 12 (ix d) - i < n
                        · rw [if_pos u3]
                        · have u3b : ¬ (mg 12 (ix d) - i).toInt < n.toInt := fun z => u3 (i_lt.mpr z)
                          rw [if_neg u3, if_neg]
                          intro u4
                          have u4b := i_le.mp u4
                          have hi := Int32.toInt_lt i
                          have hj := Int32.toInt_lt j
                          rw [Int32.toInt_sub, Int.bmod_eq_of_le (by omega) (by omega)] at u3b u4b
                          exact q ⟨by omega, by omega, by omega, by omega⟩
                  rcases hpd with ⟨v1, v2⟩ | ⟨v1, v2, v3, v4⟩
                  · simp only [v1, if_true]
                    rw [bad (fun q => v2 ⟨q.1, by omega, q.2.2.1⟩)]
                    exact ⟨rfl, h⟩
                  · have n1 : ¬ (1 : Int32) = 0 := by decide
                    simp only [v1, if_neg n1]
                    rcases hpe with ⟨w1, w2⟩ | ⟨w1, w2, w3, w4⟩
                    · simp only [w1, if_true]
                      rw [bad (fun q => w2 ⟨q.2.1, by omega, q.2.2.2⟩)]
                      exact ⟨rfl, h⟩
                    · simp only [w1, if_neg n1]
                      have s1 : (mg 12 (ix d) - i).toInt = (mg 12 (ix d)).toInt - i.toInt := subS (by omega) (by omega)
                      have s2 : (mg 12 (ix e) - j).toInt = (mg 12 (ix e)).toInt - j.toInt := subS (by omega) (by omega)
                      have u1 : ¬ i < 0 := fun z => by have := i_lt.mp z; omega
                      have u2 : ¬ j < 0 := fun z => by have := i_lt.mp z; omega
                      have u3 : ¬ mg 12 (ix d) - i < n := fun z => by have := i_lt.mp z; omega
                      have u4 : n ≤ mg 12 (ix e) - j := i_le.mpr (by omega)
                      simp only [if_neg u1, if_neg u2, if_neg u3, if_pos u4]
                      have xi := ix_toInt v2
                      have xj := ix_toInt w2
                      have xn := ix_toInt v3
                      have i0 : ix (0 : Int32) = 0 := by decide
                      have l : lc 0 n 101 := lc_0 (by omega) (by decide)
                      have st : CQ mg mg (100 * ix d + ix i) (100 * ix e + ix j) (if i ≤ j then ix n - ix (0 : Int32) else 0) (if i ≤ j then ix n else ix (0 : Int32)) := by
                        rw [i0]
                        refine ⟨fun _ _ => rfl, fun f => ?_⟩
                        split <;> rw [if_neg (by omega)]
                      obtain ⟨r1, r2, r3⟩ := cp_L (shelf_in a) (shelf_in b) v2 w2 v3 (by omega) (by omega) 101 0 mg l ⟨by omega, st⟩
                      refine ⟨r1.symm, RL_shelf (fun q hq => upR_row (by omega)) (fun r hr => r2 r (by omega)) h (fun x hx => ?_)⟩
                      have sx := h.2.1 x hx
                      unfold SR
                      rw [upR_row (by omega : 24 + x ≠ 32 + ix e), r2 8 (by decide), r2 9 (by decide), r2 10 (by decide), r2 11 (by decide), r2 12 (by decide)]
                      refine ⟨sx.1, sx.2.1, sx.2.2.1, fun q => ?_⟩
                      obtain ⟨y1, y2, y3, y4, y5⟩ := sx.2.2.2 q
                      refine ⟨y1, y2, y3, y4, fun f hf => ?_⟩
                      rw [r3]
                      by_cases xe : x = ix e
                      · subst xe
                        rw [upR_eq]
                        unfold va_cpy
                        by_cases z : ix j ≤ f ∧ f < ix j + ix n
                        · rw [if_pos z, if_pos (by omega), d5 _ (by omega)]
                          rw [show 100 * ix d + (ix i + (f - ix j)) = 100 * ix d + ix i + (100 * ix e + f - (100 * ix e + ix j)) by omega]
                        · rw [if_neg z, if_neg (by omega)]
                          exact y5 f hf
                      · rw [upR_row (by omega), if_neg (by omega)]
                        exact y5 f hf
              · simp only [if_neg k5]; exact ⟨trivial, h⟩
            · simp only [if_neg k4]; exact ⟨trivial, h⟩
          · simp only [if_neg k3]; exact ⟨trivial, h⟩
end FRJ
