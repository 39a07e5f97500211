section FRB
variable {cg mg : Mem} {t k : Nat}
theorem i_lt {a b : Int32} : a < b ↔ a.toInt < b.toInt := Int32.lt_iff_toInt_lt
theorem i_le {a b : Int32} : a ≤ b ↔ a.toInt ≤ b.toInt := Int32.le_iff_toInt_le
/-- the class' best looker so far (l, with joys j) and the reference's best turn so far (b1, b2), out of one before (a1, a2) -/
def BI (cg : Mem) (t : Nat) (sz a1 a2 a3 l j b1 b2 : Int32) : Prop :=
  (a2 < j → b1 = 10 * a3 + l ∧ b2 = j ∧ ¬ l < 0) ∧ (¬ a2 < j → b1 = a1 ∧ b2 = a2) ∧ (¬ l < 0 → j = f_X0_joysOf cg t a3 l ∧ l.toInt < sz.toInt)
theorem bestPair_in (h : FR cg t mg k) {a1 a2 a3 : Int32} (p0 : 0 ≤ a3.toInt) (p1 : a3.toInt < (mg k 0).toInt) (K : Int32 → Int32 → Int32 → Int32) : ∀ (n m : Nat) (l j b1 b2 a4 : Int32), lc a4 (mg k 0) n → lc a4 (mg k 0) m → BI cg t (mg k 0) a1 a2 a3 l j b1 b2 →
    f_X6_bestIn_17 mg k K a1 a2 a3 m b1 b2 a4 = (if f_X0_bestLookerAt_8 cg t a3 n l j a4 < 0 then K a1 a2 (a3 + 1) else if f_X0_joysOf cg t a3 (f_X0_bestLookerAt_8 cg t a3 n l j a4) ≤ a2 then K a1 a2 (a3 + 1) else K (10 * a3 + f_X0_bestLookerAt_8 cg t a3 n l j a4) (f_X0_joysOf cg t a3 (f_X0_bestLookerAt_8 cg t a3 n l j a4)) (a3 + 1))
      ∧ (¬ f_X0_bestLookerAt_8 cg t a3 n l j a4 < 0 → (f_X0_bestLookerAt_8 cg t a3 n l j a4).toInt < (mg k 0).toInt) := by
  intro n
  induction n with
  | zero => intro m l j b1 b2 a4 h1; exact absurd h1.2 (Nat.not_lt_zero _)
  | succ n ih =>
    intro m l j b1 b2 a4 h1 h2 hb
    cases m with
    | zero => exact absurd h2.2 (Nat.not_lt_zero _)
    | succ m =>
      rw [f_X6_bestIn_17, f_X0_bestLookerAt_8, h.1]
      by_cases c : mg k 0 ≤ a4
      · simp only [if_pos c]
        obtain ⟨i1, i2, i3⟩ := hb
        refine ⟨?_, fun q => (i3 q).2⟩
        by_cases d : a2 < j
        · obtain ⟨rfl, rfl, q⟩ := i1 d
          rw [if_neg q, ← (i3 q).1, if_neg]
          intro q2
          have := i_lt.mp d
          have := i_le.mp q2
          omega
        · obtain ⟨rfl, rfl⟩ := i2 d
          by_cases q : l < 0
          · rw [if_pos q]
          · rw [if_neg q, ← (i3 q).1, if_pos]
            refine i_le.mpr ?_
            have : ¬ b2.toInt < j.toInt := fun q => d (i_lt.mpr q)
            omega
      · simp only [if_neg c]
        have c2 := lt_of_nle c
        have n1 := lc_stepN h1 c
        have n2 := lc_stepN h2 c
        rw [canEat_eq h p0 p1 h1.1 c2]
        by_cases ce : f_X6_canEat mg k a3 a4 = 0
        · simp only [if_pos ce]
          exact ih m l j b1 b2 _ n1 n2 hb
        · simp only [if_neg ce]
          have hj := joysOf_eq h p0 p1 h1.1 c2
          rw [hj]
          obtain ⟨i1, i2, i3⟩ := hb
          have nl : ¬ a4 < 0 := fun q => by
            have := i_lt.mp q
            have e0 : (0 : Int32).toInt = 0 := rfl
            have := h1.1
            omega
          by_cases u : f_X6_joysOf mg k a3 a4 ≤ j
          · simp only [if_pos u]
            have hn : ¬ b2 < f_X6_joysOf mg k a3 a4 := fun q => by
              have u2 := i_le.mp u
              have q2 := i_lt.mp q
              by_cases d : a2 < j
              · rw [(i1 d).2.1] at q2; omega
              · have d2 : ¬ a2.toInt < j.toInt := fun q => d (i_lt.mpr q)
                rw [(i2 d).2] at q2; omega
            simp only [if_neg hn]
            exact ih m l j b1 b2 _ n1 n2 ⟨i1, i2, i3⟩
          · simp only [if_neg u]
            have u2 : ¬ (f_X6_joysOf mg k a3 a4).toInt ≤ j.toInt := fun q => u (i_le.mpr q)
            by_cases d : a2 < f_X6_joysOf mg k a3 a4
            · have hn : b2 < f_X6_joysOf mg k a3 a4 := i_lt.mpr (by
                have d2 := i_lt.mp d
                by_cases d3 : a2 < j
                · rw [(i1 d3).2.1]; omega
                · rw [(i2 d3).2]; omega)
              simp only [if_pos hn]
              exact ih m a4 _ _ _ _ n1 n2 ⟨fun _ => ⟨rfl, rfl, nl⟩, fun q => absurd d q, fun _ => ⟨hj.symm, c2⟩⟩
            · have d2 : ¬ a2.toInt < (f_X6_joysOf mg k a3 a4).toInt := fun q => d (i_lt.mpr q)
              have d3 : ¬ a2 < j := fun q => by have := i_lt.mp q; omega
              have hn : ¬ b2 < f_X6_joysOf mg k a3 a4 := by rw [(i2 d3).2]; exact d
              simp only [if_neg hn]
              exact ih m a4 _ _ _ _ n1 n2 ⟨fun q => absurd q d, fun _ => i2 d3, fun _ => ⟨hj.symm, c2⟩⟩
theorem best_eq_L (h : FR cg t mg k) : ∀ (n m : Nat) (a1 a2 a3 : Int32), lc a3 (mg k 0) n → lc a3 (mg k 0) m → ¬ a2 < -1 → f_X0_bestTurn_7 cg t n a1 a2 a3 = f_X6_bestIn_7 mg k m a1 a2 a3 := by
  intro n
  induction n with
  | zero => intro m a1 a2 a3 h1; exact absurd h1.2 (Nat.not_lt_zero _)
  | succ n ih =>
    intro m a1 a2 a3 h1 h2 hm
    cases m with
    | zero => exact absurd h2.2 (Nat.not_lt_zero _)
    | succ m =>
      rw [f_X6_bestIn_7, f_X0_bestTurn_7, h.1]
      by_cases c : mg k 0 ≤ a3
      · rw [if_pos c, if_pos c]
      · rw [if_neg c, if_neg c]
        have c2 := lt_of_nle c
        have n1 := lc_stepN h1 c
        have n2 := lc_stepN h2 c
        have h8 := h.2.2.2.1
        have hb := (bestPair_in (a1 := a1) (a2 := a2) h h1.1 c2 (fun a1' a2' a3' => f_X6_bestIn_7 mg k m a1' a2' a3') 9 10 (-4) (-1) a1 a2 0 (lc_0 (by omega) (by decide)) (lc_0 (by omega) (by decide)) ⟨fun q => absurd q hm, fun _ => ⟨rfl, rfl⟩, fun q => absurd (by decide) q⟩).1
        rw [hb]
        show (if f_X0_bestLookerAt cg t a3 < 0 then _ else _) = _
        unfold f_X0_bestLookerAt
        split
        · exact ih m _ _ _ n1 n2 hm
        · split
          · exact ih m _ _ _ n1 n2 hm
          · refine ih m _ _ _ n1 n2 (fun q => ?_)
            have u := lt_of_nle (by assumption)
            have q2 := i_lt.mp q
            have : ¬ a2.toInt < (-1 : Int32).toInt := fun q => hm (i_lt.mpr q)
            omega
theorem best_eq (h : FR cg t mg k) : f_X0_bestTurn cg t = f_X6_bestIn mg k := best_eq_L h 9 10 _ _ _ (lc_0 (by have := h.2.2.2.1; omega) (by decide)) (lc_0 (by have := h.2.2.2.1; omega) (by decide)) (by decide)
end FRB
