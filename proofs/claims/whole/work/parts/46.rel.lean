section FRT
variable {cg mg : Mem} {t k : Nat}
/-- b1 is the best of the turns in D (b2 its joys), or there is none -/
def BSt (mg : Mem) (k : Nat) (b1 b2 : Int32) (D : Int → Int → Prop) : Prop :=
  (b1 = -4 ∧ b2 = -1 ∧ ∀ p q : Int32, 0 ≤ p.toInt → p.toInt < (mg k 0).toInt → 0 ≤ q.toInt → q.toInt < (mg k 0).toInt → D p.toInt q.toInt → f_X6_canEat mg k p q = 0) ∨
  (∃ p q : Int32, (0 ≤ p.toInt ∧ p.toInt < (mg k 0).toInt) ∧ (0 ≤ q.toInt ∧ q.toInt < (mg k 0).toInt) ∧ b1 = 10 * p + q ∧ ¬ f_X6_canEat mg k p q = 0 ∧ b2 = f_X6_joysOf mg k p q ∧
    ∀ p2 q2 : Int32, 0 ≤ p2.toInt → p2.toInt < (mg k 0).toInt → 0 ≤ q2.toInt → q2.toInt < (mg k 0).toInt → D p2.toInt q2.toInt → ¬ f_X6_canEat mg k p2 q2 = 0 → (f_X6_joysOf mg k p2 q2).toInt ≤ b2.toInt)
theorem BSt.mono {b1 b2 : Int32} {D E : Int → Int → Prop} (hE : ∀ p q : Int, 0 ≤ p → p < (mg k 0).toInt → 0 ≤ q → q < (mg k 0).toInt → E p q → D p q) (h : BSt mg k b1 b2 D) : BSt mg k b1 b2 E := by
  rcases h with ⟨a, b, c⟩ | ⟨p, q, hp, hq, e, f, g, c⟩
  · exact Or.inl ⟨a, b, fun p q a1 a2 a3 a4 d => c p q a1 a2 a3 a4 (hE _ _ a1 a2 a3 a4 d)⟩
  · exact Or.inr ⟨p, q, hp, hq, e, f, g, fun p q a1 a2 a3 a4 d => c p q a1 a2 a3 a4 (hE _ _ a1 a2 a3 a4 d)⟩
theorem BSt_I {K : Int32 → Int32 → Int32 → Int32} {a1 a2 a3 : Int32} (r : RB mg k) (p0 : 0 ≤ a3.toInt) (p1 : a3.toInt < (mg k 0).toInt) (hK : ∀ x y : Int32, BSt mg k x y (fun p _ => p < a3.toInt + 1) → ∃ b, BSt mg k (K x y (a3 + 1)) b (fun _ _ => True)) : ∀ (n : Nat) (b1 b2 b4 : Int32), lc b4 (mg k 0) n → BSt mg k b1 b2 (fun p q => p < a3.toInt ∨ (p = a3.toInt ∧ q < b4.toInt)) → ∃ b, BSt mg k (f_X6_bestIn_17 mg k K a1 a2 a3 n b1 b2 b4) b (fun _ _ => True) := by
  intro n
  induction n with
  | zero => intro b1 b2 b4 h1; exact absurd h1.2 (Nat.not_lt_zero _)
  | succ n ih =>
    intro b1 b2 b4 h1 hb
    rw [f_X6_bestIn_17]
    by_cases c : mg k 0 ≤ b4
    · have c2 := i_le.mp c
      simp only [if_pos c]
      exact hK _ _ (hb.mono (fun p q hp0 hp hq0 hq e => by omega))
    · simp only [if_neg c]
      have c2 := lt_of_nle c
      have n1 := lc_stepN h1 c
      have e1 : (b4 + 1).toInt = b4.toInt + 1 := inc_toInt h1.1 c2
      have jj := (r.joys p0 p1 h1.1 c2).2.2.2
      have em : (-1 : Int32).toInt = -1 := rfl
      have new : ∀ p q : Int32, (p.toInt < a3.toInt ∨ (p.toInt = a3.toInt ∧ q.toInt < (b4 + 1).toInt)) → (p.toInt < a3.toInt ∨ (p.toInt = a3.toInt ∧ q.toInt < b4.toInt)) ∨ (p = a3 ∧ q = b4) := fun p q e => by
        by_cases x : p.toInt < a3.toInt ∨ (p.toInt = a3.toInt ∧ q.toInt < b4.toInt)
        · exact Or.inl x
        · exact Or.inr ⟨Int32.toInt_inj.mp (by omega), Int32.toInt_inj.mp (by omega)⟩
      by_cases e : f_X6_canEat mg k a3 b4 = 0
      · simp only [if_pos e]
        refine ih _ _ _ n1 ?_
        rcases hb with ⟨a, b, c3⟩ | ⟨p, q, hp, hq, e2, f, g, c3⟩
        · refine Or.inl ⟨a, b, fun p q x1 x2 x3 x4 d => ?_⟩
          rcases new p q d with d | ⟨rfl, rfl⟩
          · exact c3 p q x1 x2 x3 x4 d
          · exact e
        · refine Or.inr ⟨p, q, hp, hq, e2, f, g, fun p q x1 x2 x3 x4 d ce => ?_⟩
          rcases new p q d with d | ⟨rfl, rfl⟩
          · exact c3 p q x1 x2 x3 x4 d ce
          · exact absurd e ce
      · simp only [if_neg e]
        by_cases u : b2 < f_X6_joysOf mg k a3 b4
        · have u2 := i_lt.mp u
          simp only [if_pos u]
          refine ih _ _ _ n1 (Or.inr ⟨a3, b4, ⟨p0, p1⟩, ⟨h1.1, c2⟩, rfl, e, rfl, fun p q x1 x2 x3 x4 d ce => ?_⟩)
          rcases new p q d with d | ⟨rfl, rfl⟩
          · rcases hb with ⟨a, b, c3⟩ | ⟨p3, q3, hp, hq, e2, f, g, c3⟩
            · exact absurd (c3 p q x1 x2 x3 x4 d) ce
            · have := c3 p q x1 x2 x3 x4 d ce
              omega
          · omega
        · have u2 : ¬ b2.toInt < (f_X6_joysOf mg k a3 b4).toInt := fun q => u (i_lt.mpr q)
          simp only [if_neg u]
          refine ih _ _ _ n1 ?_
          rcases hb with ⟨a, b, c3⟩ | ⟨p, q, hp, hq, e2, f, g, c3⟩
          · rw [b] at u2; omega
          · refine Or.inr ⟨p, q, hp, hq, e2, f, g, fun p q x1 x2 x3 x4 d ce => ?_⟩
            rcases new p q d with d | ⟨rfl, rfl⟩
            · exact c3 p q x1 x2 x3 x4 d ce
            · omega
theorem BSt_O (r : RB mg k) : ∀ (n : Nat) (a1 a2 a3 : Int32), lc a3 (mg k 0) n → BSt mg k a1 a2 (fun p _ => p < a3.toInt) → ∃ b, BSt mg k (f_X6_bestIn_7 mg k n a1 a2 a3) b (fun _ _ => True) := by
  intro n
  induction n with
  | zero => intro a1 a2 a3 h1; exact absurd h1.2 (Nat.not_lt_zero _)
  | succ n ih =>
    intro a1 a2 a3 h1 hb
    rw [f_X6_bestIn_7]
    by_cases c : mg k 0 ≤ a3
    · have c2 := i_le.mp c
      simp only [if_pos c]
      exact ⟨a2, hb.mono (fun p q hp0 hp hq0 hq e => by omega)⟩
    · simp only [if_neg c]
      have c2 := lt_of_nle c
      have e1 : (a3 + 1).toInt = a3.toInt + 1 := inc_toInt h1.1 c2
      refine BSt_I r h1.1 c2 (fun x y hx => ih x y (a3 + 1) (lc_stepN h1 c) (by rw [e1]; exact hx)) 10 a1 a2 0 (lc_0 (by have := r.1; omega) (by decide)) (hb.mono (fun p q hp0 hp hq0 hq e => ?_))
      have e0 : (0 : Int32).toInt = 0 := rfl
      rcases e with e | ⟨_, e⟩
      · exact e
      · rw [e0] at e
        exact absurd e (by omega)
theorem best_spec (r : RB mg k) : ∃ b, BSt mg k (f_X6_bestIn mg k) b (fun _ _ => True) := BSt_O r 10 (-4) (-1) 0 (lc_0 (by have := r.1; omega) (by decide)) (Or.inl ⟨rfl, rfl, fun p q x1 _ _ _ d => by
    have e0 : (0 : Int32).toInt = 0 := rfl
    have d2 : p.toInt < (0 : Int32).toInt := d
    omega⟩)
theorem ten_1 {p q : Int32} (p0 : 0 ≤ p.toInt) (p1 : p.toInt ≤ 8) (q0 : 0 ≤ q.toInt) (q1 : q.toInt ≤ 8) : (10 * p + q) / 10 = p ∧ (10 * p + q) - (10 * p + q) / 10 * 10 = q ∧ (10 * p + q).toInt = 10 * p.toInt + q.toInt := by
  have t10 : (10 : Int32).toInt = 10 := rfl
  have m1 : (10 * p).toInt = 10 * p.toInt := by rw [mul_toInt (by omega) (by omega) (by omega) (by omega), t10]
  have m2 : (10 * p + q).toInt = 10 * p.toInt + q.toInt := by rw [add_toInt (by omega) (by omega) (by omega) (by omega), m1]
  have d1 : ((10 * p + q) / 10).toInt = p.toInt := by
    rw [div_toInt (by omega) (by omega), m2, t10]
    omega
  have m3 : ((10 * p + q) - (10 * p + q) / 10 * 10).toInt = q.toInt := by
    rw [mod_toInt (by omega) (by omega), m2, t10]
    omega
  exact ⟨Int32.toInt_inj.mp d1, Int32.toInt_inj.mp m3, m2⟩
/-- there is no turn, or the best one is (bestIn / 10, bestIn % 10) -/
theorem best_cases (r : RB mg k) : (f_X6_bestIn mg k < 0 ∧ f_X6_bestIn mg k = -4 ∧ ∀ p q : Int32, 0 ≤ p.toInt → p.toInt < (mg k 0).toInt → 0 ≤ q.toInt → q.toInt < (mg k 0).toInt → f_X6_canEat mg k p q = 0) ∨
    (¬ f_X6_bestIn mg k < 0 ∧ ∃ p q : Int32, f_X6_bestIn mg k / 10 = p ∧ f_X6_bestIn mg k - f_X6_bestIn mg k / 10 * 10 = q ∧ (0 ≤ p.toInt ∧ p.toInt < (mg k 0).toInt) ∧ (0 ≤ q.toInt ∧ q.toInt < (mg k 0).toInt) ∧ ¬ f_X6_canEat mg k p q = 0 ∧
      ∀ p2 q2 : Int32, 0 ≤ p2.toInt → p2.toInt < (mg k 0).toInt → 0 ≤ q2.toInt → q2.toInt < (mg k 0).toInt → ¬ f_X6_canEat mg k p2 q2 = 0 → (f_X6_joysOf mg k p2 q2).toInt ≤ (f_X6_joysOf mg k p q).toInt) := by
  obtain ⟨b, h⟩ := best_spec r
  have e0 : (0 : Int32).toInt = 0 := rfl
  have r1 := r.1
  rcases h with ⟨a, _, c⟩ | ⟨p, q, hp, hq, e, f, g, c⟩
  · exact Or.inl ⟨by rw [a]; decide, a, fun p q x1 x2 x3 x4 => c p q x1 x2 x3 x4 trivial⟩
  · obtain ⟨t1, t2, t3⟩ := ten_1 (p := p) (q := q) hp.1 (by omega) hq.1 (by omega)
    refine Or.inr ⟨fun x => ?_, p, q, by rw [e]; exact t1, by rw [e]; exact t2, hp, hq, f, fun p2 q2 x1 x2 x3 x4 ce => by rw [← g]; exact c p2 q2 x1 x2 x3 x4 trivial ce⟩
    have := i_lt.mp x
    rw [e, t3] at this
    omega
/-- what a trial leaves as it was in the reference -/
def MX (mg m : Mem) : Prop := (∀ r, r ≠ 2 → r ≠ 0 → m r = mg r) ∧ m 0 4 = mg 0 4
theorem MX.rf : MX mg mg := ⟨fun _ _ _ => rfl, rfl⟩
theorem MX.tr {a b c : Mem} (h : MX a b) (h2 : MX b c) : MX a c := ⟨fun r x y => (h2.1 r x y).trans (h.1 r x y), h2.2.trans h.2⟩
theorem InM_MX {m : Mem} (h : MX mg m) (hI : InM mg) : InM m := by
  unfold InM at *
  rw [h.1 1 (by decide) (by decide), h.1 3 (by decide) (by decide), h.1 12 (by decide) (by decide)]
  exact hI
/-- rows of bytes hold bytes -/
def BY (mg : Mem) : Prop := ∀ x : Nat, x < 8 → mg 8 x = 2 → mg 11 x = 0 → ∀ j : Nat, j < 100 → -128 ≤ (mg 13 (100 * x + j)).toInt ∧ (mg 13 (100 * x + j)).toInt ≤ 127
theorem BY_rows {m : Mem} (e8 : m 8 = mg 8) (e11 : m 11 = mg 11) (e13 : m 13 = mg 13) (h : BY mg) : BY m := fun x hx h8 h11 j hj => by
  rw [e8] at h8
  rw [e11] at h11
  rw [e13]
  exact h x hx h8 h11 j hj
/-- all that holds between calls -/
def RI (cg mg : Mem) : Prop := RLt cg mg ∧ In cg ∧ InM mg ∧ BY mg
theorem RI_try {c m : Mem} (h : RI cg mg) (hc : NX cg c) (hi : In c) (hm : MX mg m) : RI c m :=
  ⟨RL_ext hc (fun r q => hm.1 r (by rcases q with q | q | q <;> omega) (by rcases q with q | q | q <;> omega)) hm.2 h.1, hi, InM_MX hm h.2.2.1, BY_rows (hm.1 8 (by decide) (by decide)) (hm.1 11 (by decide) (by decide)) (hm.1 13 (by decide) (by decide)) h.2.2.2⟩
/-- the trial as class and reference have it -/
def TI (cg mg c m : Mem) : Prop := (FR c 2 m 2 ∧ RB m 2 ∧ m 2 0 = mg 1 0) ∧ NX cg c ∧ In c ∧ MX mg m
theorem TI_0 {c m : Mem} (h : RI cg mg) (hc : NX cg c) (hi : In c) (hm : MX mg m) : TI cg mg (f_X0_becomes c 2 0) (f_X6_copies m 1 2) := by
  have h2 := RI_try h hc hi hm
  refine ⟨⟨FR_becomes (by decide) (by decide) (by decide) (by decide) h2.1.1.1, RB_copies (by decide) h2.1.1.2.1, ?_⟩, hc.tr (NX_becomes hi), In_becomesF hi (by decide) (by decide), hm.tr ⟨fun r a b => copies_row (by decide) a, by rw [copies_o (by decide) (by decide)]⟩⟩
  rw [copies_i (by decide) (by decide), hm.1 1 (by decide) (by decide)]
theorem MX_turn {p q : Int32} : MX mg (m_X6_turn mg 2 p q) := ⟨fun r a _ => turn_row a, congrFun (turn_row (mg := mg) (k := 2) (p := p) (q := q) (r := 0) (by decide)) 4⟩
theorem TI_turn {c m : Mem} (h : TI cg mg c m) {p q : Int32} (p0 : 0 ≤ p.toInt) (p1 : p.toInt < (m 2 0).toInt) (q0 : 0 ≤ q.toInt) (q1 : q.toInt < (m 2 0).toInt) (ce : ¬ f_X6_canEat m 2 p q = 0) : r_X0_turn c 2 p q = r_X6_turn m 2 p q ∧ TI cg mg (m_X0_turn c 2 p q) (m_X6_turn m 2 p q) := by
  obtain ⟨⟨a, b, z⟩, e, f, g⟩ := h
  have b1 := a.2.2.2.1
  have hp : vp_in p 8 := vin_of p0 (by omega)
  have hq : vp_in q 8 := vin_of q0 (by omega)
  refine ⟨joysOf_eq a p0 p1 q0 q1, ⟨FR_turn (by decide) a p0 p1 q0 q1, RB_turn b p0 p1 q0 q1 ce, ?_⟩, e.tr (NX_turn hp hq), In_turn f (by decide) hp hq, g.tr MX_turn⟩
  show f_X6_turn_m6 m 2 p q 2 0 = _
  rw [turn_z b p0 p1 q0 q1]
  exact z
/-- the best turn is made in the trial -/
theorem TI_best {c m : Mem} (h : TI cg mg c m) : f_X0_bestTurn c 2 = f_X6_bestIn m 2 ∧ (¬ f_X6_bestIn m 2 < 0 → r_X0_turn c 2 (f_X6_bestIn m 2 / 10) (f_X6_bestIn m 2 - f_X6_bestIn m 2 / 10 * 10) = r_X6_turn m 2 (f_X6_bestIn m 2 / 10) (f_X6_bestIn m 2 - f_X6_bestIn m 2 / 10 * 10) ∧
    TI cg mg (m_X0_turn c 2 (f_X6_bestIn m 2 / 10) (f_X6_bestIn m 2 - f_X6_bestIn m 2 / 10 * 10)) (m_X6_turn m 2 (f_X6_bestIn m 2 / 10) (f_X6_bestIn m 2 - f_X6_bestIn m 2 / 10 * 10))) := by
  refine ⟨best_eq h.1.1, fun nb => ?_⟩
  rcases best_cases h.1.2.1 with ⟨x, _⟩ | ⟨_, p, q, e1, e2, hp, hq, ce, _⟩
  · exact absurd x nb
  · rw [e2, e1]
    exact TI_turn h hp.1 hp.2 hq.1 hq.2 ce
theorem TI_done {c m : Mem} (h : RI cg mg) (ti : TI cg mg c m) : RI c m := RI_try h ti.2.1 ti.2.2.1 ti.2.2.2
end FRT
