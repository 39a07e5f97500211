section FRY
variable {cg mg : Mem} {t k : Nat}
/-- most, the first, the found, the best of them, so far -/
def TW (b2 b3 e2 e3 : Int32) : Prop := (b3 < 0 ∧ b2 = 0 ∧ (b3 = -4 ∧ e2 = -4) ∧ e3 = -1) ∨ (¬ b3 < 0 ∧ b3 = e2 ∧ b2 = e3 ∧ 0 ≤ e3.toInt)
theorem cp_of {k2 : Nat} (hk : k ≠ k2) {p c : Int32} (hp : vp_in p 9) (hc : vp_in c 6) : f_X6_copies mg k k2 k2 (ix (f_X6_of p c)) = mg k (ix (f_X6_of p c)) := copies_i hk (by have := vin_lt hp; have := vin_lt hc; rw [ix_of hp hc]; omega)
theorem canLook_cpk {k2 : Nat} (hk : k ≠ k2) {p : Int32} (hp : vp_in p 9) : f_X6_canLook (f_X6_copies mg k k2) k2 p = f_X6_canLook mg k p := by
  unfold f_X6_canLook
  rw [cp_of hk hp vc4, cp_of hk hp vc0]
theorem canEat_cpk {k2 : Nat} (hk : k ≠ k2) {p q : Int32} (hp : vp_in p 9) (hq : vp_in q 9) : f_X6_canEat (f_X6_copies mg k k2) k2 p q = f_X6_canEat mg k p q := by
  unfold f_X6_canEat
  rw [cp_of hk hp vc2, canLook_cpk hk hq, copies_i hk (by decide)]
theorem bites_cpk {k2 : Nat} (hk : k ≠ k2) {p : Int32} (hp : vp_in p 9) : f_X6_bites (f_X6_copies mg k k2) k2 p = f_X6_bites mg k p := by
  unfold f_X6_bites
  rw [cp_of hk hp vc0, cp_of hk hp vc1, cp_of hk hp vc2]
theorem gazes_cpk {k2 : Nat} (hk : k ≠ k2) {p : Int32} (hp : vp_in p 9) : f_X6_gazes (f_X6_copies mg k k2) k2 p = f_X6_gazes mg k p := by
  unfold f_X6_gazes
  rw [cp_of hk hp vc0, cp_of hk hp vc1, cp_of hk hp vc3]
theorem joysOf_cpk {k2 : Nat} (hk : k ≠ k2) {p q : Int32} (hp : vp_in p 9) (hq : vp_in q 9) : f_X6_joysOf (f_X6_copies mg k k2) k2 p q = f_X6_joysOf mg k p q := by
  unfold f_X6_joysOf f_X6_eaterJoy
  rw [bites_cpk hk hp, gazes_cpk hk hq, cp_of hk hp vc0, cp_of hk hq vc5]
theorem canEat_cp (h : RI cg mg) {m : Mem} {p q : Int32} (p0 : 0 ≤ p.toInt) (p1 : p.toInt < (mg 1 0).toInt) (q0 : 0 ≤ q.toInt) (q1 : q.toInt < (mg 1 0).toInt) (_ : m 1 = mg 1) : f_X6_canEat (f_X6_copies m 1 2) 2 p q = f_X6_canEat m 1 p q :=
  canEat_cpk (by decide) (h.1.1.2.1.v9 p0 p1) (h.1.1.2.1.v9 q0 q1)
/-- a fete in which nothing but the trial was written -/
def TO (cg mg c m : Mem) : Prop := NX cg c ∧ In c ∧ MX mg m
theorem TI.o {c m : Mem} (h : TI cg mg c m) : TO cg mg c m := h.2
theorem TO.z (h : RI cg mg) {c m : Mem} (o : TO cg mg c m) : c 40 1 = mg 1 0 ∧ m 1 = mg 1 := ⟨(o.1 40 1 (by unfold nx; omega)).trans h.1.1.1.z, o.2.2.1 1 (by decide) (by decide)⟩
theorem bj_in {k : Nat} (r : RB mg k) : 0 ≤ (f_X6_bestJoys mg k).toInt ∧ (f_X6_bestJoys mg k).toInt ≤ 19 := by
  unfold f_X6_bestJoys
  by_cases c : 0 ≤ f_X6_bestIn mg k
  · rw [if_pos c]
    rcases best_cases r with ⟨x, _⟩ | ⟨_, p, q, e1, e2, hp, hq, _⟩
    · have := i_lt.mp x
      have := i_le.mp c
      omega
    · rw [e2, e1]
      exact (r.joys hp.1 hp.2 hq.1 hq.2).2.2.2
  · rw [if_neg c]
    decide
/-- a turn and the best behind it, class and reference -/
theorem jws_eq (h : RI cg mg) {c m : Mem} (o : TO cg mg c m) {p q : Int32} (p0 : 0 ≤ p.toInt) (p1 : p.toInt < (mg 1 0).toInt) (q0 : 0 ≤ q.toInt) (q1 : q.toInt < (mg 1 0).toInt) (ce : ¬ f_X6_canEat m 1 p q = 0) :
    r_X5_joysWithASecond c p q = r_X6_turn (f_X6_copies m 1 2) 2 p q + f_X6_bestJoys (m_X6_turn (f_X6_copies m 1 2) 2 p q) 2 ∧ TO cg mg (m_X5_joysWithASecond c p q) (m_X6_turn (f_X6_copies m 1 2) 2 p q) ∧
    0 ≤ (r_X6_turn (f_X6_copies m 1 2) 2 p q + f_X6_bestJoys (m_X6_turn (f_X6_copies m 1 2) 2 p q) 2).toInt := by
  have ti := TI_0 h o.1 o.2.1 o.2.2
  have z := ti.1.2.2
  have hr := (o.z h).2
  have ce2 : ¬ f_X6_canEat (f_X6_copies m 1 2) 2 p q = 0 := by
    rw [canEat_cp h p0 p1 q0 q1 hr]
    exact ce
  obtain ⟨u1, u2⟩ := TI_turn ti p0 (by rw [z]; exact p1) q0 (by rw [z]; exact q1) ce2
  rw [jws_m]
  have b := bj_in u2.1.2.1
  have j := (ti.1.2.1.joys p0 (by rw [z]; exact p1) q0 (by rw [z]; exact q1)).2.2.2
  have rt : r_X6_turn (f_X6_copies m 1 2) 2 p q = f_X6_joysOf (f_X6_copies m 1 2) 2 p q := rfl
  refine ⟨?_, u2.o, ?_⟩
  · unfold r_X5_joysWithASecond f_X5_joysWithASecond f_X6_bestJoys
    rw [(TI_best u2).1, u1]
    generalize m_X6_turn (f_X6_copies m 1 2) 2 p q = mm at *
    by_cases c : 0 ≤ f_X6_bestIn mm 2
    · simp only [if_pos c]
      rcases best_cases u2.1.2.1 with ⟨x, _⟩ | ⟨_, x, y, e1, e2, hx, hy, _⟩
      · have := i_lt.mp x
        have := i_le.mp c
        omega
      · rw [e2, e1, joysOf_eq u2.1.1 hx.1 hx.2 hy.1 hy.2]
    · simp only [if_neg c, Int32.add_zero]
  · rw [rt, addS (by omega) (by omega)]
    omega


theorem two_I (h : RI cg mg) {w a2 a3 a4 d2 d3 : Int32} {cx dx : Mem} {K K2 : Int32 → Int32 → Int32 → Mem → Int32 × Mem} (p0 : 0 ≤ a4.toInt) (p1 : a4.toInt < (mg 1 0).toInt) (hK : ∀ (x1 x2 x3 x4 : Int32) (cm dm : Mem), TW x1 x2 x3 x4 → TO cg mg cm dm → (K x1 x2 (a4 + 1) cm).1 = (K2 x3 x4 (a4 + 1) dm).1 ∧ RI (K x1 x2 (a4 + 1) cm).2 (K2 x3 x4 (a4 + 1) dm).2) : ∀ (n m : Nat) (b2 : Int32) (b3 : Int32) (e2 : Int32) (e3 : Int32) (b5 : Int32) (cm : Mem) (dm : Mem), lc b5 (mg 1 0) n → lc b5 (mg 1 0) m → (TW b2 b3 e2 e3 ∧ TO cg mg cm dm) → (f_X5_twoTurns_32 cg w K a2 a3 a4 cx n b2 b3 b5 cm).1 = (f_X6_twoTurns_33 mg w K2 d2 d3 a4 dx m e2 e3 b5 dm).1 ∧ RI (f_X5_twoTurns_32 cg w K a2 a3 a4 cx n b2 b3 b5 cm).2 (f_X6_twoTurns_33 mg w K2 d2 d3 a4 dx m e2 e3 b5 dm).2 := by
  intro n
  induction n with
  | zero => intro m b2 b3 e2 e3 b5 cm dm h1; exact absurd h1.2 (Nat.not_lt_zero _)
  | succ n ih =>
    intro m b2 b3 e2 e3 b5 cm dm h1 h2 hI
    cases m with
    | zero => exact absurd h2.2 (Nat.not_lt_zero _)
    | succ m =>
      rw [f_X5_twoTurns_32, f_X6_twoTurns_33, (hI.2.z h).1, (hI.2.z h).2]
      by_cases c : mg 1 0 ≤ b5
      · simp only [if_pos c]
        exact hK _ _ _ _ _ _ hI.1 hI.2
      · simp only [if_neg c]
        have c2 := lt_of_nle c
        have n1 := lc_stepN h1 c
        have n2 := lc_stepN h2 c
        obtain ⟨tw, o⟩ := hI
        have h2 := RI_try h o.1 o.2.1 o.2.2
        have hr := (o.z h).2
        have z2 : dm 1 0 = mg 1 0 := congrFun hr 0
        rw [canEat_eq h2.1.1.1 p0 (by rw [z2]; exact p1) h1.1 (by rw [z2]; exact c2)]
        by_cases e : f_X6_canEat dm 1 a4 b5 = 0
        · simp only [if_pos e]
          exact ih _ _ _ _ _ _ _ _ n1 n2 ⟨tw, o⟩
        · simp only [if_neg e]
          obtain ⟨u1, u2, u3⟩ := jws_eq h o p0 p1 h1.1 c2 e
          rw [u1]
          generalize r_X6_turn (f_X6_copies dm 1 2) 2 a4 b5 + f_X6_bestJoys (m_X6_turn (f_X6_copies dm 1 2) 2 a4 b5) 2 = v at *
          have e0 : (0 : Int32).toInt = 0 := rfl
          have em : (-1 : Int32).toInt = -1 := rfl
          have sz8 := h.2.2.1.1
          have t10 := ten_1 (p := a4) (q := b5) p0 (by omega) h1.1 (by omega)
          have nn : ¬ (10 * a4 + b5 : Int32) < 0 := fun q => by
            have := i_lt.mp q
            have := h1.1
            omega
          have new : TW v (10 * a4 + b5) (10 * a4 + b5) v := Or.inr ⟨nn, rfl, rfl, u3⟩
          rcases tw with ⟨s1, s2, s3, s4⟩ | ⟨s1, s2, s3, s4⟩
          · have g : e3 < v := i_lt.mpr (by rw [s4]; omega)
            simp only [if_pos s1, if_pos g]
            exact ih _ _ _ _ _ _ _ _ n1 n2 ⟨new, u2⟩
          · simp only [if_neg s1]
            by_cases g : v ≤ b2
            · have g2 : ¬ e3 < v := fun q => by
                have := i_lt.mp q
                have := i_le.mp g
                rw [s3] at this
                omega
              simp only [if_pos g, if_neg g2]
              exact ih _ _ _ _ _ _ _ _ n1 n2 ⟨Or.inr ⟨s1, s2, s3, s4⟩, u2⟩
            · have g2 : e3 < v := i_lt.mpr (by have := lt_of_nle g; rw [s3] at this; exact this)
              simp only [if_neg g, if_pos g2]
              exact ih _ _ _ _ _ _ _ _ n1 n2 ⟨new, u2⟩

theorem two_O (h : RI cg mg) {w : Int32} (hw : ¬ f_X6_isIn w 0 1 = 0) : ∀ (n m : Nat) (b2 : Int32) (b3 : Int32) (e2 : Int32) (e3 : Int32) (a4 : Int32) (cm : Mem) (dm : Mem), lc a4 (mg 1 0) n → lc a4 (mg 1 0) m → (TW b2 b3 e2 e3 ∧ TO cg mg cm dm) → (f_X5_twoTurns_17 cg w n b2 b3 a4 cm).1 = (f_X6_twoTurns_19 mg w m e2 e3 a4 dm).1 ∧ RI (f_X5_twoTurns_17 cg w n b2 b3 a4 cm).2 (f_X6_twoTurns_19 mg w m e2 e3 a4 dm).2 := by
  intro n
  induction n with
  | zero => intro m b2 b3 e2 e3 a4 cm dm h1; exact absurd h1.2 (Nat.not_lt_zero _)
  | succ n ih =>
    intro m b2 b3 e2 e3 a4 cm dm h1 h2 hI
    cases m with
    | zero => exact absurd h2.2 (Nat.not_lt_zero _)
    | succ m =>
      rw [f_X5_twoTurns_17, f_X6_twoTurns_19, (hI.2.z h).1, (hI.2.z h).2]
      by_cases c : mg 1 0 ≤ a4
      · simp only [if_pos c]
        have h01 := isIn_in hw
        have e0 : (0 : Int32).toInt = 0 := rfl
        have e1 : (1 : Int32).toInt = 1 := rfl
        obtain ⟨tw, o⟩ := hI
        have ri := RI_try h o.1 o.2.1 o.2.2
        by_cases w0 : w = 0
        · have w1 : ¬ w = 1 := fun q => by rw [q] at w0; exact absurd w0 (by decide)
          simp only [if_pos w0, if_neg w1]
          refine ⟨?_, ri⟩
          rcases tw with ⟨s1, s2, s3, s4⟩ | ⟨s1, s2, s3, s4⟩
          · rw [s2, s4]; rfl
          · rw [s3]
            exact Int32.toInt_inj.mp (by rw [most_toInt]; omega)
        · have hne := ne_toInt w0
          have w1 : w = 1 := Int32.toInt_inj.mp (by omega)
          simp only [if_neg w0, if_pos w1]
          refine ⟨?_, ri⟩
          rcases tw with ⟨s1, s2, s3, s4⟩ | ⟨s1, s2, s3, s4⟩
          · rw [s3.1, s3.2]
          · exact s2
      · simp only [if_neg c]
        have c2 := lt_of_nle c
        have n1 := lc_stepN h1 c
        have n2 := lc_stepN h2 c
        have key := two_I h (w := w) (a2 := b2) (a3 := b3) (a4 := a4) (d2 := e2) (d3 := e3) (cx := cm) (dx := dm) (K := fun a2' a3' a4' g_17' => f_X5_twoTurns_17 cg w n a2' a3' a4' g_17') (K2 := fun a2' a3' a4' g_19' => f_X6_twoTurns_19 mg w m a2' a3' a4' g_19') h1.1 c2 (fun x1 x2 x3 x4 cm dm tw o => ih m x1 x2 x3 x4 (a4 + 1) cm dm n1 n2 ⟨tw, o⟩) 9 10 b2 b3 e2 e3 0 cm dm h.1.1.1.l9 h.1.1.1.l10 hI
        exact key

theorem eq_twoTurns (h : RI cg mg) (w : Int32) : (f_X5_twoTurns cg w).1 = (f_X6_twoTurns mg w).1 ∧ RI (f_X5_twoTurns cg w).2 (f_X6_twoTurns mg w).2 := by
  unfold f_X5_twoTurns f_X6_twoTurns f_X5_isOneOfTwo
  rw [isWithin_eq]
  by_cases a : f_X6_isIn w 0 1 = 0
  · simp only [if_pos a]; exact ⟨trivial, h⟩
  · simp only [if_neg a]
    exact two_O h a 9 10 0 (-4) (-4) (-1) 0 cg mg h.1.1.1.l9 h.1.1.1.l10 ⟨Or.inl ⟨by decide, rfl, ⟨rfl, rfl⟩, rfl⟩, NX.rf, h.2.1, MX.rf⟩
end FRY
