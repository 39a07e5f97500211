section FRG
variable {cg mg : Mem} {t k : Nat}

theorem gr_L {w v : Int32} : ∀ (n m : Nat) (a3 : Int32) (a4 : Int32) (a5 : Int32) (cm : Mem) (dm : Mem), lc a4 (w) n → lc a4 (w) m → (TI cg mg cm dm ∧ a5 = f_X6_bestIn dm 2) → (f_X5_greedily_44 cg w v n a3 a4 a5 cm).1 = (f_X6_greedily_37 mg w v m a3 a4 dm).1 ∧ TI cg mg (f_X5_greedily_44 cg w v n a3 a4 a5 cm).2 (f_X6_greedily_37 mg w v m a3 a4 dm).2 := by
  intro n
  induction n with
  | zero => intro m a3 a4 a5 cm dm h1; exact absurd h1.2 (Nat.not_lt_zero _)
  | succ n ih =>
    intro m a3 a4 a5 cm dm h1 h2 hI
    cases m with
    | zero => exact absurd h2.2 (Nat.not_lt_zero _)
    | succ m =>
      rw [f_X5_greedily_44, f_X6_greedily_37]
      by_cases c : w ≤ a4
      · simp only [if_pos c]
        split <;> exact ⟨rfl, hI.1⟩
      · simp only [if_neg c]
        have c2 := lt_of_nle c
        have n1 := lc_stepN h1 c
        have n2 := lc_stepN h2 c
        obtain ⟨ti, rfl⟩ := hI
        obtain ⟨b1, b2⟩ := TI_best ti
        by_cases e : f_X6_bestIn dm 2 < 0
        · simp only [if_pos e]
          split <;> exact ⟨rfl, ti⟩
        · simp only [if_neg e]
          obtain ⟨b3, b4⟩ := b2 e
          rw [b3]
          exact ih _ _ _ _ _ _ n1 n2 ⟨b4, (TI_best b4).1⟩

theorem eq_greedily (h : RI cg mg) (w v : Int32) : (f_X5_greedily cg w v).1 = (f_X6_greedily mg w v).1 ∧ RI (f_X5_greedily cg w v).2 (f_X6_greedily mg w v).2 := by
  unfold f_X5_greedily f_X6_greedily f_X5_isOneOfTwo
  rw [isWithin_eq, isWithin_eq]
  by_cases a : f_X6_isIn w 0 30 = 0
  · simp only [if_pos a]; exact ⟨trivial, h⟩
  · simp only [if_neg a]
    by_cases b : f_X6_isIn v 0 1 = 0
    · simp only [if_pos b]; exact ⟨trivial, h⟩
    · simp only [if_neg b]
      have hw := isIn_in a
      have e0 : (0 : Int32).toInt = 0 := rfl
      have e30 : (30 : Int32).toInt = 30 := rfl
      have t0 := TI_0 h NX.rf h.2.1 MX.rf
      have l : lc 0 w 31 := lc_0 (by omega) (by decide)
      obtain ⟨r1, r2⟩ := gr_L (w := w) (v := v) 31 31 0 0 _ _ _ l l ⟨t0, (TI_best t0).1⟩
      exact ⟨r1, TI_done h r2⟩
/-- who is there, in a trial -/
theorem TI_there {cm dm : Mem} (h : TI cg mg cm dm) (r : InM mg) {x : Int32} : f_X0_isThere cm 2 x = f_X6_isPerson dm x := by
  obtain ⟨⟨f, _, z⟩, _, _, g⟩ := h
  have e1 : cm (40 + 2) 1 = mg 1 0 := f.1.trans z
  have e2 : dm 1 = mg 1 := g.1 1 (by decide) (by decide)
  have e := sz_m1 r.1.1
  unfold f_X0_isThere f_X6_isPerson f_X6_isIn
  rw [e1, e2]
  by_cases c : x < 0
  · rw [if_pos c, if_pos c]
  · rw [if_neg c, if_neg c]
    by_cases d : mg 1 0 ≤ x
    · rw [if_pos d, if_pos (i_lt.mpr (by have := i_le.mp d; omega))]
    · rw [if_neg d, if_neg (fun q => by have := i_lt.mp q; have := lt_of_nle d; omega)]
theorem TI_in {cm dm : Mem} (h : TI cg mg cm dm) (r : InM mg) {x : Int32} (c : ¬ f_X6_isPerson dm x = 0) : 0 ≤ x.toInt ∧ x.toInt < (dm 2 0).toInt := FR_in h.1.1 (by rw [TI_there h r]; exact c)
theorem TI_canEat {cm dm : Mem} (h : TI cg mg cm dm) (r : InM mg) (x y : Int32) : f_X0_canEat cm 2 x y = if f_X6_isPerson dm x = 0 then 0 else if f_X6_isPerson dm y = 0 then 0 else f_X6_canEat dm 2 x y := by
  have ex := TI_there h r (x := x)
  have ey := TI_there h r (x := y)
  by_cases a : f_X6_isPerson dm x = 0
  · rw [if_pos a]
    unfold f_X0_canEat f_X0_areTwo
    rw [ex, if_pos a, if_pos rfl]
  · rw [if_neg a]
    by_cases b : f_X6_isPerson dm y = 0
    · rw [if_pos b]
      unfold f_X0_canEat f_X0_areTwo
      rw [ex, ey, if_neg a, if_pos b, if_pos rfl]
    · rw [if_neg b]
      obtain ⟨p0, p1⟩ := TI_in h r a
      obtain ⟨q0, q1⟩ := TI_in h r b
      exact canEat_eq h.1.1 p0 p1 q0 q1
/-- a row's elements, in a trial -/
theorem TI_row {cm dm : Mem} (h : RI cg mg) (ti : TI cg mg cm dm) {d : Int32} (c : f_X6_wrongRow mg d (-1) = 0) : SRs cm dm ∧ f_X6_wrongRow dm d (-1) = 0 ∧ cm (24 + ix d) 5 = mg 12 (ix d) ∧ dm 12 = mg 12 ∧ dm 13 = mg 13 ∧ dm 11 = mg 11 := by
  have h2 := TI_done h ti
  obtain ⟨_, _, _, g⟩ := ti
  have e8 := g.1 8 (by decide) (by decide)
  have e11 := g.1 11 (by decide) (by decide)
  have e12 := g.1 12 (by decide) (by decide)
  have e13 := g.1 13 (by decide) (by decide)
  have c2 : f_X6_wrongRow dm d (-1) = 0 := by
    unfold f_X6_wrongRow at *
    rw [e8, e11]
    exact c
  refine ⟨h2.1.2.1, c2, ?_, e12, e13, e11⟩
  rw [(row_2 h2.1.2.1 c2).2.2.1, e12]
theorem TI_at {cm dm : Mem} (h : RI cg mg) (ti : TI cg mg cm dm) {d i : Int32} (c : f_X6_wrongRow mg d (-1) = 0) (i0 : 0 ≤ i.toInt) (i1 : i.toInt < (mg 12 (ix d)).toInt) : f_X4_at cm (ix d) i = mg 13 (ix (100 * d + i)) := by
  obtain ⟨s, c2, _, e12, e13, _⟩ := TI_row h ti c
  obtain ⟨_, _, _, _, hl, _⟩ := row_2 s c2
  rw [at_eq s c2, e13]
  rw [e12] at hl ⊢
  unfold f_X6_isIn
  have e := sz_m1 hl.1
  rw [if_neg (fun q => by have := lt0_iff.mp q; omega), if_neg (fun q => by have := i_lt.mp q; omega)]
  decide
theorem fo_L (h : RI cg mg) {d : Int32} (c0 : f_X6_wrongRow mg d (-1) = 0) (ev : (mg 12 (ix d)).toInt % 2 = 0) : ∀ (n m : Nat) (a3 a4 : Int32) (cm dm : Mem), lc a4 (mg 12 (ix d) / 2) n → (0 ≤ a3.toInt ∧ a3.toInt ≤ 102 ∧ ((mg 12 (ix d)).toInt - a3.toInt).toNat < m) → (TI cg mg cm dm ∧ a3.toInt = 2 * a4.toInt) →
    (f_X5_forged_45 cg d n a4 cm).1 = (f_X6_forged_45 mg d m a3 dm).1 ∧ TI cg mg (f_X5_forged_45 cg d n a4 cm).2 (f_X6_forged_45 mg d m a3 dm).2 := by
  have hl := (row_2 h.1.2.1 c0).2.2.2.2.1
  have t2 : (2 : Int32).toInt = 2 := rfl
  have hh : (mg 12 (ix d) / 2).toInt = (mg 12 (ix d)).toInt / 2 := by rw [div_toInt hl.1 (by omega), t2]
  intro n
  induction n with
  | zero => intro m a3 a4 cm dm h1; exact absurd h1.2 (Nat.not_lt_zero _)
  | succ n ih =>
    intro m a3 a4 cm dm h1 h2 hI
    cases m with
    | zero => exact absurd h2.2.2 (Nat.not_lt_zero _)
    | succ m =>
      obtain ⟨ti, e34⟩ := hI
      obtain ⟨s, c2, e5, e12, e13, e11⟩ := TI_row h ti c0
      rw [f_X5_forged_45, f_X6_forged_45, e5, e12]
      have x3 : a3 / 2 = a4 := Int32.toInt_inj.mp (by rw [div_toInt h2.1 (by omega), t2]; omega)
      by_cases c : mg 12 (ix d) / 2 ≤ a4
      · have cc := i_le.mp c
        have c3 : mg 12 (ix d) ≤ a3 := i_le.mpr (by omega)
        simp only [if_pos c, if_pos c3]
        exact ⟨trivial, ti⟩
      · have cc := lt_of_nle c
        have c3 : ¬ mg 12 (ix d) ≤ a3 := fun q => by have := i_le.mp q; omega
        have a40 := h1.1
        simp only [if_neg c, if_neg c3]
        have y1 : (2 * a4 : Int32) = a3 := Int32.toInt_inj.mp (by rw [mulS (by rw [t2]; omega) (by rw [t2]; omega), t2]; omega)
        have y2 : (2 * a4 + 1 : Int32).toInt = a3.toInt + 1 := by rw [y1]; exact addS (by have : (1 : Int32).toInt = 1 := rfl; omega) (by have : (1 : Int32).toInt = 1 := rfl; omega)
        have z1 : f_X4_at cm (ix d) (2 * a4) = mg 13 (ix (100 * d + a3)) := by rw [TI_at h ti c0 (by rw [y1]; omega) (by rw [y1]; omega), y1]
        have z2 : f_X4_at cm (ix d) (2 * a4 + 1) = mg 13 (ix (100 * d + a3 + 1)) := by rw [TI_at h ti c0 (by omega) (by omega), y1, Int32.add_assoc]
        rw [z1, z2, TI_canEat ti h.2.2.1, e13, x3]
        by_cases p1 : f_X6_isPerson dm (mg 13 (ix (100 * d + a3))) = 0
        · simp only [if_pos p1, ↓reduceIte]
          exact ⟨trivial, ti⟩
        · simp only [if_neg p1]
          by_cases p2 : f_X6_isPerson dm (mg 13 (ix (100 * d + a3 + 1))) = 0
          · simp only [if_pos p2, ↓reduceIte]
            exact ⟨trivial, ti⟩
          · simp only [if_neg p2]
            by_cases p3 : f_X6_canEat dm 2 (mg 13 (ix (100 * d + a3))) (mg 13 (ix (100 * d + a3 + 1))) = 0
            · simp only [if_pos p3]
              exact ⟨trivial, ti⟩
            · simp only [if_neg p3]
              obtain ⟨u1, u2⟩ := TI_in ti h.2.2.1 p1
              obtain ⟨v1, v2⟩ := TI_in ti h.2.2.1 p2
              have tt := (TI_turn ti u1 u2 v1 v2 p3).2
              have e1 : (a4 + 1).toInt = a4.toInt + 1 := inc_toInt h1.1 cc
              have e2 : (a3 + 2).toInt = a3.toInt + 2 := inc2_toInt h2.1 (by omega)
              exact ih _ _ _ _ _ (lc_stepN h1 c) ⟨by omega, by omega, by omega⟩ ⟨tt, by omega⟩
theorem mod2 {x : Int32} (h0 : 0 ≤ x.toInt) : (x - x / 2 * 2 = 0 ↔ x.toInt % 2 = 0) ∧ (x - x / 2 * 2 = 1 ↔ ¬ x.toInt % 2 = 0) := by
  have t2 : (2 : Int32).toInt = 2 := rfl
  have e0 : (0 : Int32).toInt = 0 := rfl
  have e1 : (1 : Int32).toInt = 1 := rfl
  have e := mod_toInt h0 (k := 2) (by omega)
  rw [t2] at e
  refine ⟨⟨fun q => by rw [q] at e; omega, fun q => Int32.toInt_inj.mp (by omega)⟩, ⟨fun q => by rw [q] at e; omega, fun q => Int32.toInt_inj.mp (by omega)⟩⟩
theorem eq_forged (h : RI cg mg) (d : Int32) : (f_X5_forged cg d).1 = (f_X6_forged mg d).1 ∧ RI (f_X5_forged cg d).2 (f_X6_forged mg d).2 := by
  unfold f_X5_forged f_X6_forged
  rw [refusalR_eq h.1.2.1]
  by_cases c : f_X6_wrongRow mg d (-1) = 0
  · simp only [if_pos c]
    obtain ⟨_, _, e5, _, hl, _⟩ := row_2 h.1.2.1 c
    rw [e5]
    by_cases ev : (mg 12 (ix d)).toInt % 2 = 0
    · have n1 : ¬ mg 12 (ix d) - mg 12 (ix d) / 2 * 2 = 1 := fun q => (mod2 hl.1).2.mp q ev
      simp only [if_pos ((mod2 hl.1).1.mpr ev), if_neg n1]
      have t2 : (2 : Int32).toInt = 2 := rfl
      have hh : (mg 12 (ix d) / 2).toInt = (mg 12 (ix d)).toInt / 2 := by rw [div_toInt hl.1 (by omega), t2]
      have e0 : (0 : Int32).toInt = 0 := rfl
      obtain ⟨r1, r2⟩ := fo_L h c ev 51 102 0 0 _ _ (lc_0 (by omega) (by decide)) ⟨by decide, by decide, by omega⟩ ⟨TI_0 h NX.rf h.2.1 MX.rf, by decide⟩
      exact ⟨r1, TI_done h r2⟩
    · have n0 : ¬ mg 12 (ix d) - mg 12 (ix d) / 2 * 2 = 0 := fun q => ev ((mod2 hl.1).1.mp q)
      simp only [if_neg n0, if_pos ((mod2 hl.1).2.mpr ev)]
      exact ⟨trivial, h⟩
  · simp only [if_neg c]
    exact ⟨trivial, h⟩

theorem ju_L (h : RI cg mg) {d : Int32} (c0 : f_X6_wrongRow mg d (-1) = 0) : ∀ (n m : Nat) (a5 : Int32) (cm : Mem) (dm : Mem), lc a5 (mg 12 (ix d)) n → lc a5 (mg 12 (ix d)) m → TI cg mg cm dm → (f_X5_judge_39 cg d n a5 cm).1 = (f_X6_judge_26 mg d m a5 dm).1 ∧ TI cg mg (f_X5_judge_39 cg d n a5 cm).2 (f_X6_judge_26 mg d m a5 dm).2 := by
  intro n
  induction n with
  | zero => intro m a5 cm dm h1; exact absurd h1.2 (Nat.not_lt_zero _)
  | succ n ih =>
    intro m a5 cm dm h1 h2 hI
    cases m with
    | zero => exact absurd h2.2 (Nat.not_lt_zero _)
    | succ m =>
      rw [f_X5_judge_39, f_X6_judge_26, (TI_row h hI c0).2.2.1, (TI_row h hI c0).2.2.2.1]
      by_cases c : mg 12 (ix d) ≤ a5
      · simp only [if_pos c]
        exact ⟨trivial, hI⟩
      · simp only [if_neg c]
        have c2 := lt_of_nle c
        have n1 := lc_stepN h1 c
        have n2 := lc_stepN h2 c
        obtain ⟨b1, b2⟩ := TI_best hI
        have ls : f_X4_leastNumber cg (ix d) = f_X6_leastOf (mg 11 (ix d)) := by
          unfold f_X4_leastNumber f_X6_leastOf
          rw [(row_2 h.1.2.1 c0).2.1]
        have a0 := h1.1
        rw [b1, ls, (TI_row h hI c0).2.2.2.2.1, TI_at h hI c0 a0 c2]
        by_cases e : f_X6_bestIn dm 2 < 0
        · have e2 : ¬ 0 ≤ f_X6_bestIn dm 2 := fun q => by have := i_lt.mp e; have := i_le.mp q; omega
          have m11 := (TI_row h hI c0).2.2.2.2.2
          simp only [if_pos e, if_neg e2, m11]
          split
          · exact ih _ _ _ _ n1 n2 hI
          · exact ⟨rfl, hI⟩
        · have e2 : 0 ≤ f_X6_bestIn dm 2 := le_of_nlt e
          obtain ⟨b3, b4⟩ := b2 e
          have m11 := (TI_row h b4 c0).2.2.2.2.2
          simp only [if_neg e, if_pos e2, m11]
          rw [TI_at h b4 c0 a0 c2, b3]
          by_cases f : mg 13 (ix (100 * d + a5)) = r_X6_turn dm 2 (f_X6_bestIn dm 2 / 10) (f_X6_bestIn dm 2 - f_X6_bestIn dm 2 / 10 * 10)
          · simp only [if_pos f, if_pos f.symm, ite_self]
            exact ih _ _ _ _ n1 n2 b4
          · have f2 : ¬ r_X6_turn dm 2 (f_X6_bestIn dm 2 / 10) (f_X6_bestIn dm 2 - f_X6_bestIn dm 2 / 10 * 10) = mg 13 (ix (100 * d + a5)) := fun q => f q.symm
            simp only [if_neg f, if_neg f2]
            split
            · exact ih _ _ _ _ n1 n2 b4
            · exact ⟨rfl, b4⟩

theorem eq_judge (h : RI cg mg) (d : Int32) : (f_X5_judge cg d).1 = (f_X6_judge mg d).1 ∧ RI (f_X5_judge cg d).2 (f_X6_judge mg d).2 := by
  unfold f_X5_judge f_X6_judge
  rw [refusalR_eq h.1.2.1]
  by_cases c : f_X6_wrongRow mg d (-1) = 0
  · simp only [if_pos c]
    obtain ⟨_, _, _, _, hl, _⟩ := row_2 h.1.2.1 c
    have l : lc 0 (mg 12 (ix d)) 101 := lc_0 (by omega) (by decide)
    obtain ⟨r1, r2⟩ := ju_L h c 101 101 0 _ _ l l (TI_0 h NX.rf h.2.1 MX.rf)
    exact ⟨r1, TI_done h r2⟩
  · simp only [if_neg c]
    exact ⟨trivial, h⟩

theorem drawn_in2 {z s : Int32} (h1 : 0 < s.toInt) : 0 ≤ (((z &&& 2147483647) / 65536) - ((z &&& 2147483647) / 65536) / s * s).toInt ∧ (((z &&& 2147483647) / 65536) - ((z &&& 2147483647) / 65536) / s * s).toInt < s.toInt := by
  have e : (65536 : Int32).toInt = 65536 := rfl
  have a : 0 ≤ (z &&& 2147483647).toInt := by
    obtain ⟨j, hj, e2⟩ := pk_andE z (m := 2147483647) 31 (by decide)
    rw [e2, nI_toInt hj]
    omega
  have b : 0 ≤ ((z &&& 2147483647) / 65536).toInt := by
    rw [div_toInt a (by omega), e]
    omega
  rw [mod_toInt b h1]
  exact ⟨Int.emod_nonneg _ (by omega), Int.emod_lt_of_pos _ h1⟩
theorem MX_seed {v : Int32} : MX mg (up mg 0 12 v) := ⟨fun r _ a => up_row a, up_ne (Or.inr (by decide))⟩
theorem TI_seed {cm dm : Mem} (h : TI cg mg cm dm) {v : Int32} : TI cg mg cm (up dm 0 12 v) := by
  obtain ⟨⟨a, b, z⟩, e, f, g⟩ := h
  refine ⟨⟨FR_row (up_row (by decide)) a, RB_row (up_row (by decide)) b, ?_⟩, e, f, g.tr MX_seed⟩
  rw [up_row (by decide)]
  exact z

theorem qfe_I {w z v a4 a5 a6 a7 : Int32} {cx dx : Mem} {K : Int32 → Int32 → Int32 → Int32 → Mem → Int32 × Mem} {K2 : Int32 → Int32 → Int32 → Mem → Int32 × Mem} (hs0 : cg 40 1 = mg 1 0) (hsn : ¬ mg 1 0 ≤ 0) (hs : 0 < (mg 1 0).toInt) (hK : ∀ (x4 x5 x6 : Int32) (cm dm : Mem), TI cg mg cm dm → dm 0 12 = x4 → (K x4 x5 x6 (a7 + 1) cm).1 = (K2 x5 x6 (a7 + 1) dm).1 ∧ RI (K x4 x5 x6 (a7 + 1) cm).2 (K2 x5 x6 (a7 + 1) dm).2) : ∀ (n m : Nat) (b4 : Int32) (b5 : Int32) (b6 : Int32) (b8 : Int32) (cm : Mem) (dm : Mem), lc b8 (10) n → lc b8 (10) m → (TI cg mg cm dm ∧ dm 0 12 = b4) → (f_X5_fetes_64 cg w z v K a4 a5 a6 a7 cx n b4 b5 b6 b8 cm).1 = (f_X6_fetes_67 mg w z v K2 a5 a6 a7 dx m b5 b6 b8 dm).1 ∧ RI (f_X5_fetes_64 cg w z v K a4 a5 a6 a7 cx n b4 b5 b6 b8 cm).2 (f_X6_fetes_67 mg w z v K2 a5 a6 a7 dx m b5 b6 b8 dm).2 := by
  intro n
  induction n with
  | zero => intro m b4 b5 b6 b8 cm dm h1; exact absurd h1.2 (Nat.not_lt_zero _)
  | succ n ih =>
    intro m b4 b5 b6 b8 cm dm h1 h2 hI
    cases m with
    | zero => exact absurd h2.2 (Nat.not_lt_zero _)
    | succ m =>
      rw [f_X5_fetes_64, f_X6_fetes_67]
      by_cases c : 10 ≤ b8
      · simp only [if_pos c]
        exact hK _ _ _ _ _ hI.1 hI.2
      · simp only [if_neg c]
        have c2 := lt_of_nle c
        have n1 := lc_stepN h1 c
        have n2 := lc_stepN h2 c
        obtain ⟨ti, hz⟩ := hI
        have sz : cm 40 1 = mg 1 0 := (ti.2.1 40 1 (by unfold nx; omega)).trans hs0
        have dz : dm 1 = mg 1 := ti.2.2.2.1 1 (by decide) (by decide)
        have k1 : r_X6_drawn dm (dm 1 0) = f_X5_drawn (f_X5_nextSeed b4) (cm 40 1) := by
          unfold r_X6_drawn f_X6_drawn f_X5_drawn f_X5_nextSeed
          rw [sz, if_neg hsn, dz]
          dsimp only
          rw [up_eq, hz]
        have k2 : m_X6_drawn dm (dm 1 0) = up dm 0 12 (f_X5_nextSeed b4) := by
          unfold m_X6_drawn f_X6_drawn f_X5_nextSeed
          rw [hz]
        have t1 : TI cg mg cm (up dm 0 12 (f_X5_nextSeed b4)) := TI_seed ti
        have k3 : r_X6_drawn (up dm 0 12 (f_X5_nextSeed b4)) (up dm 0 12 (f_X5_nextSeed b4) 1 0) = f_X5_drawn (f_X5_nextSeed (f_X5_nextSeed b4)) (cm 40 1) := by
          unfold r_X6_drawn f_X6_drawn f_X5_drawn
          rw [sz, if_neg hsn, up_row (by decide : (1 : Nat) ≠ 0), dz]
          dsimp only
          rw [up_eq, up_eq]
          rfl
        have k4 : m_X6_drawn (up dm 0 12 (f_X5_nextSeed b4)) (up dm 0 12 (f_X5_nextSeed b4) 1 0) = up (up dm 0 12 (f_X5_nextSeed b4)) 0 12 (f_X5_nextSeed (f_X5_nextSeed b4)) := by
          unfold m_X6_drawn f_X6_drawn
          dsimp only
          rw [up_eq]
          rfl
        have t2 : TI cg mg cm (up (up dm 0 12 (f_X5_nextSeed b4)) 0 12 (f_X5_nextSeed (f_X5_nextSeed b4))) := TI_seed t1
        rw [k1, k2, k3, k4]
        generalize hy : up (up dm 0 12 (f_X5_nextSeed b4)) 0 12 (f_X5_nextSeed (f_X5_nextSeed b4)) = y at *
        have y12 : y 0 12 = f_X5_nextSeed (f_X5_nextSeed b4) := by rw [← hy, up_eq]
        have d1 : 0 ≤ (f_X5_drawn (f_X5_nextSeed b4) (cm 40 1)).toInt ∧ (f_X5_drawn (f_X5_nextSeed b4) (cm 40 1)).toInt < (y 2 0).toInt := by
          rw [t2.1.2.2, sz]
          unfold f_X5_drawn
          rw [if_neg hsn]
          exact drawn_in2 hs
        have d2 : 0 ≤ (f_X5_drawn (f_X5_nextSeed (f_X5_nextSeed b4)) (cm 40 1)).toInt ∧ (f_X5_drawn (f_X5_nextSeed (f_X5_nextSeed b4)) (cm 40 1)).toInt < (y 2 0).toInt := by
          rw [t2.1.2.2, sz]
          unfold f_X5_drawn
          rw [if_neg hsn]
          exact drawn_in2 hs
        generalize f_X5_drawn (f_X5_nextSeed b4) (cm 40 1) = x1 at *
        generalize f_X5_drawn (f_X5_nextSeed (f_X5_nextSeed b4)) (cm 40 1) = x2 at *
        rw [canEat_eq t2.1.1 d1.1 d1.2 d2.1 d2.2]
        by_cases e : f_X6_canEat y 2 x1 x2 = 0
        · simp only [if_pos e]
          exact ih _ _ _ _ _ _ _ n1 n2 ⟨t2, y12⟩
        · simp only [if_neg e]
          obtain ⟨u1, u2⟩ := TI_turn t2 d1.1 d1.2 d2.1 d2.2 e
          rw [u1]
          exact ih _ _ _ _ _ _ _ n1 n2 ⟨u2, (congrFun (turn_row (mg := y) (k := 2) (p := x1) (q := x2) (r := 0) (by decide)) 12).trans y12⟩

theorem qfe_O (h : RI cg mg) {w z v : Int32} (hs0 : cg 40 1 = mg 1 0) (hsn : ¬ mg 1 0 ≤ 0) (hs : 0 < (mg 1 0).toInt) : ∀ (n m : Nat) (a4 : Int32) (a5 : Int32) (a6 : Int32) (a7 : Int32) (cm : Mem) (dm : Mem), lc a7 (w) n → lc a7 (w) m → (NX cg cm ∧ In cm ∧ MX mg dm ∧ dm 0 12 = a4) → (f_X5_fetes_44 cg w z v n a4 a5 a6 a7 cm).1 = (f_X6_fetes_47 mg w z v m a5 a6 a7 dm).1 ∧ RI (f_X5_fetes_44 cg w z v n a4 a5 a6 a7 cm).2 (f_X6_fetes_47 mg w z v m a5 a6 a7 dm).2 := by
  intro n
  induction n with
  | zero => intro m a4 a5 a6 a7 cm dm h1; exact absurd h1.2 (Nat.not_lt_zero _)
  | succ n ih =>
    intro m a4 a5 a6 a7 cm dm h1 h2 hI
    cases m with
    | zero => exact absurd h2.2 (Nat.not_lt_zero _)
    | succ m =>
      rw [f_X5_fetes_44, f_X6_fetes_47]
      by_cases c : w ≤ a7
      · simp only [if_pos c]
        obtain ⟨x1, x2, x3, x4⟩ := hI
        split <;> exact ⟨rfl, RI_try h x1 x2 x3⟩
      · simp only [if_neg c]
        have c2 := lt_of_nle c
        have n1 := lc_stepN h1 c
        have n2 := lc_stepN h2 c
        obtain ⟨x1, x2, x3, x4⟩ := hI
        have l : lc 0 10 11 := lc_0 (by decide) (by decide)
        have key := qfe_I (w := w) (z := z) (v := v) (a4 := a4) (a5 := a5) (a6 := a6) (a7 := a7) (cx := cm) (dx := dm) (K := fun a4' a5' a6' a7' g_44' => f_X5_fetes_44 cg w z v n a4' a5' a6' a7' g_44') (K2 := fun a4' a5' a6' g_47' => f_X6_fetes_47 mg w z v m a4' a5' a6' g_47') hs0 hsn hs (fun y4 y5 y6 c2 d2 ti hz => ih m y4 y5 y6 (a7 + 1) c2 d2 n1 n2 ⟨ti.2.1, ti.2.2.1, ti.2.2.2, hz⟩) 11 11 a4 a5 a6 0 (f_X0_becomes cm 2 0) (f_X6_copies dm 1 2) l l ⟨TI_0 h x1 x2 x3, by
          rw [copies_o (by decide) (by decide)]
          exact x4⟩
        exact key

theorem eq_fetes (h : RI cg mg) (w z v : Int32) : (f_X5_fetes cg w z v).1 = (f_X6_fetes mg w z v).1 ∧ RI (f_X5_fetes cg w z v).2 (f_X6_fetes mg w z v).2 := by
  unfold f_X5_fetes f_X6_fetes f_X5_isOneOfTwo
  rw [isWithin_eq, isWithin_eq, h.1.1.1.z]
  by_cases a : f_X6_isIn w 1 20 = 0
  · simp only [if_pos a]; exact ⟨trivial, h⟩
  · simp only [if_neg a]
    by_cases b : f_X6_isIn v 0 1 = 0
    · simp only [if_pos b]; exact ⟨trivial, h⟩
    · simp only [if_neg b]
      by_cases c : mg 1 0 = 0
      · simp only [if_pos c]; exact ⟨trivial, h⟩
      · simp only [if_neg c]
        have hw := isIn_in a
        have e20 : (20 : Int32).toInt = 20 := rfl
        have e0 : (0 : Int32).toInt = 0 := rfl
        have l : lc 0 w 21 := lc_0 (by omega) (by decide)
        have hne := ne_toInt c
        have h0 := h.2.2.1.1.1
        exact qfe_O h h.1.1.1.z (fun q => by have := i_le.mp q; omega) (by omega) 21 21 z 0 0 0 _ _ l l ⟨NX.rf, h.2.1, MX_seed, up_eq⟩
end FRG
