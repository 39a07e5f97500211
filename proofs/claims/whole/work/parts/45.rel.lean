section FRI
variable {cg mg : Mem} {t t2 k k2 : Nat}

theorem bP_0 {a b : Nat} (hab : b ≠ a) : f_X3_becomes cg a b a 0 = cg b 0 := by
  unfold f_X3_becomes f_X3_becomes_m8 f_X3_becomes_m7 f_X3_becomes_m6 f_X3_becomes_m5 f_X3_becomes_m4 f_X3_becomes_m3 f_X3_becomes_m2 f_X3_becomes_m1
  rw [up_ne (Or.inr (by decide)), up_ne (Or.inr (by decide)), up_ne (Or.inr (by decide)), up_ne (Or.inr (by decide)), up_ne (Or.inr (by decide)), up_ne (Or.inr (by decide)), up_ne (Or.inr (by decide)), up_eq]
theorem bP_1 {a b : Nat} (hab : b ≠ a) : f_X3_becomes cg a b a 1 = cg b 1 := by
  unfold f_X3_becomes f_X3_becomes_m8 f_X3_becomes_m7 f_X3_becomes_m6 f_X3_becomes_m5 f_X3_becomes_m4 f_X3_becomes_m3 f_X3_becomes_m2 f_X3_becomes_m1
  rw [up_ne (Or.inr (by decide)), up_ne (Or.inr (by decide)), up_ne (Or.inr (by decide)), up_ne (Or.inr (by decide)), up_ne (Or.inr (by decide)), up_ne (Or.inr (by decide)), up_eq, up_ne (Or.inl hab)]
theorem bP_2 {a b : Nat} (hab : b ≠ a) : f_X3_becomes cg a b a 2 = cg b 2 := by
  unfold f_X3_becomes f_X3_becomes_m8 f_X3_becomes_m7 f_X3_becomes_m6 f_X3_becomes_m5 f_X3_becomes_m4 f_X3_becomes_m3 f_X3_becomes_m2 f_X3_becomes_m1
  rw [up_ne (Or.inr (by decide)), up_ne (Or.inr (by decide)), up_ne (Or.inr (by decide)), up_ne (Or.inr (by decide)), up_ne (Or.inr (by decide)), up_eq, up_ne (Or.inl hab), up_ne (Or.inl hab)]
theorem bP_3 {a b : Nat} (hab : b ≠ a) : f_X3_becomes cg a b a 3 = cg b 3 := by
  unfold f_X3_becomes f_X3_becomes_m8 f_X3_becomes_m7 f_X3_becomes_m6 f_X3_becomes_m5 f_X3_becomes_m4 f_X3_becomes_m3 f_X3_becomes_m2 f_X3_becomes_m1
  rw [up_ne (Or.inr (by decide)), up_ne (Or.inr (by decide)), up_ne (Or.inr (by decide)), up_ne (Or.inr (by decide)), up_eq, up_ne (Or.inl hab), up_ne (Or.inl hab), up_ne (Or.inl hab)]
theorem bP_4 {a b : Nat} (hab : b ≠ a) : f_X3_becomes cg a b a 4 = cg b 4 := by
  unfold f_X3_becomes f_X3_becomes_m8 f_X3_becomes_m7 f_X3_becomes_m6 f_X3_becomes_m5 f_X3_becomes_m4 f_X3_becomes_m3 f_X3_becomes_m2 f_X3_becomes_m1
  rw [up_ne (Or.inr (by decide)), up_ne (Or.inr (by decide)), up_ne (Or.inr (by decide)), up_eq, up_ne (Or.inl hab), up_ne (Or.inl hab), up_ne (Or.inl hab), up_ne (Or.inl hab)]
theorem bP_5 {a b : Nat} (hab : b ≠ a) : f_X3_becomes cg a b a 5 = cg b 5 := by
  unfold f_X3_becomes f_X3_becomes_m8 f_X3_becomes_m7 f_X3_becomes_m6 f_X3_becomes_m5 f_X3_becomes_m4 f_X3_becomes_m3 f_X3_becomes_m2 f_X3_becomes_m1
  rw [up_ne (Or.inr (by decide)), up_ne (Or.inr (by decide)), up_eq, up_ne (Or.inl hab), up_ne (Or.inl hab), up_ne (Or.inl hab), up_ne (Or.inl hab), up_ne (Or.inl hab)]
theorem bP_6 {a b : Nat} (hab : b ≠ a) : f_X3_becomes cg a b a 6 = cg b 6 := by
  unfold f_X3_becomes f_X3_becomes_m8 f_X3_becomes_m7 f_X3_becomes_m6 f_X3_becomes_m5 f_X3_becomes_m4 f_X3_becomes_m3 f_X3_becomes_m2 f_X3_becomes_m1
  rw [up_ne (Or.inr (by decide)), up_eq, up_ne (Or.inl hab), up_ne (Or.inl hab), up_ne (Or.inl hab), up_ne (Or.inl hab), up_ne (Or.inl hab), up_ne (Or.inl hab)]
theorem bP_7 {a b : Nat} (hab : b ≠ a) : f_X3_becomes cg a b a 7 = cg b 7 := by
  unfold f_X3_becomes f_X3_becomes_m8 f_X3_becomes_m7 f_X3_becomes_m6 f_X3_becomes_m5 f_X3_becomes_m4 f_X3_becomes_m3 f_X3_becomes_m2 f_X3_becomes_m1
  rw [up_eq, up_ne (Or.inl hab), up_ne (Or.inl hab), up_ne (Or.inl hab), up_ne (Or.inl hab), up_ne (Or.inl hab), up_ne (Or.inl hab), up_ne (Or.inl hab)]
theorem bP_lt {a b : Nat} (hab : b ≠ a) {f : Nat} (hf : f < 8) : f_X3_becomes cg a b a f = cg b f := by
  have : f = 0 ∨ f = 1 ∨ f = 2 ∨ f = 3 ∨ f = 4 ∨ f = 5 ∨ f = 6 ∨ f = 7 := by omega
  rcases this with rfl | rfl | rfl | rfl | rfl | rfl | rfl | rfl
  · exact bP_0 hab
  · exact bP_1 hab
  · exact bP_2 hab
  · exact bP_3 hab
  · exact bP_4 hab
  · exact bP_5 hab
  · exact bP_6 hab
  · exact bP_7 hab
theorem bF_L (ht : t < 3) (ht2 : t2 < 3) (hne : t ≠ t2) (h8 : (cg (40 + t2) 1).toInt ≤ 8) : ∀ (n : Nat) (a : Int32) (g2 : Mem), lc a (cg (40 + t2) 1) n →
    (∀ q, ¬ (8 * t ≤ q ∧ q < 8 * t + 8) → g2 q = cg q) → (∀ i f : Nat, i < ix a → f < 8 → g2 (8 * t + i) f = cg (8 * t2 + i) f) →
    (∀ q, ¬ (8 * t ≤ q ∧ q < 8 * t + 8) → q ≠ 40 + t → f_X0_becomes_2 cg t t2 n a g2 q = cg q) ∧ (∀ i f : Nat, (i : Int) < (cg (40 + t2) 1).toInt → f < 8 → f_X0_becomes_2 cg t t2 n a g2 (8 * t + i) f = cg (8 * t2 + i) f) ∧
    (∀ f, 1 ≤ f → f ≤ 3 → f_X0_becomes_2 cg t t2 n a g2 (40 + t) f = cg (40 + t2) f) := by
  intro n
  induction n with
  | zero => intro a g2 h1; exact absurd h1.2 (Nat.not_lt_zero _)
  | succ n ih =>
    intro a g2 h1 hA hB
    have x0 := ix_toInt h1.1
    have e1 : g2 (40 + t2) = cg (40 + t2) := hA _ (by omega)
    rw [f_X0_becomes_2, e1]
    by_cases c : cg (40 + t2) 1 ≤ a
    · have c2 := i_le.mp c
      simp only [if_pos c]
      unfold f_X0_becomes_m3 f_X0_becomes_m2 f_X0_becomes_m1
      refine ⟨fun q hq hq2 => ?_, fun i f hi hf => ?_, fun f f1 f3 => ?_⟩
      · rw [up_row hq2, up_row hq2, up_row hq2]; exact hA q hq
      · rw [up_row (by omega), up_row (by omega), up_row (by omega)]; exact hB i f (by omega) hf
      · have hm : 40 + t2 ≠ 40 + t := by omega
        simp only [up_row hm, e1]
        have : f = 1 ∨ f = 2 ∨ f = 3 := by omega
        rcases this with rfl | rfl | rfl
        · rw [up_ne (Or.inr (by decide)), up_ne (Or.inr (by decide)), up_eq]
        · rw [up_ne (Or.inr (by decide)), up_eq]
        · rw [up_eq]
    · have c2 := lt_of_nle c
      simp only [if_neg c]
      have n1 := lc_stepN h1 c
      have ei : (a + 1).toInt = a.toInt + 1 := inc_toInt h1.1 c2
      have x1 := ix_toInt (x := a + 1) (by have := h1.1; omega)
      have a8 : ix a < 8 := by omega
      refine ih _ _ n1 (fun q hq => ?_) (fun i f hi hf => ?_)
      · funext f
        rw [becomesP_hi (by omega)]
        exact congrFun (hA q hq) f
      · by_cases hx : i = ix a
        · subst hx
          rw [bP_lt (by omega) hf, hA _ (by omega)]
        · rw [becomesP_hi (by omega)]
          exact hB i f (by omega) hf
theorem bF_all (ht : t < 3) (ht2 : t2 < 3) (hne : t ≠ t2) (h8 : 0 ≤ (cg (40 + t2) 1).toInt ∧ (cg (40 + t2) 1).toInt ≤ 8) :
    (∀ q, ¬ (8 * t ≤ q ∧ q < 8 * t + 8) → q ≠ 40 + t → f_X0_becomes cg t t2 q = cg q) ∧ (∀ i f : Nat, (i : Int) < (cg (40 + t2) 1).toInt → f < 8 → f_X0_becomes cg t t2 (8 * t + i) f = cg (8 * t2 + i) f) ∧
    (∀ f, 1 ≤ f → f ≤ 3 → f_X0_becomes cg t t2 (40 + t) f = cg (40 + t2) f) :=
  bF_L ht ht2 hne h8.2 9 0 cg (lc_0 (by omega) (by decide)) (fun _ _ => rfl) (fun i f hi _ => absurd hi (by have : ix (0 : Int32) = 0 := by decide
                                                                                                            omega))
/-- a copy of the class' fete and a copy of the reference's row are the same -/
theorem FR_becomes (ht : t < 3) (ht2 : t2 < 3) (hne : t ≠ t2) (hk : k ≠ k2) (h : FR cg t2 mg k) : FR (f_X0_becomes cg t t2) t (f_X6_copies mg k k2) k2 := by
  obtain ⟨e1, e2, e3, e4, e5⟩ := h
  obtain ⟨b1, b2, b3⟩ := bF_all (cg := cg) ht ht2 hne (by rw [e1]; exact e4)
  refine ⟨?_, ?_, ?_, ?_, fun i hi => ?_⟩
  · rw [b3 1 (by decide) (by decide), copies_i hk (by decide)]; exact e1
  · rw [b3 2 (by decide) (by decide), copies_i hk (by decide)]; exact e2
  · rw [b3 3 (by decide) (by decide), copies_i hk (by decide)]; exact e3
  · rw [copies_i hk (by decide)]; exact e4
  · rw [copies_i hk (by decide)] at hi
    have hi8 : i < 8 := by omega
    rw [← e1] at hi
    unfold PR
    rw [b2 i 0 hi (by decide), b2 i 1 hi (by decide), b2 i 2 hi (by decide), b2 i 3 hi (by decide), b2 i 4 hi (by decide), b2 i 5 hi (by decide), b2 i 6 hi (by decide), b2 i 7 hi (by decide),
      copies_i hk (by omega), copies_i hk (by omega), copies_i hk (by omega), copies_i hk (by omega), copies_i hk (by omega), copies_i hk (by omega)]
    exact e5 i (by rw [← e1]; exact hi)
theorem RB_copies (hk : k ≠ k2) (r : RB mg k) : RB (f_X6_copies mg k k2) k2 := by
  obtain ⟨r1, r2, r3⟩ := r
  refine ⟨by rw [copies_i hk (by decide)]; exact r1, by rw [copies_i hk (by decide)]; exact r2, fun i hi c hc => ?_⟩
  rw [copies_i hk (by decide)] at hi
  rw [copies_i hk (by omega)]
  exact r3 i hi c hc
theorem copies_row (hk : k ≠ k2) {q : Nat} (hq : q ≠ k2) : f_X6_copies mg k k2 q = mg q := funext fun j => copies_o hk hq j
/-- another fete where nothing of it was written -/
theorem FR_ext {cg2 mg2 : Mem} (e : ∀ i, i < 8 → cg2 (8 * t + i) = cg (8 * t + i)) (e4 : cg2 (40 + t) = cg (40 + t)) (em : mg2 k = mg k) (h : FR cg t mg k) : FR cg2 t mg2 k := by
  unfold FR PR at *
  rw [em, e4]
  obtain ⟨e1, e2, e3, e6, e5⟩ := h
  refine ⟨e1, e2, e3, e6, fun i hi => ?_⟩
  rw [e i (by omega)]
  exact e5 i hi
theorem SRs_ext {cg2 mg2 : Mem} (e : ∀ q, 24 ≤ q → q < 40 → cg2 q = cg q) (em : ∀ r, 8 ≤ r → r ≤ 13 → mg2 r = mg r) (h : SRs cg mg) : SRs cg2 mg2 := by
  refine SRs_row em (fun d hd => ?_)
  have h2 := h d hd
  unfold SR at *
  rw [e (24 + d) (by omega) (by omega), e (32 + d) (by omega) (by omega)]
  exact h2
/-- what class and reference have in common -/
def RLt (cg mg : Mem) : Prop := (FR cg 0 mg 1 ∧ RB mg 1 ∧ TB mg) ∧ SRs cg mg ∧ cg 46 5 = mg 0 4 ∧ (¬ mg 0 4 = 0 → FR cg 1 mg 3 ∧ RB mg 3 ∧ 0 ≤ (mg 3 2).toInt ∧ (mg 3 2).toInt ≤ 999)
/-- the rows of the reference that count between calls -/
def mrow (r : Nat) : Prop := r = 1 ∨ r = 3 ∨ (8 ≤ r ∧ r ≤ 13)
theorem RL_ext {cg2 mg2 : Mem} (hc : NX cg cg2) (hm : ∀ r, mrow r → mg2 r = mg r) (h4 : mg2 0 4 = mg 0 4) (h : RLt cg mg) : RLt cg2 mg2 := by
  have e : ∀ q, nx q → cg2 q = cg q := fun q hq => funext fun f => hc q f hq
  obtain ⟨⟨h1, h2, h3⟩, hs, hi, hj⟩ := h
  have m1 := hm 1 (Or.inl rfl)
  have m3 := hm 3 (Or.inr (Or.inl rfl))
  refine ⟨⟨FR_ext (fun i hi => e _ (by unfold nx; omega)) (e _ (by unfold nx; omega)) m1 h1, RB_row m1 h2, ?_⟩, SRs_ext (fun q q1 q2 => e q (by unfold nx; omega)) (fun r a b => hm r (Or.inr (Or.inr ⟨a, b⟩))) hs, ?_, fun q => ?_⟩
  · unfold TB; rw [m1]; exact h3
  · rw [e 46 (by unfold nx; omega), h4]; exact hi
  · rw [h4] at q
    obtain ⟨j1, j2, j3⟩ := hj q
    refine ⟨FR_ext (fun i hi => e _ (by unfold nx; omega)) (e _ (by unfold nx; omega)) m3 j1, RB_row m3 j2, ?_⟩
    rw [m3]; exact j3
/-- now is written, nothing else -/
theorem RL_now {cg2 mg2 : Mem} (hc : ∀ q, 8 ≤ q → q ≠ 40 → cg2 q = cg q) (hm : ∀ r, r ≠ 1 → mg2 r = mg r) (h : RLt cg mg) (h1 : FR cg2 0 mg2 1) (h2 : RB mg2 1) (h3 : TB mg2) : RLt cg2 mg2 := by
  obtain ⟨_, hs, hi, hj⟩ := h
  refine ⟨⟨h1, h2, h3⟩, SRs_ext (fun q q1 q2 => hc q (by omega) (by omega)) (fun r a b => hm r (by omega)) hs, ?_, fun q => ?_⟩
  · rw [hc 46 (by decide) (by decide), hm 0 (by decide)]; exact hi
  · rw [hm 0 (by decide)] at q
    obtain ⟨j1, j2, j3⟩ := hj q
    refine ⟨FR_ext (fun i hi => hc _ (by omega) (by omega)) (hc _ (by omega) (by omega)) (hm 3 (by decide)) j1, RB_row (hm 3 (by decide)) j2, ?_⟩
    rw [hm 3 (by decide)]; exact j3
/-- shelves are written, nothing else -/
theorem RL_shelf {cg2 mg2 : Mem} (hc : ∀ q, q < 24 ∨ 40 ≤ q → cg2 q = cg q) (hm : ∀ r, r < 8 → mg2 r = mg r) (h : RLt cg mg) (h1 : SRs cg2 mg2) : RLt cg2 mg2 := by
  obtain ⟨⟨f1, f2, f3⟩, hs, hi, hj⟩ := h
  have m1 := hm 1 (by decide)
  have m3 := hm 3 (by decide)
  refine ⟨⟨FR_ext (fun i hi => hc _ (by omega)) (hc _ (by omega)) m1 f1, RB_row m1 f2, ?_⟩, h1, ?_, fun q => ?_⟩
  · unfold TB; rw [m1]; exact f3
  · rw [hc 46 (by omega), hm 0 (by decide)]; exact hi
  · rw [hm 0 (by decide)] at q
    obtain ⟨j1, j2, j3⟩ := hj q
    refine ⟨FR_ext (fun i hi => hc _ (by omega)) (hc _ (by omega)) m3 j1, RB_row m3 j2, ?_⟩
    rw [m3]; exact j3
theorem eq_image (h : RLt cg mg) : (f_X5_image cg).1 = (f_X6_image mg).1 ∧ RLt (f_X5_image cg).2 (f_X6_image mg).2 := by
  obtain ⟨⟨f1, f2, f3⟩, hs, hi, hj⟩ := h
  have b := bF_all (cg := cg) (t := 1) (t2 := 0) (by decide) (by decide) (by decide) (by rw [f1.1]; exact f1.2.2.2.1)
  have n1 : ¬ (1 : Int32) = 0 := by decide
  have x : f_X0_becomes cg 1 0 40 = cg 40 := b.1 40 (by omega) (by omega)
  have F1 : FR (f_X0_becomes cg 1 0) 1 (f_X6_copies mg 1 3) 3 := FR_becomes (by decide) (by decide) (by decide) (by decide) f1
  have y : f_X6_copies mg 1 3 1 = mg 1 := copies_row (by decide) (by decide)
  unfold f_X5_image f_X6_image
  dsimp only
  refine ⟨?_, ⟨?_, ?_, ?_⟩, ?_, ?_, fun _ => ⟨?_, ?_, ?_⟩⟩
  · rw [up_row (by decide : 40 ≠ 46), up_row (by decide : 1 ≠ 0), x, y]
    exact f1.2.2.1
  · exact FR_ext (fun i hi => (up_row (by omega)).trans (b.1 _ (by omega) (by omega))) ((up_row (by decide)).trans x) ((up_row (by decide)).trans y) f1
  · exact RB_row ((up_row (by decide)).trans y) f2
  · unfold TB; rw [up_row (by decide), y]; exact f3
  · exact SRs_ext (fun q q1 q2 => (up_row (by omega)).trans (b.1 _ (by omega) (by omega))) (fun r r1 r2 => (up_row (by omega)).trans (copies_row (by decide) (by omega))) hs
  · rw [up_eq, up_eq]
  · exact FR_ext (fun i hi => up_row (by omega)) (up_row (by omega)) (up_row (by omega)) F1
  · exact RB_row (up_row (by decide)) (RB_copies (mg := mg) (k := 1) (k2 := 3) (by decide) f2)
  · rw [up_row (by decide), copies_i (by decide) (by decide)]; exact f3
theorem eq_restore (h : RLt cg mg) : (f_X5_restore cg).1 = (f_X6_restore mg).1 ∧ RLt (f_X5_restore cg).2 (f_X6_restore mg).2 := by
  have h0 := h
  obtain ⟨⟨f1, f2, f3⟩, hs, hi, hj⟩ := h
  unfold f_X5_restore f_X6_restore
  rw [hi]
  by_cases c : mg 0 4 = 0
  · simp only [if_pos c]
    exact ⟨trivial, h0⟩
  · simp only [if_neg c]
    obtain ⟨j1, j2, j3⟩ := hj c
    have b := bF_all (cg := cg) (t := 0) (t2 := 1) (by decide) (by decide) (by decide) (by rw [j1.1]; exact j1.2.2.2.1)
    have F1 : FR (f_X0_becomes cg 0 1) 0 (f_X6_copies mg 3 1) 1 := FR_becomes (by decide) (by decide) (by decide) (by decide) j1
    refine ⟨F1.2.2.1, RL_now (fun q q1 q2 => b.1 q (by omega) (by omega)) (fun r hr => copies_row (by decide) hr) h0 F1 (RB_copies (by decide) j2) ?_⟩
    unfold TB
    rw [copies_i (by decide) (by decide)]
    exact j3
end FRI
