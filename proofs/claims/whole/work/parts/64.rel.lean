section ST
variable {cg mg cg2 mg2 : Mem}
theorem RI_now (h : RI cg mg) (hc : ∀ q, 8 ≤ q → q ≠ 40 → cg2 q = cg q) (hm : ∀ r, r ≠ 1 → mg2 r = mg r) (h1 : FR cg2 0 mg2 1) (h2 : RB mg2 1) (h3 : TB mg2) (hi : In cg2) : RI cg2 mg2 :=
  ⟨RL_now hc hm h.1 h1 h2 h3, hi, ⟨h1.2.2.2.1, by rw [hm 3 (by decide)]; exact h.2.2.1.2.1, by rw [hm 12 (by decide)]; exact h.2.2.1.2.2⟩, BY_rows (hm 8 (by decide)) (hm 11 (by decide)) (hm 13 (by decide)) h.2.2.2⟩
theorem RI_shelf (h : RI cg mg) (hc : ∀ q, q < 24 ∨ 40 ≤ q → cg2 q = cg q) (hm : ∀ r, r < 8 → mg2 r = mg r) (hs : SRs cg2 mg2) (hi : In cg2) (hl : ∀ d : Nat, d < 8 → 0 ≤ (mg2 12 d).toInt ∧ (mg2 12 d).toInt ≤ 100) (hb : BY mg2) : RI cg2 mg2 :=
  ⟨RL_shelf hc hm h.1 hs, hi, ⟨by rw [hm 1 (by decide)]; exact h.2.2.1.1, by rw [hm 3 (by decide)]; exact h.2.2.1.2.1, hl⟩, hb⟩
theorem st_slices (h : RI cg mg) (v : Int32) : (f_X5_slices cg v).1 = (f_X6_slices mg v).1 ∧ RI (f_X5_slices cg v).2 (f_X6_slices mg v).2 := by
  unfold f_X5_slices f_X6_slices
  rw [isWithin_eq]
  by_cases a : f_X6_isIn v 0 99 = 0
  · simp only [if_pos a]; exact ⟨trivial, h⟩
  · simp only [if_neg a]
    have hv := isIn_in a
    obtain ⟨f1, f2, f3⟩ := h.1.1
    refine ⟨f1.s, RI_now h (fun q q1 q2 => up_row q2) (fun r hr => up_row hr) (FR_upS (by decide) f1 rfl) (RB_up1 f2 hv) ?_ (In_upF (t := 0) h.2.1 (by decide) (by decide))⟩
    unfold TB
    rw [up_ne (Or.inr (by decide))]
    exact f3
theorem st_feels (h : RI cg mg) (p w v : Int32) : (f_X5_feels cg p w v).1 = (f_X6_feels mg p w v).1 ∧ RI (f_X5_feels cg p w v).2 (f_X6_feels mg p w v).2 := by
  obtain ⟨f1, f2, f3⟩ := h.1.1
  unfold f_X5_feels f_X6_feels f_X5_isOneOfTwo f_X5_isFeeling
  rw [isThere_eq f1, isWithin_eq, isWithin_eq]
  by_cases b : f_X6_isPerson mg p = 0
  · simp only [if_pos b]; exact ⟨trivial, h⟩
  · simp only [if_neg b]
    by_cases c : f_X6_isIn w 0 1 = 0
    · simp only [if_pos c]; exact ⟨trivial, h⟩
    · simp only [if_neg c]
      by_cases d : f_X6_isIn v 0 30 = 0
      · simp only [if_pos d]; exact ⟨trivial, h⟩
      · simp only [if_neg d]
        have hv := isIn_in d
        obtain ⟨p0, p1⟩ := person_in f1 b
        have hp := (f1.at p0 p1).2
        have x8 := f1.lt p0 p1
        by_cases e : w = 0
        · simp only [if_pos e]
          refine ⟨f1.c4 p0 p1, RI_now h (fun q q1 q2 => up_row (by omega)) (fun r hr => up_row hr) (by rw [of_2 hp]; exact FR_up4 (by decide) f1 p0 p1 rfl) (RB_up f2 p0 p1 vc2 hv) ?_ (In_upP h.2.1 (by omega) (by decide))⟩
          unfold TB
          rw [of_2 hp, up_ne (Or.inr (by omega))]
          exact f3
        · simp only [if_neg e]
          refine ⟨f1.c5 p0 p1, RI_now h (fun q q1 q2 => up_row (by omega)) (fun r hr => up_row hr) (by rw [of_3 hp]; exact FR_up5 (by decide) f1 p0 p1 rfl) (RB_up f2 p0 p1 vc3 hv) ?_ (In_upP h.2.1 (by omega) (by decide))⟩
          unfold TB
          rw [of_3 hp, up_ne (Or.inr (by omega))]
          exact f3
theorem cturn_row {p q : Int32} (hp : ix p < 8) (hq : ix q < 8) {r : Nat} (hr : 8 ≤ r) (hr2 : r ≠ 40) : f_X0_turn_m6 cg 0 p q r = cg r := by
  unfold f_X0_turn_m6 f_X0_turn_m5 f_X0_turn_m4 f_X0_turn_m3 f_X0_turn_m2 f_X0_turn_m1
  rw [up_row (by omega), up_row (by omega), up_row (by omega), up_row (by omega), up_row (by omega), up_row (by omega)]
theorem st_eats (h : RI cg mg) (p q : Int32) : (f_X5_eats cg p q).1 = (f_X6_eats mg p q).1 ∧ RI (f_X5_eats cg p q).2 (f_X6_eats mg p q).2 := by
  have n1 : ¬ (1 : Int32) = 0 := by decide
  have m1 : ¬ (-1 : Int32) = 0 := by decide
  have m3 : ¬ (-3 : Int32) = 0 := by decide
  obtain ⟨f1, f2, f3⟩ := h.1.1
  unfold f_X5_eats f_X6_eats f_X6_wrongTurn f_X0_mayTurn
  rw [areTwo_eq f1]
  by_cases b : f_X6_isPerson mg p = 0
  · simp only [if_pos b, if_neg m1]; exact ⟨rfl, h⟩
  · simp only [if_neg b]
    by_cases c : f_X6_isPerson mg q = 0
    · simp only [if_pos c, if_neg m1]; exact ⟨rfl, h⟩
    · simp only [if_neg c]
      by_cases d : p = q
      · simp only [if_pos d, if_neg m1]; exact ⟨rfl, h⟩
      · obtain ⟨p0, p1⟩ := person_in f1 b
        obtain ⟨q0, q1⟩ := person_in f1 c
        simp only [if_neg d, if_neg n1]
        rw [canEat_eq f1 p0 p1 q0 q1]
        by_cases e : f_X6_canEat mg 1 p q = 0
        · simp only [if_pos e, if_neg m3]; exact ⟨rfl, h⟩
        · simp only [if_neg e]
          have e3 : cg (40 + 0) 3 = mg 1 2 := f1.2.2.1
          rw [e3]
          have k9 : (999 : Int32).toInt = 999 := rfl
          by_cases f : (999 : Int32) ≤ mg 1 2
          · have g2 : mg 1 2 = 999 := Int32.toInt_inj.mp (by have := i_le.mp f; have := f3.2; omega)
            simp only [if_pos f, if_pos g2]; exact ⟨rfl, h⟩
          · have g2 : ¬ mg 1 2 = 999 := fun q => f (by rw [q]; decide)
            simp only [if_neg f, if_neg g2, if_neg n1]
            have b8 := f1.2.2.2.1
            have v8 : vp_in p 8 := vin_of p0 (by omega)
            have w8 : vp_in q 8 := vin_of q0 (by omega)
            refine ⟨joysOf_eq f1 p0 p1 q0 q1, RI_now h (fun r r1 r2 => cturn_row (f1.lt p0 p1) (f1.lt q0 q1) r1 r2) (fun r hr => turn_row hr) (FR_turn (by decide) f1 p0 p1 q0 q1) (RB_turn f2 p0 p1 q0 q1 e) ?_ (In_turn h.2.1 (by decide) v8 w8)⟩
            have g3 := lt_of_nle f
            have t : (f_X6_turn_m6 mg 1 p q 1 2).toInt = (mg 1 2).toInt + 1 := by rw [turn_2 (f1.at p0 p1).2 (f1.at q0 q1).2, add1_toInt f3.1 (by omega)]
            show 0 ≤ (f_X6_turn_m6 mg 1 p q 1 2).toInt ∧ (f_X6_turn_m6 mg 1 p q 1 2).toInt ≤ 999
            have := f3.1
            omega
theorem st_comes (h : RI cg mg) (d a b : Int32) : (f_X5_comes cg d a b).1 = (f_X6_comes mg d a b).1 ∧ RI (f_X5_comes cg d a b).2 (f_X6_comes mg d a b).2 := by
  have n1 : ¬ (1 : Int32) = 0 := by decide
  obtain ⟨f1, f2, f3⟩ := h.1.1
  have hs := h.1.2.1
  have intk := fun w p1 p2 p3 => In_takeIn (t := 0) (w := w) (p1 := p1) (p2 := p2) (p3 := p3) h.2.1 (by decide)
  unfold f_X5_comes f_X6_comes f_X5_isFeeling
  rw [isWithin_eq, isWithin_eq, refusalK_eq hs, isShelf_eq]
  have hsh : f_X6_isShelf d = 0 → f_X6_wrongKept mg d = -1 := fun q => by unfold f_X6_wrongKept; rw [if_pos q]
  by_cases s0 : f_X6_isShelf d = 0
  · have hw := hsh s0
    have m1 : ¬ (-1 : Int32) = 0 := by decide
    rw [hw]
    simp only [if_pos s0, if_neg m1, ite_self]
    exact ⟨trivial, h⟩
  · simp only [if_neg s0]
    by_cases ca : f_X6_isIn a 0 30 = 0
    · simp only [if_pos ca]; exact ⟨trivial, h⟩
    · simp only [if_neg ca]
      by_cases cb : f_X6_isIn b 0 30 = 0
      · simp only [if_pos cb]; exact ⟨trivial, h⟩
      · simp only [if_neg cb]
        by_cases c : f_X6_wrongKept mg d = 0
        · simp only [if_pos c]
          obtain ⟨_, e1, e2, hk, hf0, hf9⟩ := kept_1 hs c
          have h8 := f1.2.2.2.1
          have e8 : (8 : Int32).toInt = 8 := rfl
          have ez : cg (40 + 0) 1 = mg 1 0 := f1.1
          have inn := intk (mg 9 (ix d)) (mg 10 (ix d)) a b hk
          unfold r_X0_takeIn m_X0_takeIn f_X0_takeIn at *
          rw [ez, e1, e2]
          rw [ez] at inn
          by_cases f : mg 1 0 = 8
          · have g2 : ¬ mg 1 0 < 8 := fun q => by have := i_lt.mp q; rw [f] at this; omega
            simp only [if_pos f, if_neg g2]
            exact ⟨rfl, h⟩
          · have hne := ne_toInt f
            have g2 : mg 1 0 < 8 := i_lt.mpr (by omega)
            have hp : vp_in (mg 1 0) 9 := vin_of h8.1 (by omega)
            rw [if_pos g2] at inn
            simp only [if_pos g2, if_neg f, if_neg n1]
            have x1 := ix_toInt h8.1
            refine ⟨?_, RI_now h (fun q q1 q2 => ?_) (fun r hr => ?_) (FR_takeIn (by decide) f1 f hk) (RB_adds f2 h8.2 hk ⟨hf0, hf9⟩ (isIn_in ca) (isIn_in cb)) ?_ inn⟩
            · show mg 1 0 = (up (f_X6_adds_m6 mg 1 (mg 9 (ix d)) (mg 10 (ix d)) a b) 1 0 (f_X6_adds_m6 mg 1 (mg 9 (ix d)) (mg 10 (ix d)) a b 1 0 + 1) 1 0) - 1
              rw [up_eq, ad_o hp (Or.inl (by omega)), Int32.add_sub_cancel]
            · unfold f_X0_takeIn_m3
              rw [up_row (by omega)]
              exact funext fun y => tk_o (by rw [ez]; omega)
            · unfold f_X6_adds f_X6_adds_m7 f_X6_adds_m6 f_X6_adds_m5 f_X6_adds_m4 f_X6_adds_m3 f_X6_adds_m2 f_X6_adds_m1
              rw [up_row hr, up_row hr, up_row hr, up_row hr, up_row hr, up_row hr, up_row hr]
            · unfold TB
              rw [comes_keep hp]
              exact f3
        · simp only [if_neg c]
          exact ⟨trivial, h⟩
theorem st_image (h : RI cg mg) : (f_X5_image cg).1 = (f_X6_image mg).1 ∧ RI (f_X5_image cg).2 (f_X6_image mg).2 := by
  obtain ⟨e1, e2⟩ := eq_image h.1
  refine ⟨e1, e2, ?_, ?_, ?_⟩
  · unfold f_X5_image
    exact In_up_hi (In_becomesF h.2.1 (by decide) (by decide)) (by decide)
  · unfold f_X6_image
    exact InM_up (InM_cp1_3 h.2.2.1) (by omega) (by omega) (by omega)
  · unfold f_X6_image
    dsimp only
    exact BY_rows ((up_row (by decide)).trans (copies_row (by decide) (by decide))) ((up_row (by decide)).trans (copies_row (by decide) (by decide))) ((up_row (by decide)).trans (copies_row (by decide) (by decide))) h.2.2.2
theorem st_restore (h : RI cg mg) : (f_X5_restore cg).1 = (f_X6_restore mg).1 ∧ RI (f_X5_restore cg).2 (f_X6_restore mg).2 := by
  obtain ⟨e1, e2⟩ := eq_restore h.1
  refine ⟨e1, e2, ?_, ?_, ?_⟩
  · unfold f_X5_restore
    split
    · exact h.2.1
    · exact In_becomesF h.2.1 (by decide) (by decide)
  · unfold f_X6_restore
    split
    · exact h.2.2.1
    · dsimp only
      exact InM_cp3_1 h.2.2.1
  · unfold f_X6_restore
    split
    · exact h.2.2.2
    · dsimp only
      exact BY_rows (copies_row (by decide) (by decide)) (copies_row (by decide) (by decide)) (copies_row (by decide) (by decide)) h.2.2.2
theorem In_rows (hc : ∀ q, (q < 32 ∨ (40 ≤ q ∧ q < 43) ∨ q = 51) → cg2 q = cg q) (h : In cg) : In cg2 := by
  refine ⟨fun k hk => ?_, fun d hd => ?_, fun t ht => ?_, fun d hd => ?_, fun f => ?_⟩
  · rw [hc k (by omega)]; exact h.1 k hk
  · rw [hc _ (by omega)]; exact h.2.1 d hd
  · rw [hc _ (by omega)]; exact h.2.2.1 t ht
  · rw [hc _ (by omega)]; exact h.2.2.2.1 d hd
  · rw [hc _ (by omega)]; exact h.2.2.2.2 f
theorem BY_up13 (h : BY mg) {D i : Nat} (hi : i < 100) {v : Int32} (hv : mg 11 D = 0 → -128 ≤ v.toInt ∧ v.toInt ≤ 127) : BY (up mg 13 (100 * D + i) v) := fun x hx h8 h11 j hj => by
  rw [up_row (by decide)] at h8 h11
  by_cases z : 100 * x + j = 100 * D + i
  · have : x = D := by omega
    subst this
    rw [z, up_eq]
    exact hv h11
  · rw [up_ne (Or.inr z)]
    exact h x hx h8 h11 j hj
theorem i8_in (v : Int32) : -128 ≤ (Int8.toInt32 (Int32.toInt8 v)).toInt ∧ (Int8.toInt32 (Int32.toInt8 v)).toInt ≤ 127 := by
  have h1 := Int8.toInt_lt (Int32.toInt8 v)
  have h2 := Int8.le_toInt (Int32.toInt8 v)
  rw [Int8.toInt_toInt32]
  omega
theorem st_put (h : RI cg mg) (d i v : Int32) : (f_X5_put cg d i v).1 = (f_X6_put mg d i v).1 ∧ RI (f_X5_put cg d i v).2 (f_X6_put mg d i v).2 := by
  have hs := h.1.2.1
  have e := eq_put h.1.1.1 hs d i v
  refine ⟨e.1, ?_⟩
  have e2 := e.2.2
  unfold f_X5_put f_X6_put at e2 ⊢
  rw [refusalR_eq hs] at e2 ⊢
  by_cases c : f_X6_wrongRow mg d (-1) = 0
  · simp only [if_pos c] at e2 ⊢
    rw [hasPlace_eq hs c] at e2 ⊢
    by_cases b : f_X6_isIn i 0 (mg 12 (ix d) - 1) = 0
    · simp only [if_pos b]; exact h
    · simp only [if_neg b] at e2 ⊢
      have hi := place_in hs c b
      obtain ⟨hd, e1, _⟩ := row_2 hs c
      have ei := elt_ix hd hi
      have hd8 := vin_lt hd
      have hi8 := vin_lt hi
      rw [ei] at e2 ⊢
      have fin : ∀ x y : Int32, (mg 11 (ix d) = 0 → -128 ≤ y.toInt ∧ y.toInt ≤ 127) → SRs (up cg (32 + ix d) (ix i) x) (up mg 13 (100 * ix d + ix i) y) → RI (up cg (32 + ix d) (ix i) x) (up mg 13 (100 * ix d + ix i) y) := fun x y hy hS =>
        RI_shelf h (fun q hq => up_row (by omega)) (fun r hr => up_row (by omega)) hS (In_rows (fun q hq => up_row (by omega)) h.2.1) (fun D hD => by rw [up_row (by decide)]; exact h.2.2.1.2.2 D hD) (BY_up13 h.2.2.2 hi8 hy)
      by_cases s0 : mg 11 (ix d) = 0
      · simp only [if_pos s0] at e2 ⊢
        exact fin _ _ (fun _ => i8_in v) e2
      · simp only [if_neg s0] at e2 ⊢
        by_cases s1 : mg 11 (ix d) = 1
        · simp only [if_pos s1] at e2 ⊢
          exact fin _ _ (fun q => absurd q s0) e2
        · simp only [if_neg s1] at e2 ⊢
          exact fin _ _ (fun q => absurd q s0) e2
  · simp only [if_neg c]; exact h
theorem st_keep (h : RI cg mg) (d w p f : Int32) : (f_X5_keep cg d w p f).1 = (f_X6_keep mg d w p f).1 ∧ RI (f_X5_keep cg d w p f).2 (f_X6_keep mg d w p f).2 := by
  have hs := h.1.2.1
  have e := eq_keep h.1.1.1 hs d w p f
  refine ⟨e.1, ?_⟩
  have e2 := e.2.2
  have e7 : (8 : Int32) - 1 = 7 := by decide
  unfold f_X5_keep f_X6_keep f_X5_isOneOfTwo f_X5_isKind f_X5_isFigure at e2 ⊢
  rw [isShelf_eq, isWithin_eq, isWithin_eq, isWithin_eq, e7] at e2 ⊢
  by_cases a : f_X6_isShelf d = 0
  · simp only [if_pos a]; exact h
  · simp only [if_neg a] at e2 ⊢
    have hd := vin_lt (shelf_in a)
    by_cases b : f_X6_isIn w 0 1 = 0
    · simp only [if_pos b]; exact h
    · simp only [if_neg b] at e2 ⊢
      have byk : ∀ (k p f : Int32), ¬ k = 2 → BY (up (up (up mg 8 (ix d) k) 9 (ix d) p) 10 (ix d) f) := fun k p f hk x hx h8 h11 j hj => by
        rw [up_row (by decide), up_row (by decide)] at h8
        rw [up_row (by decide), up_row (by decide), up_row (by decide)] at h11 ⊢
        by_cases z : x = ix d
        · subst z
          rw [up_eq] at h8
          exact absurd h8 hk
        · rw [up_ne (Or.inr z)] at h8
          exact h.2.2.2 x hx h8 h11 j hj
      by_cases c : w = 0
      · have c1 : ¬ w = 1 := fun q => by rw [q] at c; exact absurd c (by decide)
        simp only [if_pos c, if_neg c1] at e2 ⊢
        unfold f_X6_keep_m6 f_X6_keep_m5 f_X6_keep_m4 at e2 ⊢
        refine RI_shelf h (fun q hq => up_row (by omega)) (fun r hr => by rw [up_row (by omega), up_row (by omega), up_row (by omega)]) e2 (In_upS h.2.1 hd (by decide)) (fun D hD => by rw [up_row (by decide), up_row (by decide), up_row (by decide)]; exact h.2.2.1.2.2 D hD) (byk w p f (fun q => by rw [q] at c; exact absurd c (by decide)))
      · have h01 := isIn_in b
        have c1 : w = 1 := Int32.toInt_inj.mp (by have hne := ne_toInt c; have e0 : (0 : Int32).toInt = 0 := rfl; have e1 : (1 : Int32).toInt = 1 := rfl; omega)
        simp only [if_neg c, if_pos c1] at e2 ⊢
        by_cases x : f_X6_isIn p 0 7 = 0
        · simp only [if_pos x]; exact h
        · simp only [if_neg x] at e2 ⊢
          by_cases y : f_X6_isIn f 0 9 = 0
          · simp only [if_pos y]; exact h
          · simp only [if_neg y] at e2 ⊢
            have hp : vp_in p 8 := shelf_in x
            unfold f_X4_holdKind f_X4_holdKind_m3 f_X4_holdKind_m2 f_X4_holdKind_m1 f_X6_keep_m3 f_X6_keep_m2 f_X6_keep_m1 at e2 ⊢
            refine RI_shelf h (fun q hq => by rw [up_row (by omega), up_row (by omega), up_row (by omega)]) (fun r hr => by rw [up_row (by omega), up_row (by omega), up_row (by omega)]) e2 (In_upS (In_upSk (In_upS h.2.1 hd (by decide)) hd hp) hd (by decide)) (fun D hD => by rw [up_row (by decide), up_row (by decide), up_row (by decide)]; exact h.2.2.1.2.2 D hD) (byk w p f (fun q => by rw [q] at c1; exact absurd c1 (by decide)))
theorem st_row (h : RI cg mg) (d s n : Int32) : (f_X5_row cg d s n).1 = (f_X6_row mg d s n).1 ∧ RI (f_X5_row cg d s n).2 (f_X6_row mg d s n).2 := by
  have hs := h.1.2.1
  have e := eq_row h.1.1.1 hs d s n
  refine ⟨e.1, ?_⟩
  have e2 := e.2.2
  unfold f_X5_row f_X6_row at e2 ⊢
  rw [isShelf_eq, isWithin_eq] at e2 ⊢
  by_cases a : f_X6_isShelf d = 0
  · simp only [if_pos a]; exact h
  · simp only [if_neg a] at e2 ⊢
    have hv := shelf_in a
    have hd := vin_lt hv
    by_cases b : f_X6_isIn s 0 2 = 0
    · simp only [if_pos b]; exact h
    · simp only [if_neg b] at e2 ⊢
      by_cases c : n ≤ 100
      · simp only [if_pos c] at e2 ⊢
        by_cases g : 0 ≤ n
        · simp only [if_pos g] at e2 ⊢
          have hn0 := i_le.mp g
          have hn1 := i_le.mp c
          have e0 : (0 : Int32).toInt = 0 := rfl
          have e100 : (100 : Int32).toInt = 100 := rfl
          have i0 : ix (0 : Int32) = 0 := by decide
          have hl : lc 0 100 101 := lc_0 (by decide) (by decide)
          have hC : ∀ q f, f_X4_holdRow cg (ix d) s n q f = if q = 32 + ix d ∧ 0 ≤ f ∧ f < 100 then 0 else up (up (up cg (24 + ix d) 1 2) (24 + ix d) 4 s) (24 + ix d) 5 n q f := fun q f => by
            have := hold_L (cg := cg) (d := ix d) (p0 := s) (p1 := n) 101 0 (f_X4_holdRow_m3 cg (ix d) s n) hl q f
            rw [i0] at this
            exact this
          obtain ⟨z1, z2⟩ := rowz_L (mg := mg) (p1 := s) (p2 := n) hv 101 0 (f_X6_row_m3 mg d s n) hl
          have hM : ∀ q f, (f_X6_row_55 mg d s n 101 0 (f_X6_row_m3 mg d s n)).2 q f = if q = 13 ∧ 100 * ix d + 0 ≤ f ∧ f < 100 * ix d + 100 then 0 else up (up (up mg 8 (ix d) 2) 11 (ix d) s) 12 (ix d) n q f := fun q f => by
            have := z2 q f
            rw [i0] at this
            exact this
          have inn : In (up (up (up cg (24 + ix d) 1 2) (24 + ix d) 4 s) (24 + ix d) 5 n) := In_upSl (In_upS (In_upS h.2.1 hd (by decide)) hd (by decide)) hd (by omega) (by omega)
          refine RI_shelf h (fun q hq => funext fun f => ?_) (fun r hr => funext fun f => ?_) e2 (In_rows (fun q hq => funext fun f => ?_) inn) (fun D hD => ?_) (fun x hx h8 h11 j hj => ?_)
          · rw [hC, if_neg (by omega), up_ne (by omega), up_ne (by omega), up_ne (by omega)]
          · rw [hM, if_neg (by omega), up_ne (by omega), up_ne (by omega), up_ne (by omega)]
          · rw [hC, if_neg (by omega)]
          · rw [hM, if_neg (by omega)]
            by_cases x : D = ix d
            · subst x; rw [up_eq]; omega
            · rw [up_ne (by omega), up_ne (by omega), up_ne (by omega)]; exact h.2.2.1.2.2 D hD
          · rw [hM] at h8 h11 ⊢
            by_cases z : x = ix d
            · subst z
              rw [if_pos (by omega)]; decide
            · rw [if_neg (by omega), up_ne (by omega), up_ne (by omega), up_ne (by omega)] at h8 h11
              rw [if_neg (by omega), up_ne (by omega), up_ne (by omega), up_ne (by omega)]
              exact h.2.2.2 x hx h8 h11 j hj
        · simp only [if_neg g]; exact h
      · simp only [if_neg c]; exact h
theorem st_element (h : RI cg mg) (d i : Int32) : RI cg (f_X6_element mg d i).2 := by
  rw [(eq_element h.1.2.1 d i).1]
  exact RI_try h NX.rf h.2.1 ⟨fun r _ a => up_row a, up_ne (Or.inr (by decide))⟩
theorem BY_CQ {m : Mem} (h : BY mg) {D E i j n : Nat} (hD : D < 8) (hE : E < 8) (hi : i + n ≤ 100) (hj : j + n ≤ 100) (hq : CQ mg m (100 * D + i) (100 * E + j) 0 n) (k : mg 8 D = 2) (hs : mg 11 D = mg 11 E) : BY m := fun x hx h8 h11 y hy => by
  rw [hq.1 8 (by decide)] at h8
  rw [hq.1 11 (by decide)] at h11
  rw [hq.2]
  by_cases z : 100 * E + j + 0 ≤ 100 * x + y ∧ 100 * x + y < 100 * E + j + n
  · rw [if_pos z]
    have : x = E := by omega
    subst this
    have := h D hD k (by rw [hs]; exact h11) (i + (y - j)) (by omega)
    rw [show 100 * D + i + (100 * x + y - (100 * x + j)) = 100 * D + (i + (y - j)) by omega]
    exact this
  · rw [if_neg z]
    exact h x hx h8 h11 y hy
end ST
