section FRS2
variable {cg mg : Mem} {t k : Nat}
theorem bit01 (x : Int32) : x &&& 1 = 0 ∨ x &&& 1 = 1 := by
  obtain ⟨j, hj, e⟩ := pk_andE x (m := 1) 1 (by decide)
  have h2 : j < 2 := by omega
  have e2 : x &&& 1 = nI j := e
  rw [e2]
  have : j = 0 ∨ j = 1 := by omega
  rcases this with rfl | rfl
  · exact Or.inl rfl
  · exact Or.inr rfl
/-- one of the people there, by a number -/
def PI (mg : Mem) (p : Int32) : Prop := 0 ≤ p.toInt ∧ p.toInt < (mg 1 0).toInt
def BT (set p : Int32) : Int32 := (set >>> (p &&& 31)) &&& 1
/-- the count of those outside who can look, on from a3 -/
def sn_c (mg : Mem) (set : Int32) : Nat → Int32 → Int32 → Int32
  | 0, _, _ => 0
  | n + 1, a2, a3 => if mg 1 0 ≤ a3 then a2 else if (set >>> (a3 &&& 31)) &&& 1 = 0 then (if f_X6_canLook mg 1 a3 = 0 then sn_c mg set n a2 (a3 + 1) else sn_c mg set n (a2 + 1) (a3 + 1)) else sn_c mg set n a2 (a3 + 1)
theorem sn_69 (set : Int32) : ∀ (n : Nat) (b a : Int32), lc a (mg 1 0) n → ((∃ p, PI mg p ∧ a.toInt ≤ p.toInt ∧ BT set p = 1 ∧ (mg 1 1 = 0 ∨ mg 1 (ix (f_X6_of p 2)) = 0)) ∧ f_X6_seen_69 mg set n b a = 0) ∨ ((∀ p, PI mg p → a.toInt ≤ p.toInt → BT set p = 1 → ¬ mg 1 1 = 0 ∧ ¬ mg 1 (ix (f_X6_of p 2)) = 0) ∧ f_X6_seen_69 mg set n b a = b) := by
  intro n
  induction n with
  | zero => intro b a h1; exact absurd h1.2 (Nat.not_lt_zero _)
  | succ n ih =>
    intro b a h1
    rw [f_X6_seen_69]
    by_cases c : mg 1 0 ≤ a
    · have c2 := i_le.mp c
      simp only [if_pos c]
      exact Or.inr ⟨fun p hp ha => by have := hp.2; omega, trivial⟩
    · have c2 := lt_of_nle c
      have n1 := lc_stepN h1 c
      have e1 : (a + 1).toInt = a.toInt + 1 := inc_toInt h1.1 c2
      simp only [if_neg c]
      have nx : ∀ p : Int32, a.toInt ≤ p.toInt → p = a ∨ (a + 1).toInt ≤ p.toInt := fun p hp => by
        by_cases x : p.toInt = a.toInt
        · exact Or.inl (Int32.toInt_inj.mp x)
        · exact Or.inr (by omega)
      by_cases d : (set >>> (a &&& 31)) &&& 1 = 1
      · simp only [if_pos d]
        have bad : (mg 1 1 = 0 ∨ mg 1 (ix (f_X6_of a 2)) = 0) → ((∃ p, PI mg p ∧ a.toInt ≤ p.toInt ∧ BT set p = 1 ∧ (mg 1 1 = 0 ∨ mg 1 (ix (f_X6_of p 2)) = 0)) ∧ f_X6_seen_69 mg set n 0 (a + 1) = 0) := fun x => by
          refine ⟨⟨a, ⟨h1.1, c2⟩, Int.le_refl _, d, x⟩, ?_⟩
          rcases ih 0 (a + 1) n1 with ⟨_, y⟩ | ⟨_, y⟩ <;> exact y
        by_cases e : mg 1 1 = 0
        · simp only [if_pos e]
          exact Or.inl (bad (Or.inl e))
        · simp only [if_neg e]
          by_cases f : mg 1 (ix (f_X6_of a 2)) = 0
          · simp only [if_pos f]
            exact Or.inl (bad (Or.inr f))
          · simp only [if_neg f]
            rcases ih b (a + 1) n1 with ⟨⟨p, y1, y2, y3⟩, y⟩ | ⟨y1, y⟩
            · exact Or.inl ⟨⟨p, y1, by omega, y3⟩, y⟩
            · refine Or.inr ⟨fun p hp ha hb => ?_, y⟩
              rcases nx p ha with rfl | x
              · exact ⟨e, f⟩
              · exact y1 p hp x hb
      · simp only [if_neg d]
        rcases ih b (a + 1) n1 with ⟨⟨p, y1, y2, y3⟩, y⟩ | ⟨y1, y⟩
        · exact Or.inl ⟨⟨p, y1, by omega, y3⟩, y⟩
        · refine Or.inr ⟨fun p hp ha hb => ?_, y⟩
          rcases nx p ha with rfl | x
          · exact absurd hb d
          · exact y1 p hp x hb
theorem sn_24 (set : Int32) : ∀ (n : Nat) (b a : Int32), lc a (mg 1 0) n → f_X6_seen_24 mg set n b a = f_X6_seen_69 mg set 10 (sn_c mg set n b a) 0 := by
  intro n
  induction n with
  | zero => intro b a h1; exact absurd h1.2 (Nat.not_lt_zero _)
  | succ n ih =>
    intro b a h1
    rw [f_X6_seen_24, sn_c, Int32.add_zero]
    by_cases c : mg 1 0 ≤ a
    · simp only [if_pos c]
    · have n1 := lc_stepN h1 c
      simp only [if_neg c]
      (repeat' split) <;> exact ih _ _ n1
theorem sn_cE (set : Int32) (hE : ∀ p, PI mg p → BT set p = 0 → f_X6_canLook mg 1 p = 0) : ∀ (n : Nat) (b a : Int32), lc a (mg 1 0) n → sn_c mg set n b a = b := by
  intro n
  induction n with
  | zero => intro b a h1; exact absurd h1.2 (Nat.not_lt_zero _)
  | succ n ih =>
    intro b a h1
    rw [sn_c]
    by_cases c : mg 1 0 ≤ a
    · simp only [if_pos c]
    · have n1 := lc_stepN h1 c
      have c2 := lt_of_nle c
      simp only [if_neg c]
      by_cases d : (set >>> (a &&& 31)) &&& 1 = 0
      · rw [if_pos d, if_pos (hE a ⟨h1.1, c2⟩ d)]
        exact ih _ _ n1
      · rw [if_neg d]
        exact ih _ _ n1
theorem out_L (h : FR cg 0 mg 1) (set : Int32) {p : Int32} (hp : PI mg p) : ∀ (n : Nat) (a : Int32), lc a (mg 1 0) n → ((∃ q, PI mg q ∧ a.toInt ≤ q.toInt ∧ BT set q = 0 ∧ ¬ f_X6_canEat mg 1 p q = 0) ∧ f_X5_canEatWatchedFromOutside_2 cg p set n a = 1) ∨ ((∀ q, PI mg q → a.toInt ≤ q.toInt → BT set q = 0 → f_X6_canEat mg 1 p q = 0) ∧ f_X5_canEatWatchedFromOutside_2 cg p set n a = 0) := by
  intro n
  induction n with
  | zero => intro a h1; exact absurd h1.2 (Nat.not_lt_zero _)
  | succ n ih =>
    intro a h1
    rw [f_X5_canEatWatchedFromOutside_2, h.z]
    by_cases c : mg 1 0 ≤ a
    · have c2 := i_le.mp c
      simp only [if_pos c]
      exact Or.inr ⟨fun p hp ha => by have := hp.2; omega, trivial⟩
    · have c2 := lt_of_nle c
      have n1 := lc_stepN h1 c
      have e1 : (a + 1).toInt = a.toInt + 1 := inc_toInt h1.1 c2
      simp only [if_neg c]
      have nx : ∀ p : Int32, a.toInt ≤ p.toInt → p = a ∨ (a + 1).toInt ≤ p.toInt := fun p hp => by
        by_cases x : p.toInt = a.toInt
        · exact Or.inl (Int32.toInt_inj.mp x)
        · exact Or.inr (by omega)
      by_cases d : (set >>> (a &&& 31)) &&& 1 = 0
      · simp only [if_pos d]
        rw [canEat_eq h hp.1 hp.2 h1.1 c2]
        by_cases e : f_X6_canEat mg 1 p a = 0
        · simp only [if_pos e]
          rcases ih (a + 1) n1 with ⟨⟨q, y1, y2, y3⟩, y⟩ | ⟨y1, y⟩
          · exact Or.inl ⟨⟨q, y1, by omega, y3⟩, y⟩
          · refine Or.inr ⟨fun q hq ha hb => ?_, y⟩
            rcases nx q ha with rfl | x
            · exact e
            · exact y1 q hq x hb
        · simp only [if_neg e]
          exact Or.inl ⟨⟨a, ⟨h1.1, c2⟩, Int.le_refl _, d, e⟩, trivial⟩
      · simp only [if_neg d]
        rcases ih (a + 1) n1 with ⟨⟨q, y1, y2, y3⟩, y⟩ | ⟨y1, y⟩
        · exact Or.inl ⟨⟨q, y1, by omega, y3⟩, y⟩
        · refine Or.inr ⟨fun q hq ha hb => ?_, y⟩
          rcases nx q ha with rfl | x
          · exact absurd hb d
          · exact y1 q hq x hb
theorem sn_23 (h : FR cg 0 mg 1) (set : Int32) : ∀ (n m : Nat) (b a : Int32), lc a (mg 1 0) n → lc a (mg 1 0) m → ((∃ p, PI mg p ∧ a.toInt ≤ p.toInt ∧ BT set p = 1 ∧ f_X5_canEatWatchedFromOutside cg p set = 0) ∧ f_X5_seen_23 cg set n b a = 0) ∨ ((∀ p, PI mg p → a.toInt ≤ p.toInt → BT set p = 1 → ¬ f_X5_canEatWatchedFromOutside cg p set = 0) ∧ f_X5_seen_23 cg set n b a = sn_c mg set m b a) := by
  intro n
  induction n with
  | zero => intro m b a h1; exact absurd h1.2 (Nat.not_lt_zero _)
  | succ n ih =>
    intro m b a h1 h2
    cases m with
    | zero => exact absurd h2.2 (Nat.not_lt_zero _)
    | succ m =>
      rw [f_X5_seen_23, sn_c, h.z]
      by_cases c : mg 1 0 ≤ a
      · have c2 := i_le.mp c
        simp only [if_pos c]
        exact Or.inr ⟨fun p hp ha => by have := hp.2; omega, trivial⟩
      · have c2 := lt_of_nle c
        have n1 := lc_stepN h1 c
        have n2 := lc_stepN h2 c
        have e1 : (a + 1).toInt = a.toInt + 1 := inc_toInt h1.1 c2
        simp only [if_neg c]
        have nx : ∀ p : Int32, a.toInt ≤ p.toInt → p = a ∨ (a + 1).toInt ≤ p.toInt := fun p hp => by
          by_cases x : p.toInt = a.toInt
          · exact Or.inl (Int32.toInt_inj.mp x)
          · exact Or.inr (by omega)
        by_cases d : (set >>> (a &&& 31)) &&& 1 = 1
        · have d0 : ¬ (set >>> (a &&& 31)) &&& 1 = 0 := fun q => by rw [q] at d; exact absurd d (by decide)
          simp only [if_pos d, if_neg d0]
          by_cases e : f_X5_canEatWatchedFromOutside cg a set = 0
          · simp only [if_pos e]
            exact Or.inl ⟨⟨a, ⟨h1.1, c2⟩, Int.le_refl _, d, e⟩, trivial⟩
          · simp only [if_neg e]
            rcases ih m b (a + 1) n1 n2 with ⟨⟨q, y1, y2, y3⟩, y⟩ | ⟨y1, y⟩
            · exact Or.inl ⟨⟨q, y1, by omega, y3⟩, y⟩
            · refine Or.inr ⟨fun q hq ha hb => ?_, y⟩
              rcases nx q ha with rfl | x
              · exact e
              · exact y1 q hq x hb
        · have d0 : (set >>> (a &&& 31)) &&& 1 = 0 := (bit01 _).resolve_right d
          simp only [if_neg d, if_pos d0]
          rw [canLook_eq h h1.1 c2]
          by_cases e : f_X6_canLook mg 1 a = 0
          · simp only [if_pos e]
            rcases ih m b (a + 1) n1 n2 with ⟨⟨q, y1, y2, y3⟩, y⟩ | ⟨y1, y⟩
            · exact Or.inl ⟨⟨q, y1, by omega, y3⟩, y⟩
            · refine Or.inr ⟨fun q hq ha hb => ?_, y⟩
              rcases nx q ha with rfl | x
              · exact absurd hb d
              · exact y1 q hq x hb
          · simp only [if_neg e]
            rcases ih m (b + 1) (a + 1) n1 n2 with ⟨⟨q, y1, y2, y3⟩, y⟩ | ⟨y1, y⟩
            · exact Or.inl ⟨⟨q, y1, by omega, y3⟩, y⟩
            · refine Or.inr ⟨fun q hq ha hb => ?_, y⟩
              rcases nx q ha with rfl | x
              · exact absurd hb d
              · exact y1 q hq x hb
theorem shl_in {x : Int32} (h0 : 0 ≤ x.toInt) (h8 : x.toInt ≤ 8) : 1 ≤ ((1 : Int32) <<< (x &&& 31)).toInt ∧ ((1 : Int32) <<< (x &&& 31)).toInt ≤ 256 := by
  have key : ∀ i : Fin 9, 1 ≤ ((1 : Int32) <<< (nI i &&& 31)).toInt ∧ ((1 : Int32) <<< (nI i &&& 31)).toInt ≤ 256 := by decide +kernel
  obtain ⟨j, hj, rfl⟩ := nn_of h0
  rw [nI_toInt hj] at h8
  exact key ⟨j, by omega⟩
theorem eq_seen (h : FR cg 0 mg 1) (r : RB mg 1) (set : Int32) : f_X5_seen cg set = f_X6_seen mg set := by
  have h8 := h.2.2.2.1
  have e0 : (0 : Int32).toInt = 0 := rfl
  have sh := shl_in h8.1 h8.2
  have sm : ((1 : Int32) <<< (mg 1 0 &&& 31) - 1).toInt = ((1 : Int32) <<< (mg 1 0 &&& 31)).toInt - 1 := sz_m1 (by omega)
  unfold f_X5_seen f_X6_seen f_X6_isIn
  rw [h.z]
  by_cases a : set < 0
  · rw [if_pos a, if_pos a, if_pos rfl]
  · rw [if_neg a, if_neg a]
    by_cases b : set < (1 : Int32) <<< (mg 1 0 &&& 31)
    · have b2 := i_lt.mp b
      have k2 : ¬ (1 : Int32) <<< (mg 1 0 &&& 31) - 1 < set := fun q => by have := i_lt.mp q; omega
      rw [if_pos b, if_neg k2, if_neg (by decide : ¬ (1 : Int32) = 0)]
      rw [sn_24 set 10 0 0 h.l10]
      -- is there one outside who can look?
      have pn : ∀ p : Int32, PI mg p → (0 : Int32).toInt ≤ p.toInt := fun p hp => by have := hp.1; omega
      by_cases hE : ∃ q, PI mg q ∧ BT set q = 0 ∧ ¬ f_X6_canLook mg 1 q = 0
      · obtain ⟨q, hq, q0, ql⟩ := hE
        have oe : ∀ p, PI mg p → BT set p = 1 → (f_X5_canEatWatchedFromOutside cg p set = 0 ↔ (mg 1 1 = 0 ∨ mg 1 (ix (f_X6_of p 2)) = 0)) := fun p hp hb => by
          rcases out_L h set hp 9 0 h.l9 with ⟨⟨q2, y1, y2, y3, y4⟩, y⟩ | ⟨y1, y⟩
          · have y' : f_X5_canEatWatchedFromOutside cg p set = 1 := y
            rw [y']
            obtain ⟨_, c1, c2, _⟩ := canEat_1 y4
            exact ⟨fun x => absurd x (by decide), fun x => by
              rcases x with x | x
              · rw [x] at c1; exact absurd c1 (by decide)
              · rw [x] at c2; exact absurd c2 (by decide)⟩
          · have y' : f_X5_canEatWatchedFromOutside cg p set = 0 := y
            rw [y']
            refine ⟨fun _ => ?_, fun _ => rfl⟩
            by_cases s : mg 1 1 = 0
            · exact Or.inl s
            · right
              by_cases u : mg 1 (ix (f_X6_of p 2)) = 0
              · exact u
              · exfalso
                have z := y1 q hq (pn q hq) q0
                have s2 := ne_toInt s
                have u2 := ne_toInt u
                have s3 := r.2.1.1
                have u3 := (r.h hp.1 hp.2).1
                unfold f_X6_canEat at z
                rw [if_neg (fun x : p = q => by rw [x, q0] at hb; exact absurd hb (by decide)), if_neg (fun x => by have := i_le.mp x; omega), if_neg (fun x => by have := i_le.mp x; omega), if_neg ql] at z
                exact absurd z (by decide)
        rcases sn_23 h set 9 10 0 0 h.l9 h.l10 with ⟨⟨p, y1, y2, y3, y4⟩, y⟩ | ⟨y1, y⟩
        · rw [y]
          rcases sn_69 (mg := mg) set 10 (sn_c mg set 10 0 0) 0 h.l10 with ⟨_, x⟩ | ⟨x1, _⟩
          · exact x.symm
          · have := x1 p y1 y2 y3
            rcases (oe p y1 y3).mp y4 with z | z
            · exact absurd z this.1
            · exact absurd z this.2
        · rw [y]
          rcases sn_69 (mg := mg) set 10 (sn_c mg set 10 0 0) 0 h.l10 with ⟨⟨p, x1, x2, x3, x4⟩, _⟩ | ⟨_, x⟩
          · exact absurd ((oe p x1 x3).mpr x4) (y1 p x1 x2 x3)
          · exact x.symm
      · have ce := sn_cE (mg := mg) set (fun p hp hb => by
          by_cases x : f_X6_canLook mg 1 p = 0
          · exact x
          · exact absurd ⟨p, hp, hb, x⟩ hE) 10 0 0 h.l10
        have l0 : f_X6_seen_69 mg set 10 (sn_c mg set 10 0 0) 0 = 0 := by
          rcases sn_69 (mg := mg) set 10 (sn_c mg set 10 0 0) 0 h.l10 with ⟨_, x⟩ | ⟨_, x⟩
          · exact x
          · rw [x, ce]
        rw [l0]
        rcases sn_23 h set 9 10 0 0 h.l9 h.l10 with ⟨_, y⟩ | ⟨_, y⟩
        · exact y
        · rw [y, ce]
    · have b2 : ¬ set.toInt < ((1 : Int32) <<< (mg 1 0 &&& 31)).toInt := fun q => b (i_lt.mpr q)
      have k2 : (1 : Int32) <<< (mg 1 0 &&& 31) - 1 < set := i_lt.mpr (by omega)
      rw [if_neg b, if_pos k2, if_pos rfl]
end FRS2
