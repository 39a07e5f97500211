section FRP1
variable {cg mg mb m : Mem} {d : Int32}
theorem at_Tx (s : SRs cg mg) (c0 : f_X6_wrongRow mg d (-1) = 0) {j : Nat} (hj : j < 1000) : f_X4_at cg (ix d) (nI j) = Tx mg d j := by
  obtain ⟨hd, _, e5, _, hl, he⟩ := row_2 s c0
  have ej : (nI j).toInt = j := nI_toInt (by omega)
  unfold f_X4_at f_X4_hasPlace Tx
  have g0 : ¬ nI j < 0 := fun q => by have := lt0_iff.mp q; omega
  rw [e5, if_neg g0]
  by_cases c : (j : Int) < (mg 12 (ix d)).toInt
  · have n1 : ¬ (1 : Int32) = 0 := by decide
    have g1 : ¬ mg 12 (ix d) ≤ nI j := fun q => by have := i_le.mp q; omega
    rw [if_pos c, if_neg g1, if_neg n1]
    have := he j (by omega)
    rw [show ix (nI j) = j from nI_clamp (by omega)]
    exact this
  · have g1 : mg 12 (ix d) ≤ nI j := i_le.mpr (by omega)
    rw [if_neg c, if_pos g1, if_pos rfl]
theorem db_cases (x : Int32) : (0 ≤ f_X5_digitsBehind x ∧ f_X5_digitsBehind x = nI (ix (f_X5_digitsBehind x)) ∧ 2 ≤ ix (f_X5_digitsBehind x) ∧ ix (f_X5_digitsBehind x) ≤ 6) ∨ (¬ 0 ≤ f_X5_digitsBehind x ∧ f_X5_digitsBehind x < 0) := by
  unfold f_X5_digitsBehind
  (repeat' split) <;> decide
/-- the form holds from a place on -/
def FO (mg : Mem) (d : Int32) : Nat → Nat → Prop
  | 0, _ => False
  | n + 1, pl => GL mg d pl ∧ (∀ i, 1 ≤ i → i ≤ DB mg d pl → ¬ dg mg d (pl + i) = 0) ∧ Tx mg d (pl + DB mg d pl + 1) = 59 ∧ (((pl + DB mg d pl + 2 : Nat) : Int) < (mg 12 (ix d)).toInt → FO mg d n (pl + DB mg d pl + 2))
/-- how many statements there are from a place on -/
def CN (mg : Mem) (d : Int32) : Nat → Nat → Nat
  | 0, _ => 0
  | n + 1, pl => 1 + if ((pl + DB mg d pl + 2 : Nat) : Int) < (mg 12 (ix d)).toInt then CN mg d n (pl + DB mg d pl + 2) else 0
theorem PB19 (s : SRs cg mg) (c0 : f_X6_wrongRow mg d (-1) = 0) {K : Int32 → Int32} {pl : Nat} (hp : pl ≤ 100) (gl : GL mg d pl) : ∀ (n b : Nat), 1 ≤ b → b ≤ DB mg d pl + 1 → DB mg d pl + 1 - b < n → (∀ i, 1 ≤ i → i < b → ¬ dg mg d (pl + i) = 0) →
    (∃ j, 1 ≤ j ∧ j ≤ DB mg d pl ∧ (∀ i, 1 ≤ i → i < j → ¬ dg mg d (pl + i) = 0) ∧ dg mg d (pl + j) = 0 ∧ f_X5_placeOfBrokenForm_19 cg (ix d) K (nI pl) n (nI b) = nI (pl + j)) ∨
    ((∀ i, 1 ≤ i → i ≤ DB mg d pl → ¬ dg mg d (pl + i) = 0) ∧ ((¬ Tx mg d (pl + DB mg d pl + 1) = 59 ∧ f_X5_placeOfBrokenForm_19 cg (ix d) K (nI pl) n (nI b) = nI (pl + DB mg d pl + 1)) ∨
      (Tx mg d (pl + DB mg d pl + 1) = 59 ∧ f_X5_placeOfBrokenForm_19 cg (ix d) K (nI pl) n (nI b) = if ((pl + DB mg d pl + 2 : Nat) : Int) < (mg 12 (ix d)).toInt then K (nI (pl + DB mg d pl + 2)) else -4))) := by
  have e5 := (row_2 s c0).2.2.1
  have dc : f_X5_digitsBehind (Tx mg d pl) = nI (DB mg d pl) ∧ DB mg d pl ≤ 6 := by
    rcases db_cases (Tx mg d pl) with ⟨_, x, _, y⟩ | ⟨x, _⟩
    · exact ⟨x, y⟩
    · exact absurd gl x
  intro n
  induction n with
  | zero => intro b _ _ h; exact absurd h (Nat.not_lt_zero _)
  | succ n ih =>
    intro b b1 b2 bn hb
    have a0 : f_X4_at cg (ix d) (nI pl) = Tx mg d pl := at_Tx s c0 (by omega)
    have i2 : (2 : Int32) = nI 2 := by decide
    rw [f_X5_placeOfBrokenForm_19, a0, dc.1, nI_add, nI_add, nI_1, i2, nI_add, nI_add, at_Tx s c0 (by omega), at_Tx s c0 (by omega), e5]
    by_cases c : nI (DB mg d pl) < nI b
    · have c2 := i_lt.mp c
      rw [nI_toInt (by omega), nI_toInt (by omega)] at c2
      rw [if_pos c]
      refine Or.inr ⟨fun i x y => hb i x (by omega), ?_⟩
      by_cases e : Tx mg d (pl + DB mg d pl + 1) = 59
      · rw [if_pos e]
        refine Or.inr ⟨e, ?_⟩
        rw [show pl + (DB mg d pl + 2) = pl + DB mg d pl + 2 by omega]
        by_cases f : ((pl + DB mg d pl + 2 : Nat) : Int) < (mg 12 (ix d)).toInt
        · rw [if_pos f, if_pos (i_lt.mpr (by rw [nI_toInt (by omega)]; exact f))]
        · rw [if_neg f, if_neg (fun q => by have := i_lt.mp q; rw [nI_toInt (by omega)] at this; exact f this)]
      · rw [if_neg e]
        exact Or.inl ⟨e, rfl⟩
    · have c2 : ¬ (nI (DB mg d pl)).toInt < (nI b).toInt := fun q => c (i_lt.mpr q)
      rw [nI_toInt (by omega), nI_toInt (by omega)] at c2
      rw [if_neg c]
      by_cases e : f_X5_isWithin (Tx mg d (pl + b)) 48 57 = 0
      · rw [if_pos e]
        exact Or.inl ⟨b, b1, by omega, hb, e, rfl⟩
      · rw [if_neg e]
        have nxt : ∀ i, 1 ≤ i → i < b + 1 → ¬ dg mg d (pl + i) = 0 := fun i x y => by
          by_cases z : i < b
          · exact hb i x z
          · have : i = b := by omega
            rw [this]; exact e
        rw [nI_1]
        exact ih (b + 1) (by omega) (by omega) (by omega) nxt
theorem fete_93_f {w b3 b4 : Int32} {n : Nat} {g : Mem} (h : ¬ b4 = 0) : f_X6_fete_93 mg w (n + 1) b3 b4 g = (b4, g) := by
  rw [f_X6_fete_93, if_neg h, if_neg h]
/-- the form: the place of the fault, or none and so many statements -/
theorem P1 (s : SRs cg mg) (c0 : f_X6_wrongRow mg d (-1) = 0) (tx : TXd mg d) (tm : TM mg mb d) : ∀ (n k pl : Nat) (a3 : Int32) (m : Mem), PS mb m pl → pl ≤ 100 → (mg 12 (ix d)).toInt.toNat - pl < n → (mg 12 (ix d)).toInt.toNat - pl < k →
    (∃ q : Nat, q ≤ 110 ∧ f_X5_placeOfBrokenForm_2 cg (ix d) n (nI pl) = nI q ∧ ∃ m2 : Mem, PS mb m2 q ∧ f_X6_fete_41 mg d k a3 m = (-1000 - nI q, up (f_X6_copies m2 1 4) 0 5 0)) ∨
    (f_X5_placeOfBrokenForm_2 cg (ix d) n (nI pl) = -4 ∧ ∃ (F p2 : Nat) (m2 : Mem), FO mg d F pl ∧ PS mb m2 p2 ∧ f_X6_fete_41 mg d k a3 m = f_X6_fete_93 mg d 102 (a3 + nI (CN mg d F pl)) 0 (up (f_X6_copies m2 1 4) 0 5 0)) := by
  have hl := tx.2.1
  intro n
  induction n with
  | zero => intro k pl a3 m _ _ h; exact absurd h (Nat.not_lt_zero _)
  | succ n ih =>
    intro k pl a3 m hps hp hn hk
    cases k with
    | zero => exact absurd hk (Nat.not_lt_zero _)
    | succ k =>
      have a0 : f_X4_at cg (ix d) (nI pl) = Tx mg d pl := at_Tx s c0 (by omega)
      have nz : ∀ q : Nat, q ≤ 110 → ¬ (-1000 - nI q : Int32) = 0 := fun q hq z => by
        have e : (-1000 - nI q : Int32).toInt = -1000 - q := by
          have e1000 : (-1000 : Int32).toInt = -1000 := rfl
          rw [subS (by rw [nI_toInt (by omega)]; omega) (by rw [nI_toInt (by omega)]; omega), nI_toInt (by omega)]
          omega
        rw [z] at e
        have e0 : (0 : Int32).toInt = 0 := rfl
        omega
      have fail : ∀ q : Nat, q ≤ 110 → r_X6_readsStatement m = 0 → PS mb (m_X6_readsStatement m) q → f_X6_fete_41 mg d (k + 1) a3 m = (-1000 - nI q, up (f_X6_copies (m_X6_readsStatement m) 1 4) 0 5 0) := fun q hq hr hm => by
        rw [f_X6_fete_41, if_pos hr, hm.2, fete_93_f (nz q hq)]
        rfl
      have out := RS_out tx tm hp hps
      rw [f_X5_placeOfBrokenForm_2, a0]
      rcases out with ⟨gl, hr, hm⟩ | ⟨gl, out⟩
      · have gl2 : ¬ 0 ≤ f_X5_digitsBehind (Tx mg d pl) := gl
        rw [if_neg gl2]
        exact Or.inl ⟨pl, by omega, rfl, _, hm, fail pl (by omega) hr hm⟩
      · have gl2 : 0 ≤ f_X5_digitsBehind (Tx mg d pl) := gl
        have d6 : DB mg d pl ≤ 6 := by
          rcases db_cases (Tx mg d pl) with ⟨_, _, _, y⟩ | ⟨x, _⟩
          · exact y
          · exact absurd gl x
        rw [if_pos gl2]
        have i1 : (1 : Int32) = nI 1 := by decide
        have pb := PB19 s c0 (K := fun a1' => f_X5_placeOfBrokenForm_2 cg (ix d) n a1') hp gl 8 1 (by omega) (by omega) (by omega) (fun i x y => by omega)
        rw [← i1] at pb
        rcases out with ⟨j, j1, j2, j3, j4, hr, hm⟩ | ⟨al, out⟩
        · rcases pb with ⟨j', y1, y2, y3, y4, y5⟩ | ⟨al, _⟩
          · have : j' = j := by
              by_cases lt : j' < j
              · exact absurd y4 (j3 j' y1 lt)
              · by_cases gt : j < j'
                · exact absurd j4 (y3 j j1 gt)
                · omega
            subst this
            rw [y5]
            exact Or.inl ⟨pl + j', by omega, rfl, _, hm, fail _ (by omega) hr hm⟩
          · exact absurd j4 (al j j1 j2)
        · rcases pb with ⟨j', y1, y2, y3, y4, y5⟩ | ⟨_, pb⟩
          · exact absurd y4 (al j' y1 y2)
          · rcases out with ⟨t, hr, hm⟩ | ⟨t, hr, hm, _⟩
            · rcases pb with ⟨_, y⟩ | ⟨t2, _⟩
              · rw [y]
                exact Or.inl ⟨_, by omega, rfl, _, hm, fail _ (by omega) hr hm⟩
              · exact absurd t2 t
            · rcases pb with ⟨t2, _⟩ | ⟨_, y⟩
              · exact absurd t t2
              · rw [y, f_X6_fete_41, hr, if_neg (by decide : ¬ (1 : Int32) = 0), hm.2]
                have e7 : m_X6_readsStatement m 0 7 = mg 12 (ix d) := (hm.1 0 7 (by decide) (by decide)).trans tm.2.1
                rw [e7]
                by_cases f : ((pl + DB mg d pl + 2 : Nat) : Int) < (mg 12 (ix d)).toInt
                · rw [if_pos f, if_pos (i_lt.mpr (by rw [nI_toInt (by omega)]; exact f))]
                  rcases ih k (pl + DB mg d pl + 2) (a3 + 1) _ hm (by omega) (by omega) (by omega) with ⟨q, q1, q2, q3⟩ | ⟨q1, F, p2, m2, q2, q3, q4⟩
                  · exact Or.inl ⟨q, q1, q2, q3⟩
                  · refine Or.inr ⟨q1, F + 1, p2, m2, ⟨gl, al, t, fun _ => q2⟩, q3, ?_⟩
                    rw [q4, CN, if_pos f, ← nI_add, Int32.add_assoc]
                    rfl
                · rw [if_neg f, if_neg (fun q => by have := i_lt.mp q; rw [nI_toInt (by omega)] at this; exact f this)]
                  refine Or.inr ⟨rfl, 1, _, _, ⟨gl, al, t, fun z => absurd z f⟩, hm, ?_⟩
                  rw [CN, if_neg f]
                  rfl
end FRP1
