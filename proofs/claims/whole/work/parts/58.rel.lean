section FRP3
variable {cg mg mb m c : Mem} {d : Int32} {t t2 k k2 : Nat}
theorem FR_becomesC (ht : t < 3) (ht2 : t2 < 3) (hne : t ≠ t2) (h : FR cg t2 mg k) : FR (f_X0_becomes cg t t2) t mg k := by
  obtain ⟨e1, e2, e3, e4, e5⟩ := h
  obtain ⟨b1, b2, b3⟩ := bF_all (cg := cg) ht ht2 hne (by rw [e1]; exact e4)
  refine ⟨?_, ?_, ?_, e4, fun i hi => ?_⟩
  · rw [b3 1 (by decide) (by decide)]; exact e1
  · rw [b3 2 (by decide) (by decide)]; exact e2
  · rw [b3 3 (by decide) (by decide)]; exact e3
  · have hi2 := hi
    rw [← e1] at hi
    unfold PR
    rw [b2 i 0 hi (by decide), b2 i 1 hi (by decide), b2 i 2 hi (by decide), b2 i 3 hi (by decide), b2 i 4 hi (by decide), b2 i 5 hi (by decide), b2 i 6 hi (by decide), b2 i 7 hi (by decide)]
    exact e5 i hi2
theorem FR_copiesR (hk : k ≠ k2) (h : FR cg t mg k) : FR cg t (f_X6_copies mg k k2) k2 := by
  obtain ⟨e1, e2, e3, e4, e5⟩ := h
  refine ⟨?_, ?_, ?_, ?_, fun i hi => ?_⟩
  · rw [copies_i hk (by decide)]; exact e1
  · rw [copies_i hk (by decide)]; exact e2
  · rw [copies_i hk (by decide)]; exact e3
  · rw [copies_i hk (by decide)]; exact e4
  · rw [copies_i hk (by decide)] at hi
    have hi8 : i < 8 := by omega
    unfold PR
    rw [copies_i hk (by omega), copies_i hk (by omega), copies_i hk (by omega), copies_i hk (by omega), copies_i hk (by omega), copies_i hk (by omega)]
    exact e5 i hi
/-- now was written, and what counts for nothing between calls -/
theorem RI_fin (h : RI cg mg) (hc : ∀ q, 8 ≤ q → nx q → q ≠ 40 → c q = cg q) (hi : In c) (hm : ∀ r, r = 3 ∨ (8 ≤ r ∧ r ≤ 13) → m r = mg r) (h4 : m 0 4 = mg 0 4) (h1 : FR c 0 m 1) (h2 : RB m 1) (h3 : TB m) : RI c m := by
  obtain ⟨⟨_, hs, hh, hj⟩, _, hM, hY⟩ := h
  refine ⟨⟨⟨h1, h2, h3⟩, SRs_ext (fun q q1 q2 => hc q (by omega) (by unfold nx; omega) (by omega)) (fun r a b => hm r (Or.inr ⟨a, b⟩)) hs, ?_, fun q => ?_⟩, hi, ?_, BY_rows (hm 8 (by omega)) (hm 11 (by omega)) (hm 13 (by omega)) hY⟩
  · rw [hc 46 (by decide) (by unfold nx; omega) (by decide), h4]; exact hh
  · rw [h4] at q
    obtain ⟨j1, j2, j3⟩ := hj q
    have m3 := hm 3 (Or.inl rfl)
    refine ⟨FR_ext (fun i hi => hc _ (by omega) (by unfold nx; omega) (by omega)) (hc _ (by omega) (by unfold nx; omega) (by omega)) m3 j1, RB_row m3 j2, ?_⟩
    rw [m3]; exact j3
  · refine ⟨h1.2.2.2.1, ?_, ?_⟩
    · rw [hm 3 (Or.inl rfl)]; exact hM.2.1
    · rw [hm 12 (Or.inr ⟨by decide, by decide⟩)]; exact hM.2.2
/-- the text is being told: trial and fete, now and was -/
def JJ (cg mg c m : Mem) (d : Int32) (pl : Nat) : Prop := (NX cg c ∧ In c) ∧ FT c m ∧ (FR c 0 m 4 ∧ RB m 4 ∧ 0 ≤ (m 4 2).toInt ∧ (m 4 2).toInt ≤ 999) ∧ m 0 5 = nI pl ∧ TM mg m d ∧ (∀ r, r = 3 ∨ (8 ≤ r ∧ r ≤ 13) → m r = mg r) ∧ m 0 4 = mg 0 4
theorem JJ_fail (h : RI cg mg) {pl : Nat} {c2 m2 : Mem} (j : JJ cg mg c m d pl) (hc : NX c c2) (hi : In c2) (hm : ∀ r, r ≠ 0 → r ≠ 5 → m2 r = m r) (h4 : m2 0 4 = m 0 4) : RI c2 (f_X6_copies m2 4 1) := by
  obtain ⟨⟨j1, _⟩, _, ⟨j3, j4, j5⟩, _, _, j6, j7⟩ := j
  have e4 : m2 4 = m 4 := hm 4 (by decide) (by decide)
  have f4 : FR c2 0 m2 4 := FR_ext (fun i hi => funext fun f => hc _ f (by unfold nx; omega)) (funext fun f => hc _ f (by unfold nx; omega)) e4 j3
  refine RI_fin h (fun q q1 q2 q3 => funext fun f => (hc q f q2).trans (j1 q f q2)) hi (fun r hr => ?_) ?_ (FR_copiesR (by decide) f4) (RB_copies (by decide) (RB_row e4 j4)) ?_
  · rw [copies_row (by decide) (by omega), hm r (by omega) (by omega)]
    exact j6 r hr
  · rw [copies_o (by decide) (by decide), h4]; exact j7
  · unfold TB
    rw [copies_i (by decide) (by decide), e4]
    exact j5
theorem JJ_done (h : RI cg mg) {pl : Nat} (j : JJ cg mg c m d pl) : RI (f_X0_becomes c 0 2) m := by
  obtain ⟨⟨j1, j2⟩, ⟨f1, f2, f3⟩, _, _, _, j6, j7⟩ := j
  have b := bF_all (cg := c) (t := 0) (t2 := 2) (by decide) (by decide) (by decide) (by rw [f1.1]; exact f1.2.2.2.1)
  exact RI_fin h (fun q q1 q2 q3 => (b.1 q (by omega) (by omega)).trans (funext fun f => j1 q f q2)) (In_becomesF j2 (by decide) (by decide)) j6 j7 (FR_becomesC (by decide) (by decide) (by decide) f1) f2 f3
theorem nI_max (x : Int32) (h : 0 ≤ f_X5_digitsBehind x) : (if f_X5_digitsBehind x < 0 then 0 else f_X5_digitsBehind x) = nI (ix (f_X5_digitsBehind x)) := by
  rcases db_cases x with ⟨_, e, _, _⟩ | ⟨y, _⟩
  · rw [if_neg (fun q => by have := i_lt.mp q; have := i_le.mp h; omega)]
    exact e
  · exact absurd h y
theorem P2 (h : RI cg mg) (c0 : f_X6_wrongRow mg d (-1) = 0) (tx : TXd mg d) : ∀ (n k F pl : Nat) (a2 b3 : Int32) (c m : Mem), JJ cg mg c m d pl → pl ≤ 108 → (mg 12 (ix d)).toInt.toNat - pl < n → (mg 12 (ix d)).toInt.toNat - pl < k → ((pl : Int) < (mg 12 (ix d)).toInt → FO mg d F pl ∧ b3 = a2 + nI (CN mg d F pl)) → (¬ (pl : Int) < (mg 12 (ix d)).toInt → b3 = a2) →
    (f_X5_tellStatements_15 cg (ix d) n a2 (nI pl) c).1 = (f_X6_fete_93 mg d k b3 0 m).1 ∧ RI (f_X5_tellStatements_15 cg (ix d) n a2 (nI pl) c).2 (f_X6_fete_93 mg d k b3 0 m).2 := by
  have s := h.1.2.1
  have hl := tx.2.1
  intro n
  induction n with
  | zero => intro k F pl a2 b3 c m _ _ hn; exact absurd hn (Nat.not_lt_zero _)
  | succ n ih =>
    intro k F pl a2 b3 c m j hp hn hk hF hb
    cases k with
    | zero => exact absurd hk (Nat.not_lt_zero _)
    | succ k =>
      have j0 := j
      obtain ⟨⟨j1, j2⟩, ft, j3, j5, tm, j6, j7⟩ := j
      have ec5 : c (24 + ix d) 5 = mg 12 (ix d) := by
        rw [j1 (24 + ix d) 5 (by have := vin_lt tx.1; unfold nx; omega)]
        exact (row_2 s c0).2.2.1
      have ep : (nI pl).toInt = pl := nI_toInt (by omega)
      rw [f_X5_tellStatements_15, f_X6_fete_93, ec5, tm.2.1, j5, if_pos (rfl : (0 : Int32) = 0)]
      by_cases cc : mg 12 (ix d) ≤ nI pl
      · have c2 := i_le.mp cc
        simp only [if_pos cc, if_true]
        rw [hb (by omega)]
        exact ⟨rfl, JJ_done h j0⟩
      · have c2 := lt_of_nle cc
        simp only [if_neg cc]
        obtain ⟨fo, hb3⟩ := hF (by omega)
        cases F with
        | zero => exact absurd fo id
        | succ F =>
          obtain ⟨gl, al, tt, nx2⟩ := fo
          have ps : PS m m pl := ⟨fun _ _ _ _ => rfl, j5⟩
          have d6 : DB mg d pl ≤ 6 := by
            rcases db_cases (Tx mg d pl) with ⟨_, _, _, y⟩ | ⟨x, _⟩
            · exact y
            · exact absurd gl x
          have out := RS_out tx tm (by omega) ps
          rw [here_Hx tx tm (by omega) ps]
          rcases out with ⟨gl2, _⟩ | ⟨_, out⟩
          · exact absurd gl gl2
          · rcases out with ⟨i, i1, i2, _, i4, _⟩ | ⟨_, out⟩
            · exact absurd i4 (al i i1 i2)
            · rcases out with ⟨t2, _⟩ | ⟨_, _, hm, nm⟩
              · exact absurd tt t2
              · have er : ∀ r, r ≠ 0 → r ≠ 5 → m_X6_readsStatement m r = m r := fun r h0 h5 => funext fun f => hm.1 r f h5 (by omega)
                have e04 : ∀ f, f ≠ 5 → m_X6_readsStatement m 0 f = m 0 f := fun f hf => hm.1 0 f (by decide) (by omega)
                have ft2 : FT c (m_X6_readsStatement m) := FT_row (er 1 (by decide) (by decide)) ft
                have td := td_all s c0 tx j1 ft2 (by omega) gl al nm
                have nxt := NX_tellStatement j2 (d := ix d) (a := nI pl)
                have int := In_tellStatement j2 (d := ix d) (a := nI pl)
                generalize m_X6_readsStatement m = m1 at *
                rcases td with ⟨r1, r2, r3⟩ | ⟨r1, r2, r3, r4⟩
                · simp only [if_pos r1, if_pos r2]
                  rw [r3]
                  have nz : ¬ (-2000 - nI pl : Int32) = 0 := fun z => by
                    have e2000 : (-2000 : Int32).toInt = -2000 := rfl
                    have e : (-2000 - nI pl : Int32).toInt = -2000 - pl := by rw [subS (by omega) (by omega), ep, e2000]
                    rw [z] at e
                    have e0 : (0 : Int32).toInt = 0 := rfl
                    omega
                  have hk2 : ∃ k2, k = k2 + 1 := ⟨k - 1, by omega⟩
                  obtain ⟨k2, rfl⟩ := hk2
                  rw [fete_93_f nz]
                  dsimp only
                  have fin := JJ_fail h j0 nxt int (fun r h0 h5 => er r h0 h5) (e04 4 (by decide))
                  exact ⟨rfl, fin⟩
                · simp only [if_neg r1, if_neg r2]
                  have atc : f_X4_at (m_X5_tellStatement c (ix d) (nI pl)) (ix d) (nI pl) = Tx mg d pl := at_Txc s c0 (j1.tr nxt) (by omega)
                  rw [atc, nI_max _ gl]
                  have i2 : (2 : Int32) = nI 2 := by decide
                  have ea : nI pl + (nI (ix (f_X5_digitsBehind (Tx mg d pl))) + 2) = nI (pl + DB mg d pl + 2) := by
                    rw [i2, nI_add, nI_add]
                    rw [show pl + (ix (f_X5_digitsBehind (Tx mg d pl)) + 2) = pl + DB mg d pl + 2 by unfold DB; omega]
                  rw [ea]
                  generalize hm2 : m_X6_isDone m1 (Hx mg d pl) = m2 at *
                  have row0 : m2 0 = m1 0 := r4 0 (by decide)
                  refine ih k F (pl + DB mg d pl + 2) (a2 + 1) b3 _ _ ⟨⟨j1.tr nxt, int⟩, r3, ?_, ?_, ?_, ?_, ?_⟩ (by omega) (by omega) (by omega) (fun f => ⟨nx2 f, ?_⟩) (fun f => ?_)
                  · have e4 : m2 4 = m 4 := (r4 4 (by decide)).trans (er 4 (by decide) (by decide))
                    obtain ⟨y1, y2, y3⟩ := j3
                    exact ⟨FR_ext (fun i hi => funext fun f => nxt _ f (by unfold nx; omega)) (funext fun f => nxt _ f (by unfold nx; omega)) e4 y1, RB_row e4 y2, by rw [e4]; exact y3⟩
                  · rw [row0]; exact hm.2
                  · refine ⟨?_, ?_, ?_⟩
                    · rw [row0, e04 6 (by decide)]; exact tm.1
                    · rw [row0, e04 7 (by decide)]; exact tm.2.1
                    · rw [r4 13 (by decide), er 13 (by decide) (by decide)]; exact tm.2.2
                  · intro r hr
                    rw [r4 r (by omega), er r (by omega) (by omega)]
                    exact j6 r hr
                  · rw [row0, e04 4 (by decide)]; exact j7
                  · rw [hb3, CN, if_pos f, ← nI_add, ← Int32.add_assoc]
                    rfl
                  · rw [hb3, CN, if_neg f]
                    rfl
theorem eq_fete (h : RI cg mg) (d : Int32) : (f_X5_fete cg d).1 = (f_X6_fete mg d).1 ∧ RI (f_X5_fete cg d).2 (f_X6_fete mg d).2 := by
  have s := h.1.2.1
  unfold f_X5_fete f_X6_fete
  rw [refusalR_eq s]
  by_cases c0 : f_X6_wrongRow mg d (-1) = 0
  · simp only [if_pos c0]
    obtain ⟨hd, e4, e5, hs, hl, he⟩ := row_2 s c0
    have ns : ¬ f_X6_isShelf d = 0 := fun q => by
      unfold f_X6_wrongRow at c0
      rw [if_pos q] at c0
      exact absurd c0 (by decide)
    have k2 : mg 8 (ix d) = 2 := (wrongRow_2 ns).mp c0
    have w0 : f_X6_wrongRow mg d 0 = if mg 11 (ix d) = 0 then 0 else -12 := by
      unfold f_X6_wrongRow
      rw [if_neg ns, k2, if_neg (by decide), if_pos rfl, if_neg (by decide)]
    rw [e4, w0]
    by_cases s0 : mg 11 (ix d) = 0
    · simp only [if_pos s0, if_true]
      have tx : TXd mg d := ⟨hd, hl, h.2.2.2 (ix d) (vin_lt hd) k2 s0⟩
      have tm : TM mg (f_X6_fete_m3 mg d) d := by
        unfold f_X6_fete_m3 f_X6_fete_m2 f_X6_fete_m1
        refine ⟨?_, ?_, ?_⟩
        · rw [up_ne (Or.inr (by decide)), up_ne (Or.inr (by decide)), up_eq]
        · rw [up_ne (Or.inr (by decide)), up_eq, up_ne (Or.inl (by decide))]
        · rw [up_row (by decide), up_row (by decide), up_row (by decide)]
      have rows : ∀ r, r ≠ 0 → f_X6_fete_m3 mg d r = mg r := fun r hr => by
        unfold f_X6_fete_m3 f_X6_fete_m2 f_X6_fete_m1
        rw [up_row hr, up_row hr, up_row hr]
      have m4 : f_X6_fete_m3 mg d 0 4 = mg 0 4 := by
        unfold f_X6_fete_m3 f_X6_fete_m2 f_X6_fete_m1
        rw [up_ne (Or.inr (by decide)), up_ne (Or.inr (by decide)), up_ne (Or.inr (by decide))]
      have ps : PS (f_X6_fete_m3 mg d) (f_X6_fete_m3 mg d) 0 := ⟨fun _ _ _ _ => rfl, by unfold f_X6_fete_m3; rw [up_eq]; rfl⟩
      have i0 : (0 : Int32) = nI 0 := by decide
      have p1 := P1 s c0 tx tm 102 102 0 0 _ ps (by decide) (by omega) (by omega)
      have unf : f_X5_placeOfBrokenForm cg (ix d) = f_X5_placeOfBrokenForm_2 cg (ix d) 102 (nI 0) := rfl
      rw [unf]
      rcases p1 with ⟨q, q1, q2, m2, q3, q4⟩ | ⟨q1, F, p2, m2, q2, q3, q4⟩
      · rw [q2, q4]
        have nq : ¬ nI q < 0 := fun z => by have := lt0_iff.mp z; rw [nI_toInt (by omega)] at this; omega
        simp only [if_neg nq]
        refine ⟨trivial, ?_⟩
        have er : ∀ r, r ≠ 0 → r ≠ 5 → m2 r = mg r := fun r h0 h5 => (funext fun f => q3.1 r f h5 (by omega)).trans (rows r h0)
        have eu : ∀ r, r ≠ 0 → r ≠ 4 → r ≠ 5 → up (f_X6_copies m2 1 4) 0 5 0 r = mg r := fun r h0 h4 h5 => by rw [up_row h0, copies_row (by decide) h4, er r h0 h5]
        obtain ⟨f1, f2, f3⟩ := h.1.1
        refine RI_fin h (fun _ _ _ _ => rfl) h.2.1 (fun r hr => eu r (by omega) (by omega) (by omega)) ?_ (FR_row (eu 1 (by decide) (by decide) (by decide)) f1) (RB_row (eu 1 (by decide) (by decide) (by decide)) f2) ?_
        · rw [up_ne (Or.inr (by decide)), copies_o (by decide) (by decide), q3.1 0 4 (by decide) (by decide)]; exact m4
        · unfold TB; rw [eu 1 (by decide) (by decide) (by decide)]; exact f3
      · rw [q1, q4, if_pos (by decide : (-4 : Int32) < 0)]
        unfold r_X5_tellStatements m_X5_tellStatements f_X5_tellStatements
        dsimp only
        rw [Int32.zero_add]
        have er : ∀ r, r ≠ 0 → r ≠ 5 → m2 r = mg r := fun r h0 h5 => (funext fun f => q3.1 r f h5 (by omega)).trans (rows r h0)
        have eu : ∀ r, r ≠ 0 → r ≠ 4 → r ≠ 5 → up (f_X6_copies m2 1 4) 0 5 0 r = mg r := fun r h0 h4 h5 => by rw [up_row h0, copies_row (by decide) h4, er r h0 h5]
        have e1 := er 1 (by decide) (by decide)
        obtain ⟨f1, f2, f3⟩ := h.1.1
        have nb := NX_becomes h.2.1
        have e04 : ∀ f, f ≠ 5 → up (f_X6_copies m2 1 4) 0 5 0 0 f = f_X6_fete_m3 mg d 0 f := fun f hf => by rw [up_ne (Or.inr hf), copies_o (by decide) (by decide), q3.1 0 f (by decide) (by omega)]
        have u4 : up (f_X6_copies m2 1 4) 0 5 0 4 = f_X6_copies m2 1 4 4 := up_row (by decide)
        have jj : JJ cg mg (f_X0_becomes cg 2 0) (up (f_X6_copies m2 1 4) 0 5 0) d 0 := by
          refine ⟨⟨nb, In_becomesF h.2.1 (by decide) (by decide)⟩, ⟨FR_becomesC (by decide) (by decide) (by decide) (FR_row (eu 1 (by decide) (by decide) (by decide)) f1), RB_row (eu 1 (by decide) (by decide) (by decide)) f2, ?_⟩, ⟨?_, ?_, ?_⟩, ?_, ⟨?_, ?_, ?_⟩, fun r hr => eu r (by omega) (by omega) (by omega), ?_⟩
          · rw [eu 1 (by decide) (by decide) (by decide)]; exact f3
          · exact FR_ext (fun i hi => funext fun f => nb _ f (by unfold nx; omega)) (funext fun f => nb _ f (by unfold nx; omega)) u4 (FR_copiesR (by decide) (FR_row e1 f1))
          · exact RB_row u4 (RB_copies (by decide) (RB_row e1 f2))
          · rw [u4, copies_i (by decide) (by decide), e1]; exact f3
          · rw [up_eq]; rfl
          · rw [e04 6 (by decide)]; exact tm.1
          · rw [e04 7 (by decide)]; exact tm.2.1
          · rw [eu 13 (by decide) (by decide) (by decide)]
          · rw [e04 4 (by decide)]; exact m4
        have nz : (0 : Int) < (mg 12 (ix d)).toInt ∨ ¬ (0 : Int) < (mg 12 (ix d)).toInt := Classical.em _
        have lpos : (0 : Int) < (mg 12 (ix d)).toInt := by
          rcases nz with z | z
          · exact z
          · exfalso
            cases F with
            | zero => exact q2
            | succ F =>
              have g := q2.1
              unfold GL Tx at g
              rw [if_neg (show ¬ ((0 : Nat) : Int) < (mg 12 (ix d)).toInt from z)] at g
              exact absurd g (by decide)
        have key := P2 h c0 tx 101 102 F 0 0 (nI (CN mg d F 0)) _ _ jj (by decide) (by omega) (by omega) (fun _ => ⟨q2, (Int32.zero_add _).symm⟩) (fun z => absurd lpos z)
        rw [← i0] at key
        exact key
    · simp only [if_neg s0]
      have n12 : ¬ (-12 : Int32) = 0 := by decide
      simp only [if_neg n12]
      exact ⟨trivial, h⟩
  · simp only [if_neg c0]
    have w0 : f_X6_wrongRow mg d 0 = f_X6_wrongRow mg d (-1) := by
      unfold f_X6_wrongRow at c0 ⊢
      by_cases a : f_X6_isShelf d = 0
      · rw [if_pos a, if_pos a]
      · rw [if_neg a] at c0 ⊢
        rw [if_neg a]
        by_cases b : mg 8 (ix d) = 0
        · rw [if_pos b, if_pos b]
        · rw [if_neg b] at c0 ⊢
          rw [if_neg b]
          by_cases e : mg 8 (ix d) = 2
          · rw [if_pos e, if_pos (by decide : (-1 : Int32) < 0)] at c0
            exact absurd rfl c0
          · rw [if_neg e, if_neg e]
    rw [w0]
    simp only [if_neg c0]
    exact ⟨trivial, h⟩
end FRP3
