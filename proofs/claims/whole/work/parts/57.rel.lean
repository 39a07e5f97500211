section FRP2
variable {cg mg mb m c : Mem} {d : Int32} {t k : Nat}
theorem there_t (h : FR c t m 1) {p : Int32} : f_X0_isThere c t p = f_X6_isPerson m p := by
  unfold f_X0_isThere f_X6_isPerson f_X6_isIn
  have e := sz_m1 h.2.2.2.1.1
  rw [h.1]
  by_cases a : p < 0
  · rw [if_pos a, if_pos a]
  · rw [if_neg a, if_neg a]
    by_cases b : m 1 0 ≤ p
    · rw [if_pos b, if_pos (i_lt.mpr (by have := i_le.mp b; omega))]
    · rw [if_neg b, if_neg (fun q => by have := i_lt.mp q; have := lt_of_nle b; omega)]
theorem in_t (h : FR c t m 1) {p : Int32} (a : ¬ f_X6_isPerson m p = 0) : 0 ≤ p.toInt ∧ p.toInt < (m 1 0).toInt := FR_in h (by rw [there_t h]; exact a)
theorem canEat_t (h : FR c t m 1) (x y : Int32) : f_X0_canEat c t x y = if f_X6_isPerson m x = 0 then 0 else if f_X6_isPerson m y = 0 then 0 else f_X6_canEat m 1 x y := by
  have ex := there_t h (p := x)
  have ey := there_t h (p := y)
  by_cases a : f_X6_isPerson m x = 0
  · rw [if_pos a]
    unfold f_X0_canEat f_X0_areTwo
    rw [ex, if_pos a, if_pos rfl]
  · rw [if_neg a]
    by_cases b : f_X6_isPerson m y = 0
    · rw [if_pos b]
      unfold f_X0_canEat f_X0_areTwo
      rw [ex, ey, if_neg a, if_pos b, if_pos rfl]
    · rw [if_neg b]
      obtain ⟨p0, p1⟩ := in_t h a
      obtain ⟨q0, q1⟩ := in_t h b
      exact canEat_eq h p0 p1 q0 q1
theorem RB_adds {g : Mem} {w p1 p2 p3 : Int32} (r : RB g k) (n8 : (g k 0).toInt ≤ 8) (hw : vp_in w 8) (a1 : 0 ≤ p1.toInt ∧ p1.toInt ≤ 9) (a2 : 0 ≤ p2.toInt ∧ p2.toInt ≤ 30) (a3 : 0 ≤ p3.toInt ∧ p3.toInt ≤ 30) : RB (f_X6_adds g k w p1 p2 p3) k := by
  have hp : vp_in (g k 0) 9 := vin_of r.1.1 (by omega)
  have x2 := ix_toInt r.1.1
  have hw2 := vp_in_iff.mp hw
  have key : ∀ j : Nat, j ≠ 0 → f_X6_adds g k w p1 p2 p3 k j = f_X6_adds_m6 g k w p1 p2 p3 k j := fun j hj => up_ne (Or.inr hj)
  have z : f_X6_adds g k w p1 p2 p3 k 0 = g k 0 + 1 := by
    show up (f_X6_adds_m6 g k w p1 p2 p3) k 0 (f_X6_adds_m6 g k w p1 p2 p3 k 0 + 1) k 0 = _
    rw [up_eq, ad_o hp (Or.inl (by omega))]
  have zi : (g k 0 + 1).toInt = (g k 0).toInt + 1 := add1_toInt r.1.1 (by omega)
  refine ⟨by rw [z, zi]; have := r.1.1; omega, by rw [key 1 (by decide), ad_o hp (Or.inl (by omega))]; exact r.2.1, fun i hi c hc => ?_⟩
  rw [z, zi] at hi
  rw [key _ (by omega)]
  by_cases x : i = ix (g k 0)
  · subst x
    have e0 : (0 : Int32).toInt = 0 := rfl
    have : c = 0 ∨ c = 1 ∨ c = 2 ∨ c = 3 ∨ c = 4 ∨ c = 5 := by omega
    rcases this with rfl | rfl | rfl | rfl | rfl | rfl
    · rw [Nat.add_zero, ad_0 hp]
      exact ⟨hw2.1, by have : bnd 0 = 7 := rfl; omega⟩
    · rw [ad_1 hp]; exact a1
    · rw [ad_2 hp]; exact a2
    · rw [ad_3 hp]; exact a3
    · rw [ad_4 hp]; decide
    · rw [ad_5 hp]; decide
  · have q := r.2.2 i (by omega) c hc
    rw [ad_o hp (Or.inl (by omega))]
    exact q
/-- the trial of the class and the reference's fete are the same -/
def FT (c m : Mem) : Prop := FR c 2 m 1 ∧ RB m 1 ∧ 0 ≤ (m 1 2).toInt ∧ (m 1 2).toInt ≤ 999
theorem FT_row {m2 : Mem} (e : m2 1 = m 1) (h : FT c m) : FT c m2 := by
  obtain ⟨a, b, z⟩ := h
  exact ⟨FR_row e a, RB_row e b, by rw [e]; exact z⟩
theorem at_NX (h : NX cg c) {D : Nat} (hD : D < 8) (i : Int32) : f_X4_at c D i = f_X4_at cg D i := by
  have e1 : c (24 + D) = cg (24 + D) := funext fun f => h _ f (by unfold nx; omega)
  have e2 : c (32 + D) = cg (32 + D) := funext fun f => h _ f (by unfold nx; omega)
  unfold f_X4_at f_X4_hasPlace
  rw [e1, e2]
section TL
variable (s : SRs cg mg) (c0 : f_X6_wrongRow mg d (-1) = 0) (hx : NX cg c)
theorem at_Txc (s : SRs cg mg) (c0 : f_X6_wrongRow mg d (-1) = 0) (hx : NX cg c) {j : Nat} (hj : j < 1000) : f_X4_at c (ix d) (nI j) = Tx mg d j := by
  rw [at_NX hx (vin_lt (row_2 s c0).1)]
  exact at_Tx s c0 hj
theorem one_Tx (s : SRs cg mg) (c0 : f_X6_wrongRow mg d (-1) = 0) (hx : NX cg c) {j : Nat} (hj : j < 900) : f_X4_digitAt c (ix d) (nI j) = on mg d j := by
  unfold f_X4_digitAt on
  rw [at_Txc s c0 hx (by omega)]
theorem two_Tx (s : SRs cg mg) (c0 : f_X6_wrongRow mg d (-1) = 0) (hx : NX cg c) {j : Nat} (hj : j < 800) : f_X4_twoDigitsAt c (ix d) (nI j) = tw mg d j := by
  unfold f_X4_twoDigitsAt tw
  rw [nI_1, one_Tx s c0 hx (j := j) (by omega), one_Tx s c0 hx (j := j + 1) (by omega)]
end TL
theorem on_in {i : Nat} (h : ¬ dg mg d i = 0) : 0 ≤ (on mg d i).toInt ∧ (on mg d i).toInt ≤ 9 := by
  have h1 := isIn_in (show ¬ f_X6_isIn (Tx mg d i) 48 57 = 0 from h)
  have e48 : (48 : Int32).toInt = 48 := rfl
  have e57 : (57 : Int32).toInt = 57 := rfl
  unfold on
  rw [subS (by omega) (by omega), e48]
  omega
theorem tw_in {i : Nat} (h : ¬ dg mg d i = 0) (h2 : ¬ dg mg d (i + 1) = 0) : 0 ≤ (tw mg d i).toInt ∧ (tw mg d i).toInt ≤ 99 := by
  have a := on_in h
  have b := on_in h2
  have e10 : (10 : Int32).toInt = 10 := rfl
  have e : (10 * on mg d i : Int32).toInt = 10 * (on mg d i).toInt := by rw [mulS (by rw [e10]; omega) (by rw [e10]; omega), e10]
  unfold tw
  rw [addS (by omega) (by omega), e]
  omega
/-- told alike: both refuse and the reference leaves all, or both do it -/
def TD (c m : Mem) (r1 : Int32) (m1 : Mem) (r2 : Int32) (m2 : Mem) : Prop :=
  (r1 = 0 ∧ r2 = 0 ∧ m2 = m) ∨ (¬ r1 = 0 ∧ ¬ r2 = 0 ∧ FT m1 m2 ∧ ∀ r, r ≠ 1 → m2 r = m r)
theorem td_p {k f h w : Int32} (ft : FT c m) (f0 : 0 ≤ f.toInt ∧ f.toInt ≤ 9) (k0 : 0 ≤ k.toInt) (h0 : 0 ≤ h.toInt) (w0 : 0 ≤ w.toInt) (e0 : m 5 0 = k) (e1 : m 5 1 = f) (e2 : m 5 2 = h) (e3 : m 5 3 = w) : TD c m (r_X5_tellPerson c k f h w) (m_X5_tellPerson c k f h w) (r_X6_isDone m 112) (m_X6_isDone m 112) := by
  obtain ⟨a, b, z⟩ := ft
  have n1 : ¬ (1 : Int32) = 0 := by decide
  have i0 : (0 : Int32).toInt = 0 := rfl
  have i7 : (7 : Int32).toInt = 7 := rfl
  have i8 : (8 : Int32).toInt = 8 := rfl
  have i9 : (9 : Int32).toInt = 9 := rfl
  have i30 : (30 : Int32).toInt = 30 := rfl
  have e7 : (8 : Int32) - 1 = 7 := by decide
  have sz8 := a.2.2.2.1
  have esz : c (40 + 2) 1 = m 1 0 := a.1
  unfold r_X5_tellPerson m_X5_tellPerson f_X5_tellPerson r_X6_isDone m_X6_isDone f_X6_isDone f_X5_isKind f_X5_isFigure f_X5_isFeeling r_X0_takeIn m_X0_takeIn f_X0_takeIn
  rw [isWithin_eq, isWithin_eq, isWithin_eq, isWithin_eq, e7, e0, e1, e2, e3, esz, if_neg (by decide : ¬ (112 : Int32) = 99), if_pos rfl]
  by_cases a1 : (8 : Int32) ≤ k
  · have := i_le.mp a1
    have z1 : f_X6_isIn k 0 7 = 0 := by
      by_cases q : f_X6_isIn k 0 7 = 0
      · exact q
      · have := isIn_in q; omega
    rw [if_pos a1, if_pos z1]
    exact Or.inl ⟨rfl, rfl, rfl⟩
  · have a1b := lt_of_nle a1
    rw [if_neg a1, if_neg (isIn_1.mpr (by omega)), if_neg (isIn_1.mpr (by omega))]
    by_cases a2 : (30 : Int32) < h
    · have := i_lt.mp a2
      have z1 : f_X6_isIn h 0 30 = 0 := by
        by_cases q : f_X6_isIn h 0 30 = 0
        · exact q
        · have := isIn_in q; omega
      rw [if_pos a2, if_pos z1]
      exact Or.inl ⟨rfl, rfl, rfl⟩
    · have a2b : ¬ (30 : Int32).toInt < h.toInt := fun q => a2 (i_lt.mpr q)
      rw [if_neg a2, if_neg (isIn_1.mpr (by omega))]
      by_cases a3 : (30 : Int32) < w
      · have := i_lt.mp a3
        have z1 : f_X6_isIn w 0 30 = 0 := by
          by_cases q : f_X6_isIn w 0 30 = 0
          · exact q
          · have := isIn_in q; omega
        rw [if_pos a3, if_pos z1]
        exact Or.inl ⟨rfl, rfl, rfl⟩
      · have a3b : ¬ (30 : Int32).toInt < w.toInt := fun q => a3 (i_lt.mpr q)
        rw [if_neg a3, if_neg (isIn_1.mpr (by omega))]
        by_cases a4 : m 1 0 = 8
        · have l8 : ¬ m 1 0 < 8 := fun q => by have := i_lt.mp q; rw [a4] at this; omega
          rw [if_pos a4, if_neg l8, if_pos rfl]
          exact Or.inl ⟨rfl, rfl, rfl⟩
        · have hne := ne_toInt a4
          have l8 : m 1 0 < 8 := i_lt.mpr (by omega)
          have hw : vp_in k 8 := vin_of k0 (by omega)
          rw [if_neg a4, if_pos l8, if_neg n1]
          refine Or.inr ⟨n1, n1, ⟨FR_takeIn (by decide) a a4 hw, RB_adds b sz8.2 hw f0 ⟨h0, by omega⟩ ⟨w0, by omega⟩, ?_⟩, fun r hr => ?_⟩
          · show 0 ≤ (f_X6_adds m 1 k f h w 1 2).toInt ∧ (f_X6_adds m 1 k f h w 1 2).toInt ≤ 999
            rw [comes_keep (vin_of sz8.1 (by omega))]
            exact z
          · show f_X6_adds m 1 k f h w r = m r
            unfold f_X6_adds f_X6_adds_m7 f_X6_adds_m6 f_X6_adds_m5 f_X6_adds_m4 f_X6_adds_m3 f_X6_adds_m2 f_X6_adds_m1
            rw [up_row hr, up_row hr, up_row hr, up_row hr, up_row hr, up_row hr, up_row hr]
theorem td_c {v : Int32} (ft : FT c m) (v0 : 0 ≤ v.toInt ∧ v.toInt ≤ 99) (e0 : m 5 0 = v) : TD c m (r_X5_tellSlices c v) (m_X5_tellSlices c v) (r_X6_isDone m 99) (m_X6_isDone m 99) := by
  obtain ⟨a, b, z⟩ := ft
  have n1 : ¬ (1 : Int32) = 0 := by decide
  have i0 : (0 : Int32).toInt = 0 := rfl
  have i99 : (99 : Int32).toInt = 99 := rfl
  unfold r_X5_tellSlices m_X5_tellSlices f_X5_tellSlices r_X6_isDone m_X6_isDone f_X6_isDone f_X6_isDone_m1
  rw [isWithin_eq, if_neg (isIn_1.mpr (by omega)), if_pos rfl, e0]
  refine Or.inr ⟨n1, n1, ⟨FR_upS (by decide) a rfl, RB_up1 b v0, ?_⟩, fun r hr => up_row hr⟩
  show 0 ≤ (up m 1 1 v 1 2).toInt ∧ (up m 1 1 v 1 2).toInt ≤ 999
  rw [up_ne (Or.inr (by decide))]
  exact z
theorem td_h {p v : Int32} (ft : FT c m) (v0 : 0 ≤ v.toInt) (e0 : m 5 0 = p) (e1 : m 5 1 = v) : TD c m (r_X5_tellHunger c p v) (m_X5_tellHunger c p v) (r_X6_isDone m 104) (m_X6_isDone m 104) := by
  obtain ⟨a, b, z⟩ := ft
  have n1 : ¬ (1 : Int32) = 0 := by decide
  have i0 : (0 : Int32).toInt = 0 := rfl
  have i30 : (30 : Int32).toInt = 30 := rfl
  unfold r_X5_tellHunger m_X5_tellHunger f_X5_tellHunger r_X6_isDone m_X6_isDone f_X6_isDone f_X6_isDone_m2 f_X5_isFeeling
  rw [isWithin_eq, there_t a, if_neg (by decide : ¬ (104 : Int32) = 99), if_neg (by decide : ¬ (104 : Int32) = 112), if_neg (by decide : ¬ (104 : Int32) = 116), if_pos (rfl : (104 : Int32) = 104), e0, e1]
  by_cases q : f_X6_isPerson m p = 0
  · rw [if_pos q, if_pos q]
    exact Or.inl ⟨rfl, rfl, rfl⟩
  · rw [if_neg q, if_neg q]
    by_cases w : v ≤ 30
    · have w2 := i_le.mp w
      obtain ⟨p0, p1⟩ := in_t a q
      rw [if_pos w, if_neg (isIn_1.mpr (by omega))]
      have hv := (a.at p0 p1).2
      refine Or.inr ⟨n1, n1, ⟨?_, RB_up b p0 p1 vc2 ⟨v0, by show v.toInt ≤ 30; omega⟩, ?_⟩, fun r hr => up_row hr⟩
      · rw [of_2 hv]
        exact FR_up4 (by decide) a p0 p1 rfl
      · show 0 ≤ (up m 1 (ix (f_X6_of p 2)) v 1 2).toInt ∧ (up m 1 (ix (f_X6_of p 2)) v 1 2).toInt ≤ 999
        rw [of_2 hv, up_ne (Or.inr (by omega))]
        exact z
    · have w2 := lt_of_nle w
      have z1 : f_X6_isIn v 0 30 = 0 := by
        by_cases q : f_X6_isIn v 0 30 = 0
        · exact q
        · have := isIn_in q; omega
      rw [if_neg w, if_pos z1]
      exact Or.inl ⟨rfl, rfl, rfl⟩
theorem td_l {p v : Int32} (ft : FT c m) (v0 : 0 ≤ v.toInt) (e0 : m 5 0 = p) (e1 : m 5 1 = v) : TD c m (r_X5_tellWish c p v) (m_X5_tellWish c p v) (r_X6_isDone m 108) (m_X6_isDone m 108) := by
  obtain ⟨a, b, z⟩ := ft
  have n1 : ¬ (1 : Int32) = 0 := by decide
  have i0 : (0 : Int32).toInt = 0 := rfl
  have i30 : (30 : Int32).toInt = 30 := rfl
  unfold r_X5_tellWish m_X5_tellWish f_X5_tellWish r_X6_isDone m_X6_isDone f_X6_isDone f_X6_isDone_m3 f_X5_isFeeling
  rw [isWithin_eq, there_t a, if_neg (by decide : ¬ (108 : Int32) = 99), if_neg (by decide : ¬ (108 : Int32) = 112), if_neg (by decide : ¬ (108 : Int32) = 116), if_neg (by decide : ¬ (108 : Int32) = 104), e0, e1]
  by_cases q : f_X6_isPerson m p = 0
  · rw [if_pos q, if_pos q]
    exact Or.inl ⟨rfl, rfl, rfl⟩
  · rw [if_neg q, if_neg q]
    by_cases w : v ≤ 30
    · have w2 := i_le.mp w
      obtain ⟨p0, p1⟩ := in_t a q
      rw [if_pos w, if_neg (isIn_1.mpr (by omega))]
      have hv := (a.at p0 p1).2
      refine Or.inr ⟨n1, n1, ⟨?_, RB_up b p0 p1 vc3 ⟨v0, by show v.toInt ≤ 30; omega⟩, ?_⟩, fun r hr => up_row hr⟩
      · rw [of_3 hv]
        exact FR_up5 (by decide) a p0 p1 rfl
      · show 0 ≤ (up m 1 (ix (f_X6_of p 3)) v 1 2).toInt ∧ (up m 1 (ix (f_X6_of p 3)) v 1 2).toInt ≤ 999
        rw [of_3 hv, up_ne (Or.inr (by omega))]
        exact z
    · have w2 := lt_of_nle w
      have z1 : f_X6_isIn v 0 30 = 0 := by
        by_cases q : f_X6_isIn v 0 30 = 0
        · exact q
        · have := isIn_in q; omega
      rw [if_neg w, if_pos z1]
      exact Or.inl ⟨rfl, rfl, rfl⟩
theorem td_t {p q : Int32} (ft : FT c m) (e0 : m 5 0 = p) (e1 : m 5 1 = q) : (f_X0_mayTurn c 2 p q = 0 ∧ r_X6_isDone m 116 = 0 ∧ m_X6_isDone m 116 = m) ∨ (¬ f_X0_mayTurn c 2 p q = 0 ∧ ¬ r_X0_turn c 2 p q < 0 ∧ ¬ r_X6_isDone m 116 = 0 ∧ FT (m_X0_turn c 2 p q) (m_X6_isDone m 116) ∧ ∀ r, r ≠ 1 → m_X6_isDone m 116 r = m r) := by
  obtain ⟨a, b, z⟩ := ft
  have n1 : ¬ (1 : Int32) = 0 := by decide
  have i0 : (0 : Int32).toInt = 0 := rfl
  have i999 : (999 : Int32).toInt = 999 := rfl
  have e3 : c (40 + 2) 3 = m 1 2 := a.2.2.1
  unfold f_X0_mayTurn r_X6_isDone m_X6_isDone f_X6_isDone
  rw [canEat_t a, if_neg (by decide : ¬ (116 : Int32) = 99), if_neg (by decide : ¬ (116 : Int32) = 112), if_pos (rfl : (116 : Int32) = 116), e0, e1, e3]
  by_cases x : f_X6_isPerson m p = 0
  · rw [if_pos x, if_pos x, if_pos rfl]
    exact Or.inl ⟨rfl, rfl, rfl⟩
  · rw [if_neg x, if_neg x]
    by_cases y : f_X6_isPerson m q = 0
    · rw [if_pos y, if_pos y, if_pos rfl]
      exact Or.inl ⟨rfl, rfl, rfl⟩
    · rw [if_neg y, if_neg y]
      by_cases w : f_X6_canEat m 1 p q = 0
      · rw [if_pos w, if_pos w]
        exact Or.inl ⟨rfl, rfl, rfl⟩
      · rw [if_neg w, if_neg w]
        by_cases v : m 1 2 = 999
        · rw [if_pos v, if_pos (by rw [v]; decide)]
          exact Or.inl ⟨rfl, rfl, rfl⟩
        · have hne := ne_toInt v
          have v2 : ¬ (999 : Int32) ≤ m 1 2 := fun u => by have := i_le.mp u; omega
          obtain ⟨p0, p1⟩ := in_t a x
          obtain ⟨q0, q1⟩ := in_t a y
          have j := (b.joys p0 p1 q0 q1).2.2.2
          have je : r_X0_turn c 2 p q = f_X6_joysOf m 1 p q := joysOf_eq a p0 p1 q0 q1
          rw [if_neg v, if_neg v2]
          refine Or.inr ⟨n1, fun u => ?_, n1, ⟨FR_turn (by decide) a p0 p1 q0 q1, RB_turn b p0 p1 q0 q1 w, ?_⟩, fun r hr => turn_row hr⟩
          · rw [je] at u
            have := i_lt.mp u
            omega
          · have tt : (f_X6_turn_m6 m 1 p q 1 2).toInt = (m 1 2).toInt + 1 := by rw [turn_2 (a.at p0 p1).2 (a.at q0 q1).2, add1_toInt z.1 (by omega)]
            show 0 ≤ (f_X6_turn_m6 m 1 p q 1 2).toInt ∧ (f_X6_turn_m6 m 1 p q 1 2).toInt ≤ 999
            omega
/-- a statement is told to the class as to the reference -/
theorem td_all (s : SRs cg mg) (c0 : f_X6_wrongRow mg d (-1) = 0) (tx : TXd mg d) (hx : NX cg c) (ft : FT c m) {pl : Nat} (hp : pl ≤ 100) (gl : GL mg d pl) (al : ∀ i, 1 ≤ i → i ≤ DB mg d pl → ¬ dg mg d (pl + i) = 0) (nm : NUM mg d pl m) :
    TD c m (r_X5_tellStatement c (ix d) (nI pl)) (m_X5_tellStatement c (ix d) (nI pl)) (r_X6_isDone m (Hx mg d pl)) (m_X6_isDone m (Hx mg d pl)) := by
  have i2 : (2 : Int32) = nI 2 := by decide
  have i3 : (3 : Int32) = nI 3 := by decide
  have i5 : (5 : Int32) = nI 5 := by decide
  have o1 := one_Tx s c0 hx (j := pl + 1) (by omega)
  have o2 := one_Tx s c0 hx (j := pl + 2) (by omega)
  have t1 := two_Tx s c0 hx (j := pl + 1) (by omega)
  have t2 := two_Tx s c0 hx (j := pl + 2) (by omega)
  have t3 := two_Tx s c0 hx (j := pl + 3) (by omega)
  have t5 := two_Tx s c0 hx (j := pl + 5) (by omega)
  have a0 := at_Txc s c0 hx (j := pl) (by omega)
  have s1 : nI pl + 1 = nI (pl + 1) := nI_1 pl
  have s2 : nI pl + 2 = nI (pl + 2) := by rw [i2, nI_add]
  have s3 : nI pl + 3 = nI (pl + 3) := by rw [i3, nI_add]
  have s5 : nI pl + 5 = nI (pl + 5) := by rw [i5, nI_add]
  obtain ⟨n99, n104, n108, n112, n116⟩ := nm
  have dbe : DB mg d pl = ix (f_X5_digitsBehind (Tx mg d pl)) := rfl
  unfold r_X5_tellStatement m_X5_tellStatement f_X5_tellStatement
  rw [a0, s1, s2, s3, s5, o1, o2, t1, t2, t3, t5]
  by_cases c1 : Tx mg d pl = 99
  · have hh : Hx mg d pl = 99 := (hx_iff tx pl (by decide) (by decide)).mpr c1
    have db : DB mg d pl = 2 := by rw [dbe, c1]; decide
    rw [if_pos c1, hh]
    exact td_c ft (tw_in (al 1 (by omega) (by omega)) (al 2 (by omega) (by omega))) (n99 c1)
  · rw [if_neg c1]
    by_cases c2 : Tx mg d pl = 104
    · have hh : Hx mg d pl = 104 := (hx_iff tx pl (by decide) (by decide)).mpr c2
      have db : DB mg d pl = 3 := by rw [dbe, c2]; decide
      rw [if_pos c2, hh]
      exact td_h ft (tw_in (al 2 (by omega) (by omega)) (al 3 (by omega) (by omega))).1 (n104 c2).1 (n104 c2).2
    · rw [if_neg c2]
      by_cases c3 : Tx mg d pl = 108
      · have hh : Hx mg d pl = 108 := (hx_iff tx pl (by decide) (by decide)).mpr c3
        have db : DB mg d pl = 3 := by rw [dbe, c3]; decide
        rw [if_pos c3, hh]
        exact td_l ft (tw_in (al 2 (by omega) (by omega)) (al 3 (by omega) (by omega))).1 (n108 c3).1 (n108 c3).2
      · rw [if_neg c3]
        by_cases c4 : Tx mg d pl = 112
        · have hh : Hx mg d pl = 112 := (hx_iff tx pl (by decide) (by decide)).mpr c4
          have db : DB mg d pl = 6 := by rw [dbe, c4]; decide
          rw [if_pos c4, hh]
          exact td_p ft (on_in (al 2 (by omega) (by omega))) (on_in (al 1 (by omega) (by omega))).1 (tw_in (al 3 (by omega) (by omega)) (al 4 (by omega) (by omega))).1 (tw_in (al 5 (by omega) (by omega)) (al 6 (by omega) (by omega))).1 (n112 c4).1 (n112 c4).2.1 (n112 c4).2.2.1 (n112 c4).2.2.2
        · rw [if_neg c4]
          by_cases c5 : Tx mg d pl = 116
          · have hh : Hx mg d pl = 116 := (hx_iff tx pl (by decide) (by decide)).mpr c5
            rw [if_pos c5, hh]
            rcases td_t ft (n116 c5).1 (n116 c5).2 with ⟨x, y, z⟩ | ⟨x, x2, y, z, w⟩
            · rw [if_pos x]
              exact Or.inl ⟨rfl, y, z⟩
            · rw [if_neg x, if_neg x2]
              exact Or.inr ⟨(show ¬ (1 : Int32) = 0 by decide), y, z, w⟩
          · exfalso
            unfold GL f_X5_digitsBehind at gl
            rw [if_neg c1, if_neg c2, if_neg c3, if_neg c4, if_neg c5] at gl
            exact absurd gl (by decide)
end FRP2
