section PU
variable {cg mg : Mem}
theorem PX_pt {J : Nat → Nat → Int} {i : Nat} : ∀ (k l : Nat) (L : List Nat) (w w2 : Nat → Int32), w i = w2 i → PX J k l L w i = PX J k l L w2 i := by
  intro k
  induction k with
  | zero => intro l L w w2 h; exact h
  | succ k ih =>
    intro l L w w2 h
    cases L with
    | nil => rw [PX_nil, PX_nil]; exact h
    | cons p R =>
      have up1 : ∀ (q : Nat) (v : Int32), upd w q v i = upd w2 q v i := fun q v => by
        unfold upd
        by_cases x : i = q
        · rw [if_pos x, if_pos x]
        · rw [if_neg x, if_neg x]; exact h
      cases l with
      | zero => rw [PX, PX]; exact ih 0 R w w2 h
      | succ l =>
        rw [PX, PX]
        cases R.find? (fun q => decide (cnd (J p q) (PV J k l (R.erase q)) = PV J (k + 1) (l + 1) (p :: R))) with
        | some q => exact ih l _ _ _ (up1 _ _)
        | none =>
          cases R.find? (fun q => decide (cnd (J q p) (PV J k l (R.erase q)) = PV J (k + 1) (l + 1) (p :: R))) with
          | some q => exact ih l _ _ _ (up1 _ _)
          | none => exact ih (l + 1) R w w2 h
/-- the first other, as the loop finds it -/
theorem fo_L2 {m : Mem} {N one f l e : Nat} (h48 : m 48 4 = nI N) (N8 : N ≤ 8) (hf : f < 256) (h1 : one < 8) : ∀ (j n a : Nat), a + j = N → j < n →
    f_X2_firstOther_28 m (nI one) (nI f) (nI l) (if e = 0 then 0 else 1) n (nI a) = match (fl (fun i => (er f one).testBit i) j a).find? (fun q => decide ((if e = 0 then f_X2_joysIfPaired m (nI q) (nI one) (nI (er f one)) (nI l) else f_X2_joysIfPaired m (nI one) (nI q) (nI (er f one)) (nI l)) = m 51 (ix (nI l * 256 + nI f)))) with | some q => nI q | none => -4 := by
  intro j
  induction j with
  | zero =>
    intro n a ha hn
    obtain ⟨k, rfl⟩ : ∃ k, n = k + 1 := ⟨n - 1, by omega⟩
    rw [f_X2_firstOther_28, h48, if_pos (nI_le (by omega) (by omega))]
    rfl
  | succ j ih =>
    intro n a ha hn
    obtain ⟨k, rfl⟩ : ∃ k, n = k + 1 := ⟨n - 1, by omega⟩
    have e2 := er_i hf h1
    rw [f_X2_firstOther_28, h48, if_neg (nI_ge (by omega) (by omega)), e2.1, bts (by omega) (by omega), nI_1, fl]
    by_cases c : (er f one).testBit a = true
    · rw [if_pos c, if_pos rfl, if_pos c, List.find?_cons]
      by_cases z : e = 0
      · rw [if_pos z, if_pos rfl, if_pos z]
        by_cases d : f_X2_joysIfPaired m (nI a) (nI one) (nI (er f one)) (nI l) = m 51 (ix (nI l * 256 + nI f))
        · rw [if_pos d, decide_eq_true d]
        · rw [if_neg d, decide_eq_false d]
          have := ih k (a + 1) (by omega) (by omega)
          rw [if_pos z] at this
          rw [this]
      · rw [if_neg z, if_neg (by decide : ¬ (1 : Int32) = 0), if_neg z]
        by_cases d : f_X2_joysIfPaired m (nI one) (nI a) (nI (er f one)) (nI l) = m 51 (ix (nI l * 256 + nI f))
        · rw [if_pos d, decide_eq_true d]
        · rw [if_neg d, decide_eq_false d]
          have := ih k (a + 1) (by omega) (by omega)
          rw [if_neg z] at this
          rw [this]
    · rw [if_neg c, if_neg (by decide : ¬ (0 : Int32) = 1), if_neg c]
      exact ih k (a + 1) (by omega) (by omega)
/-- the table is whole, up to S slices -/
def TBW (mg : Mem) (N S : Nat) (M : Mem) : Prop := M 48 4 = nI N ∧ (∀ p q : Nat, p < N → q < N → M 50 (8 * p + q) = jv mg p q) ∧ ∀ s2 f2 : Nat, s2 ≤ S → f2 < 2 ^ N → (M 51 (256 * s2 + f2)).toInt = PV (jo mg) 8 s2 (bl f2)
theorem TBW_49 {N S : Nat} {M m : Mem} (h : NK 49 M m) (t : TBW mg N S M) : TBW mg N S m := ⟨(h 48 4 (by decide)).trans t.1, fun p q a b => (h 50 _ (by decide)).trans (t.2.1 p q a b), fun s2 f2 a b => by rw [h 51 _ (by decide)]; exact t.2.2 s2 f2 a b⟩
/-- the first other is the one of the pure search -/
theorem fo_eq (r : RB mg 1) {N : Nat} (hN : mg 1 0 = nI N) (N8 : N ≤ 8) {S : Nat} (S4 : S ≤ 4) {m : Mem} (t : TBW mg N S m) {a f l e : Nat} (ha : a < N) (hf : f < 2 ^ N) (hl : l ≤ S) {R : List Nat} (hR : R = fl (fun i => f.testBit i) (N - (a + 1)) (a + 1)) (hb : bl f = a :: R) :
    (l = 0 → f_X2_firstOther m (nI a) (nI f) (nI l) (if e = 0 then 0 else 1) = -4) ∧ ∀ l2, l = l2 + 1 → f_X2_firstOther m (nI a) (nI f) (nI l) (if e = 0 then 0 else 1) = match R.find? (fun q => decide (cnd (if e = 0 then jo mg q a else jo mg a q) (PV (jo mg) 7 l2 (R.erase q)) = PV (jo mg) 8 (l2 + 1) (a :: R))) with | some q => nI q | none => -4 := by
  have p8 : 2 ^ N ≤ 2 ^ 8 := Nat.pow_le_pow_right (by decide) N8
  have e2 := er_i (f := f) (i := a) (by omega) (by omega)
  have R2 : fl (fun i => (er f a).testBit i) (N - (a + 1)) (a + 1) = R := by
    rw [hR]
    refine fl_congr _ _ (fun i i1 i2 => ?_)
    rw [er_t (by omega) (by omega) (by omega), decide_eq_true (show i ≠ a by omega), Bool.and_true]
  have hu : (er f a).testBit a = false := by rw [er_t (by omega) (by omega) (by omega)]; simp
  have br : bl (er f a) = R := by
    rw [er_bl (by omega) (by omega), hb, List.erase_cons_head]
  have lt := fo_L2 (m := m) (l := l) (e := e) t.1 N8 (show f < 256 by omega) (show a < 8 by omega) (N - (a + 1)) 9 (a + 1) (by omega) (by omega)
  rw [R2, ix256 (by omega) (by omega)] at lt
  have un : f_X2_firstOther m (nI a) (nI f) (nI l) (if e = 0 then 0 else 1) = f_X2_firstOther_28 m (nI a) (nI f) (nI l) (if e = 0 then 0 else 1) 9 (nI (a + 1)) := by
    unfold f_X2_firstOther
    rw [nI_1]
  rw [un, lt]
  have tv := t.2.2 l f hl hf
  have vn := PV_nn (J := jo mg) 8 l (bl f)
  have em : (-4 : Int32).toInt = -4 := rfl
  have mem : ∀ q, q ∈ R → q < N := fun q hq => bl_lt hf (by rw [hb]; exact List.mem_cons_of_mem _ hq)
  refine ⟨fun z => ?_, fun l2 z => ?_⟩
  · subst z
    have : R.find? (fun q => decide ((if e = 0 then f_X2_joysIfPaired m (nI q) (nI a) (nI (er f a)) (nI 0) else f_X2_joysIfPaired m (nI a) (nI q) (nI (er f a)) (nI 0)) = m 51 (256 * 0 + f))) = none := by
      refine List.find?_eq_none.mpr (fun q hq => ?_)
      have n4 : ∀ x y w, f_X2_joysIfPaired m x y w (nI 0) = -4 := fun x y w => by
        unfold f_X2_joysIfPaired
        rw [if_pos (by decide : nI 0 = 0), ite_self]
      rw [n4, n4, ite_self]
      intro h
      have h2 := of_decide_eq_true h
      rw [← h2] at tv
      omega
    rw [this]
  · subst z
    have fe : R.find? (fun q => decide ((if e = 0 then f_X2_joysIfPaired m (nI q) (nI a) (nI (er f a)) (nI (l2 + 1)) else f_X2_joysIfPaired m (nI a) (nI q) (nI (er f a)) (nI (l2 + 1))) = m 51 (256 * (l2 + 1) + f))) = R.find? (fun q => decide (cnd (if e = 0 then jo mg q a else jo mg a q) (PV (jo mg) 7 l2 (R.erase q)) = PV (jo mg) 8 (l2 + 1) (a :: R))) := by
      refine find_congr (fun q hq => ?_)
      have qN := mem q hq
      obtain ⟨g1, g2⟩ := erase2 (one := a) (q := q) (rest := er f a) (by omega) (by omega) (by omega) hu
      have e8 := er_bl (f := er f a) (i := q) (by omega) (by omega)
      rw [br] at e8
      have lq : (R.erase q).length ≤ 7 := Nat.le_trans List.length_erase_le (by rw [hR]; exact Nat.le_trans (fl_len _ _) (by omega))
      have tb : ∀ f2, f2 < 2 ^ N → (m 51 (256 * l2 + f2)).toInt = PV (jo mg) 8 l2 (bl f2) := fun f2 h2 => t.2.2 l2 f2 (by omega) h2
      have key : ∀ x y : Nat, (x = a ∧ y = q ∨ x = q ∧ y = a) → (f_X2_joysIfPaired m (nI x) (nI y) (nI (er f a)) (nI (l2 + 1)) = m 51 (256 * (l2 + 1) + f) ↔ cnd (jo mg x y) (PV (jo mg) 7 l2 (R.erase q)) = PV (jo mg) 8 (l2 + 1) (a :: R)) := fun x y hxy => by
        have xy : x < N ∧ y < N ∧ er (er (er f a) x) y = er (er f a) q := by
          rcases hxy with ⟨rfl, rfl⟩ | ⟨rfl, rfl⟩
          · exact ⟨ha, qN, g1⟩
          · exact ⟨qN, ha, g2⟩
        rw [hb] at tv vn
        rcases jip r hN N8 t.2.1 xy.1 xy.2.1 (show l2 < 4 by omega) (show er f a < 2 ^ N by omega) tb with ⟨a1, a2⟩ | ⟨a1, a2⟩
        · rw [a2, a1]
          have c1 : cnd (-1) (PV (jo mg) 7 l2 (R.erase q)) = -100000 := if_pos (by decide)
          rw [c1]
          refine ⟨fun h => ?_, fun h => by omega⟩
          rw [← h] at tv
          omega
        · rw [xy.2.2, e8, PV_k 8 7 l2 _ (by omega) lq] at a2
          have c1 : cnd (jo mg x y) (PV (jo mg) 7 l2 (R.erase q)) = jo mg x y + PV (jo mg) 7 l2 (R.erase q) := if_neg (by omega)
          rw [c1]
          exact ⟨fun h => by rw [h] at a2; omega, fun h => Int32.toInt_inj.mp (by omega)⟩
      by_cases z : e = 0
      · rw [if_pos z, if_pos z]
        exact decide_eq_decide.mpr (key q a (Or.inr ⟨rfl, rfl⟩))
      · rw [if_neg z, if_neg z]
        exact decide_eq_decide.mpr (key a q (Or.inl ⟨rfl, rfl⟩))
    rw [fe]
/-- the choosing -/
theorem ch_35 (r : RB mg 1) {N : Nat} (hN : mg 1 0 = nI N) (N8 : N ≤ 8) {S : Nat} (S4 : S ≤ 4) {M g : Mem} {p0 p1 : Int32} (t : TBW mg N S M) : ∀ (j n a f l : Nat) (m : Mem), a + j = N → j < n → f < 2 ^ N → bl f = fl (fun i => f.testBit i) j a → l ≤ S → NK 49 M m →
    ∀ x, x < N → f_X2_choose_35 g p0 p1 n (nI f) (nI l) (nI a) m 49 x = PX (jo mg) 8 l (fl (fun i => f.testBit i) j a) (m 49) x := by
  have p8 : 2 ^ N ≤ 2 ^ 8 := Nat.pow_le_pow_right (by decide) N8
  intro j
  induction j with
  | zero =>
    intro n a f l m ha hn hf hb hl hm x hx
    obtain ⟨k, rfl⟩ : ∃ k, n = k + 1 := ⟨n - 1, by omega⟩
    have e : m 48 4 = nI N := (hm 48 4 (by decide)).trans t.1
    rw [f_X2_choose_35, e, if_pos (nI_le (by omega) (by omega)), fl, PX_nil]
  | succ j ih =>
    intro n a f l m ha hn hf hb hl hm x hx
    obtain ⟨k, rfl⟩ : ∃ k, n = k + 1 := ⟨n - 1, by omega⟩
    have e : m 48 4 = nI N := (hm 48 4 (by decide)).trans t.1
    have tm := TBW_49 hm t
    rw [fl] at hb
    rw [f_X2_choose_35, e, if_neg (nI_ge (by omega) (by omega)), bts (by omega) (by omega), nI_1, fl]
    by_cases c : f.testBit a = true
    · rw [if_pos c] at hb
      rw [if_pos c, if_neg (by decide : ¬ (1 : Int32) = 0), if_pos c]
      have hj : j = N - (a + 1) := by omega
      have fo := fun e => fo_eq r hN N8 S4 tm (a := a) (f := f) (l := l) (e := e) (by omega) hf hl (R := fl (fun i => f.testBit i) j (a + 1)) (by rw [hj]) hb
      have f1 := fo 1
      have f0 := fo 0
      rw [if_neg (by decide : ¬ (1 : Nat) = 0)] at f1
      rw [if_pos rfl] at f0
      have e2 := er_i (f := f) (i := a) (by omega) (by omega)
      have br : bl (er f a) = fl (fun i => f.testBit i) j (a + 1) := by rw [er_bl (by omega) (by omega), hb, List.erase_cons_head]
      have fe : fl (fun i => (er f a).testBit i) j (a + 1) = fl (fun i => f.testBit i) j (a + 1) := by
        refine fl_congr _ _ (fun i i1 i2 => ?_)
        rw [er_t (by omega) (by omega) (by omega), decide_eq_true (show i ≠ a by omega), Bool.and_true]
      have len : (fl (fun i => f.testBit i) j (a + 1)).length ≤ 7 := Nat.le_trans (fl_len _ _) (by omega)
      have nei : ∀ l2, l2 ≤ S → f_X2_choose_35 g p0 p1 k (nI (er f a)) (nI l2) (nI (a + 1)) m 49 x = PX (jo mg) 7 l2 (fl (fun i => f.testBit i) j (a + 1)) (m 49) x := fun l2 h2 => by
        have := ih k (a + 1) (er f a) l2 m (by omega) (by omega) (by omega) (by rw [br, fe]) h2 hm x hx
        rw [fe, PX_k 8 7 l2 _ _ (by omega) len] at this
        exact this
      have lt4 : (-4 : Int32) < 0 := by decide
      cases l with
      | zero =>
        rw [(f1.1 rfl), (f0.1 rfl), if_pos lt4, if_pos lt4, if_pos lt4, e2.1]
        rw [PX]
        exact nei 0 (by omega)
      | succ l =>
        have g1 := f1.2 l rfl
        have g0 := f0.2 l rfl
        simp only [if_neg (by decide : ¬ (1 : Nat) = 0)] at g1
        simp only [if_true] at g0
        rw [PX]
        have dec : nI (l + 1) + (-1) = nI l := by
          rw [show (-1 : Int32) = -(1 : Int32) by decide, ← Int32.sub_eq_add_neg, nI_pred]
        have pick : ∀ q, q ∈ fl (fun i => f.testBit i) j (a + 1) → q < N ∧ a < q ∧ (nI (er f a) &&& ((1 <<< (nI q &&& 31)) ^^^ (-1)) : Int32) = nI (er (er f a) q) ∧ (∀ (m2 : Mem), NK 49 M m2 → f_X2_choose_35 g p0 p1 k (nI (er (er f a) q)) (nI l) (nI (a + 1)) m2 49 x = PX (jo mg) 7 l ((fl (fun i => f.testBit i) j (a + 1)).erase q) (m2 49) x) := fun q hq => by
          have hq2 := (fl_mem _ _).mp hq
          have e3 := er_i (f := er f a) (i := q) (by omega) (by omega)
          refine ⟨by omega, by omega, e3.1, fun m2 h2 => ?_⟩
          have fe2 : fl (fun i => (er (er f a) q).testBit i) j (a + 1) = (fl (fun i => f.testBit i) j (a + 1)).erase q := by
            rw [er_fl (by omega) (by omega) (by omega), fe]
          have be2 : bl (er (er f a) q) = (fl (fun i => f.testBit i) j (a + 1)).erase q := by
            rw [er_bl (by omega) (by omega), br]
          have := ih k (a + 1) (er (er f a) q) l m2 (by omega) (by omega) (by omega) (by rw [be2, fe2]) (by omega) h2 x hx
          have len2 : ((fl (fun i => f.testBit i) j (a + 1)).erase q).length ≤ 7 := Nat.le_trans List.length_erase_le len
          rw [fe2, PX_k 8 7 l _ _ (by omega) len2] at this
          exact this
        have npos : ∀ q : Nat, q < N → ¬ nI q < 0 := fun q hq => nI_pos (by omega)
        cases h3 : (fl (fun i => f.testBit i) j (a + 1)).find? (fun q => decide (cnd (jo mg a q) (PV (jo mg) 7 l ((fl (fun i => f.testBit i) j (a + 1)).erase q)) = PV (jo mg) 8 (l + 1) (a :: fl (fun i => f.testBit i) j (a + 1)))) with
        | some q =>
          rw [h3] at g1
          dsimp only at g1
          obtain ⟨q1, q2, q3, q4⟩ := pick q (List.mem_of_find?_eq_some h3)
          unfold f_X2_choose_m3 f_X2_choose_m2
          rw [g1, if_neg (npos q q1), if_neg (npos q q1), e2.1, q3, dec, show ix (nI a) = a from nI_clamp (by omega)]
          rw [q4 _ (NK_up hm)]
          refine PX_pt _ _ _ _ _ ?_
          rfl
        | none =>
          rw [h3] at g1
          dsimp only at g1
          rw [g1, if_pos lt4, if_pos lt4]
          cases h4 : (fl (fun i => f.testBit i) j (a + 1)).find? (fun q => decide (cnd (jo mg q a) (PV (jo mg) 7 l ((fl (fun i => f.testBit i) j (a + 1)).erase q)) = PV (jo mg) 8 (l + 1) (a :: fl (fun i => f.testBit i) j (a + 1)))) with
          | some q =>
            rw [h4] at g0
            dsimp only at g0
            obtain ⟨q1, q2, q3, q4⟩ := pick q (List.mem_of_find?_eq_some h4)
            unfold f_X2_choose_m1
            rw [g0, if_neg (npos q q1), e2.1, q3, dec, show ix (nI q) = q from nI_clamp (by omega)]
            rw [q4 _ (NK_up hm)]
            refine PX_pt _ _ _ _ _ ?_
            rfl
          | none =>
            rw [h4] at g0
            dsimp only at g0
            rw [g0, if_pos lt4, e2.1]
            exact nei (l + 1) hl
    · rw [if_neg c] at hb
      rw [if_neg c, if_pos rfl, if_neg c]
      exact ih k (a + 1) f l m (by omega) (by omega) hf hb hl hm x hx
/-- nobody is watched at first; then the choosing -/
theorem ch_8 {N : Nat} (N8 : N ≤ 8) {g : Mem} (h48 : g 48 4 = nI N) {p0 p1 : Int32} : ∀ (j n a : Nat) (m : Mem), a + j = N → j < n → NK 49 g m → (∀ x, x < a → m 49 x = 9) → ∃ m2, NK 49 g m2 ∧ (∀ x, x < N → m2 49 x = 9) ∧ f_X2_choose_8 g p0 p1 n (nI a) m = f_X2_choose_35 g p0 p1 9 p1 p0 0 m2 := by
  intro j
  induction j with
  | zero =>
    intro n a m ha hn hm hx
    obtain ⟨k, rfl⟩ : ∃ k, n = k + 1 := ⟨n - 1, by omega⟩
    have e : m 48 4 = nI N := (hm 48 4 (by decide)).trans h48
    rw [f_X2_choose_8, e, if_pos (nI_le (by omega) (by omega))]
    exact ⟨m, hm, fun x h => hx x (by omega), rfl⟩
  | succ j ih =>
    intro n a m ha hn hm hx
    obtain ⟨k, rfl⟩ : ∃ k, n = k + 1 := ⟨n - 1, by omega⟩
    have e : m 48 4 = nI N := (hm 48 4 (by decide)).trans h48
    rw [f_X2_choose_8, e, if_neg (nI_ge (by omega) (by omega)), nI_1]
    unfold f_X2_choose_m4
    rw [show ix (nI a) = a from nI_clamp (by omega)]
    refine ih k (a + 1) _ (by omega) (by omega) (NK_up hm) (fun x h => ?_)
    by_cases y : x = a
    · subst y; rw [up_eq]
    · rw [up_ne (Or.inr y)]; exact hx x (by omega)
end PU
