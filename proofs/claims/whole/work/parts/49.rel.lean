section FRO
variable {cg mg g : Mem} {t k : Nat} {w f : Int32}
theorem bj_ge (r : RB g k) {p q : Int32} (p0 : 0 ≤ p.toInt) (p1 : p.toInt < (g k 0).toInt) (q0 : 0 ≤ q.toInt) (q1 : q.toInt < (g k 0).toInt) (ce : ¬ f_X6_canEat g k p q = 0) : (f_X6_joysOf g k p q).toInt ≤ (f_X6_bestJoys g k).toInt := by
  unfold f_X6_bestJoys
  rcases best_cases r with ⟨_, _, x⟩ | ⟨x, p2, q2, e1, e2, _, _, _, y⟩
  · exact absurd (x p q p0 p1 q0 q1) ce
  · rw [if_pos (le_of_nlt x), e2, e1]
    exact y p q p0 p1 q0 q1 ce
theorem bj_at (r : RB g k) : f_X6_bestJoys g k = 0 ∨ ∃ p q : Int32, (0 ≤ p.toInt ∧ p.toInt < (g k 0).toInt) ∧ (0 ≤ q.toInt ∧ q.toInt < (g k 0).toInt) ∧ ¬ f_X6_canEat g k p q = 0 ∧ f_X6_bestJoys g k = f_X6_joysOf g k p q := by
  unfold f_X6_bestJoys
  rcases best_cases r with ⟨x, y, _⟩ | ⟨x, p2, q2, e1, e2, hp, hq, ce, _⟩
  · left
    rw [y]
    rfl
  · right
    refine ⟨p2, q2, hp, hq, ce, ?_⟩
    rw [if_pos (le_of_nlt x), e2, e1]
/-- one more, with no hunger and a wish of 9 -/
theorem A_z (r : RB g k) (n8 : (g k 0).toInt ≤ 8) : f_X6_adds g k w f 0 9 k 0 = g k 0 + 1 ∧ (g k 0 + 1).toInt = (g k 0).toInt + 1 ∧ f_X6_adds g k w f 0 9 k 1 = g k 1 := by
  have hp : vp_in (g k 0) 9 := vin_of r.1.1 (by omega)
  refine ⟨?_, add1_toInt r.1.1 (by omega), ?_⟩
  · show up (f_X6_adds_m6 g k w f 0 9) k 0 (f_X6_adds_m6 g k w f 0 9 k 0 + 1) k 0 = _
    rw [up_eq, ad_o hp (Or.inl (by omega))]
  · show up (f_X6_adds_m6 g k w f 0 9) k 0 (f_X6_adds_m6 g k w f 0 9 k 0 + 1) k 1 = _
    rw [up_ne (Or.inr (by decide)), ad_o hp (Or.inl (by omega))]
theorem A_p (r : RB g k) (n8 : (g k 0).toInt ≤ 8) {p c : Int32} (p0 : 0 ≤ p.toInt) (p1 : p.toInt < (g k 0).toInt) (hc : vp_in c 6) : f_X6_adds g k w f 0 9 k (ix (f_X6_of p c)) = g k (ix (f_X6_of p c)) := by
  have hp : vp_in (g k 0) 9 := vin_of r.1.1 (by omega)
  have hv := r.v9 p0 p1
  have x1 := ix_toInt p0
  have x2 := ix_toInt r.1.1
  have x3 := vin_lt hc
  show up (f_X6_adds_m6 g k w f 0 9) k 0 (f_X6_adds_m6 g k w f 0 9 k 0 + 1) k _ = _
  rw [ix_of hv hc, up_ne (Or.inr (by omega)), ad_o hp (Or.inl (by omega))]
theorem A_n (r : RB g k) (n8 : (g k 0).toInt ≤ 8) : f_X6_adds g k w f 0 9 k (ix (f_X6_of (g k 0) 0)) = w ∧ f_X6_adds g k w f 0 9 k (ix (f_X6_of (g k 0) 1)) = f ∧ f_X6_adds g k w f 0 9 k (ix (f_X6_of (g k 0) 2)) = 0 ∧ f_X6_adds g k w f 0 9 k (ix (f_X6_of (g k 0) 3)) = 9 ∧ f_X6_adds g k w f 0 9 k (ix (f_X6_of (g k 0) 4)) = 0 ∧ f_X6_adds g k w f 0 9 k (ix (f_X6_of (g k 0) 5)) = 0 := by
  have hp : vp_in (g k 0) 9 := vin_of r.1.1 (by omega)
  have key : ∀ j : Nat, j ≠ 0 → f_X6_adds g k w f 0 9 k j = f_X6_adds_m6 g k w f 0 9 k j := fun j hj => up_ne (Or.inr hj)
  rw [of_0 hp, of_1 hp, of_2 hp, of_3 hp, of_4 hp, of_5 hp, key _ (by omega), key _ (by omega), key _ (by omega), key _ (by omega), key _ (by omega), key _ (by omega)]
  exact ⟨ad_0 hp, ad_1 hp, ad_2 hp, ad_3 hp, ad_4 hp, ad_5 hp⟩
theorem A_RB (r : RB g k) (n8 : (g k 0).toInt ≤ 8) (hw : vp_in w 8) (f0 : 0 ≤ f.toInt) (f1 : f.toInt ≤ 9) : RB (f_X6_adds g k w f 0 9) k := by
  obtain ⟨a0, a1, a2⟩ := A_z (w := w) (f := f) r n8
  obtain ⟨n0, n1, n2, n3, n4, n5⟩ := A_n (w := w) (f := f) r n8
  have hp : vp_in (g k 0) 9 := vin_of r.1.1 (by omega)
  have x2 := ix_toInt r.1.1
  have hw2 := vp_in_iff.mp hw
  refine ⟨by rw [a0, a1]; have := r.1.1; omega, by rw [a2]; exact r.2.1, fun i hi c hc => ?_⟩
  rw [a0, a1] at hi
  by_cases x : i = ix (g k 0)
  · subst x
    rw [of_0 hp] at n0
    rw [of_1 hp] at n1
    rw [of_2 hp] at n2
    rw [of_3 hp] at n3
    rw [of_4 hp] at n4
    rw [of_5 hp] at n5
    have e0 : (0 : Int32).toInt = 0 := rfl
    have e9 : (9 : Int32).toInt = 9 := rfl
    have : c = 0 ∨ c = 1 ∨ c = 2 ∨ c = 3 ∨ c = 4 ∨ c = 5 := by omega
    rcases this with rfl | rfl | rfl | rfl | rfl | rfl
    · rw [Nat.add_zero, n0]
      exact ⟨hw2.1, by have : bnd 0 = 7 := rfl; omega⟩
    · rw [n1]
      exact ⟨f0, f1⟩
    · rw [n2]; decide
    · rw [n3]; decide
    · rw [n4]; decide
    · rw [n5]; decide
  · have q := r.2.2 i (by omega) c hc
    show 0 ≤ (up (f_X6_adds_m6 g k w f 0 9) k 0 (f_X6_adds_m6 g k w f 0 9 k 0 + 1) k (3 + 6 * i + c)).toInt ∧ (up (f_X6_adds_m6 g k w f 0 9) k 0 (f_X6_adds_m6 g k w f 0 9 k 0 + 1) k (3 + 6 * i + c)).toInt ≤ bnd c
    rw [up_ne (Or.inr (by omega)), ad_o hp (Or.inl (by omega))]
    exact q
theorem A_old (r : RB g k) (n8 : (g k 0).toInt ≤ 8) {p q : Int32} (p0 : 0 ≤ p.toInt) (p1 : p.toInt < (g k 0).toInt) (q0 : 0 ≤ q.toInt) (q1 : q.toInt < (g k 0).toInt) : f_X6_canEat (f_X6_adds g k w f 0 9) k p q = f_X6_canEat g k p q ∧ f_X6_joysOf (f_X6_adds g k w f 0 9) k p q = f_X6_joysOf g k p q := by
  refine ⟨?_, ?_⟩
  · unfold f_X6_canEat f_X6_canLook
    rw [A_p r n8 p0 p1 vc2, A_p r n8 q0 q1 vc4, A_p r n8 q0 q1 vc0, (A_z r n8).2.2]
  · unfold f_X6_joysOf f_X6_eaterJoy f_X6_bites f_X6_gazes
    rw [A_p r n8 p0 p1 vc0, A_p r n8 p0 p1 vc1, A_p r n8 p0 p1 vc2, A_p r n8 q0 q1 vc0, A_p r n8 q0 q1 vc1, A_p r n8 q0 q1 vc3, A_p r n8 q0 q1 vc5]
/-- how much of the wish of one who is brought a look stills -/
def gzb (w f : Int32) : Int32 := if (9 : Int32) < f_X1_gazeWith w f then 9 else f_X1_gazeWith w f
theorem gzb_in (hw : vp_in w 8) (f0 : 0 ≤ f.toInt) (f1 : f.toInt ≤ 9) : 0 ≤ (gzb w f).toInt ∧ (gzb w f).toInt ≤ 9 ∧ gzb w f = f_X6_least 9 (f_X6_gaze w f) := by
  have a := gaze_in (w := w) f0 f1
  have e : gzb w f = f_X6_least 9 (f_X6_gaze w f) := by
    unfold gzb
    rw [gaze_eq hw, least_eq]
  have e9 : (9 : Int32).toInt = 9 := rfl
  have e2 : (gzb w f).toInt = min 9 (f_X6_gaze w f).toInt := by rw [e, least_toInt, e9]
  exact ⟨by omega, by omega, e⟩
theorem A_new (r : RB g k) (n8 : (g k 0).toInt ≤ 8) (hw : vp_in w 8) (f0 : 0 ≤ f.toInt) (f1 : f.toInt ≤ 9) {p : Int32} (p0 : 0 ≤ p.toInt) (p1 : p.toInt < (g k 0).toInt) :
    (¬ f_X6_canEat (f_X6_adds g k w f 0 9) k p (g k 0) = 0 ↔ (0 < (g k 1).toInt ∧ 0 < (g k (ix (f_X6_of p 2))).toInt ∧ ¬ w = 4)) ∧ (f_X6_joysOf (f_X6_adds g k w f 0 9) k p (g k 0)).toInt = (f_X6_bites g k p).toInt + (gzb w f).toInt := by
  obtain ⟨n0, n1, n2, n3, n4, n5⟩ := A_n (w := w) (f := f) r n8
  have z := gzb_in hw f0 f1
  have b := r.bites p0 p1
  have e0 : (0 : Int32).toInt = 0 := rfl
  refine ⟨⟨fun ce => ?_, fun ⟨a, b2, c⟩ => ?_⟩, ?_⟩
  · obtain ⟨_, c1, c2, c3⟩ := canEat_1 ce
    rw [(A_z r n8).2.2] at c1
    rw [A_p r n8 p0 p1 vc2] at c2
    refine ⟨c1, c2, fun w4 => c3 ?_⟩
    unfold f_X6_canLook
    rw [n4, n0, if_pos rfl, if_pos w4]
  · unfold f_X6_canEat f_X6_canLook
    rw [(A_z r n8).2.2, A_p r n8 p0 p1 vc2, n4, n0, if_neg (fun q : p = g k 0 => by rw [q] at p1; omega), if_neg (fun q => by have := i_le.mp q; omega), if_neg (fun q => by have := i_le.mp q; omega), if_pos rfl, if_neg c]
    decide
  · have g1 : f_X6_gazes (f_X6_adds g k w f 0 9) k (g k 0) = gzb w f := by
      unfold f_X6_gazes
      rw [n0, n1, n3, z.2.2]
    have b1 : f_X6_eaterJoy (f_X6_adds g k w f 0 9) k p (g k 0) = f_X6_bites g k p := by
      unfold f_X6_eaterJoy f_X6_bites
      rw [n5, A_p r n8 p0 p1 vc0, A_p r n8 p0 p1 vc1, A_p r n8 p0 p1 vc2, Int32.mul_zero, Int32.sub_zero]
      have hb : 0 ≤ (f_X6_least (g k (ix (f_X6_of p 2))) (f_X6_bite (g k (ix (f_X6_of p 0))) (g k (ix (f_X6_of p 1))))).toInt := b.1
      exact Int32.toInt_inj.mp (by rw [most_toInt]; omega)
    unfold f_X6_joysOf
    rw [g1, b1, addS (by omega) (by omega)]
theorem A_eat (r : RB g k) (n8 : (g k 0).toInt ≤ 8) {p q : Int32} (p0 : 0 ≤ p.toInt) (p1 : p.toInt < (g k 0 + 1).toInt) (ce : ¬ f_X6_canEat (f_X6_adds g k w f 0 9) k p q = 0) : p.toInt < (g k 0).toInt := by
  obtain ⟨n0, n1, n2, n3, n4, n5⟩ := A_n (w := w) (f := f) r n8
  have a1 := (A_z (w := w) (f := f) r n8).2.1
  have c := (canEat_1 ce).2.2.1
  by_cases x : p.toInt < (g k 0).toInt
  · exact x
  · have e : p = g k 0 := Int32.toInt_inj.mp (by omega)
    rw [e, n2] at c
    exact absurd c (by decide)
/-- the most that the one who is brought can make -/
def MJ (g : Mem) (k : Nat) (w f x : Int32) : Prop :=
  (x = -1 ∨ ∃ p : Int32, (0 ≤ p.toInt ∧ p.toInt < (g k 0).toInt) ∧ 0 < (g k 1).toInt ∧ 0 < (g k (ix (f_X6_of p 2))).toInt ∧ ¬ w = 4 ∧ x.toInt = (f_X6_bites g k p).toInt + (gzb w f).toInt) ∧
  ∀ p : Int32, 0 ≤ p.toInt → p.toInt < (g k 0).toInt → 0 < (g k 1).toInt → 0 < (g k (ix (f_X6_of p 2))).toInt → ¬ w = 4 → (f_X6_bites g k p).toInt + (gzb w f).toInt ≤ x.toInt
theorem A_best (r : RB g k) (n8 : (g k 0).toInt ≤ 8) (hw : vp_in w 8) (f0 : 0 ≤ f.toInt) (f1 : f.toInt ≤ 9) {x : Int32} (hx : MJ g k w f x) : (f_X6_bestJoys (f_X6_adds g k w f 0 9) k).toInt = max (f_X6_bestJoys g k).toInt x.toInt := by
  have rA := A_RB r n8 hw f0 f1
  obtain ⟨a0, a1, a2⟩ := A_z (w := w) (f := f) r n8
  have b0 := (bj_in r).1
  have e0 : (0 : Int32).toInt = 0 := rfl
  have em : (-1 : Int32).toInt = -1 := rfl
  have up1 : (f_X6_bestJoys g k).toInt ≤ (f_X6_bestJoys (f_X6_adds g k w f 0 9) k).toInt := by
    rcases bj_at r with h | ⟨p, q, hp, hq, ce, h⟩
    · rw [h, e0]; exact (bj_in rA).1
    · obtain ⟨o1, o2⟩ := A_old (w := w) (f := f) r n8 hp.1 hp.2 hq.1 hq.2
      rw [h, ← o2]
      exact bj_ge rA hp.1 (by rw [a0]; omega) hq.1 (by rw [a0]; omega) (by rw [o1]; exact ce)
  have up2 : x.toInt ≤ (f_X6_bestJoys (f_X6_adds g k w f 0 9) k).toInt := by
    rcases hx.1 with h | ⟨p, hp, s, u, v, h⟩
    · rw [h, em]; have := (bj_in rA).1; omega
    · obtain ⟨o1, o2⟩ := A_new r n8 hw f0 f1 hp.1 hp.2
      rw [h, ← o2]
      exact bj_ge rA hp.1 (by rw [a0]; omega) r.1.1 (by rw [a0]; omega) (o1.mpr ⟨s, u, v⟩)
  have dn : (f_X6_bestJoys (f_X6_adds g k w f 0 9) k).toInt ≤ max (f_X6_bestJoys g k).toInt x.toInt := by
    rcases bj_at rA with h | ⟨p, q, hp, hq, ce, h⟩
    · rw [h, e0]; omega
    · rw [a0] at hp hq
      have p1 := A_eat r n8 hp.1 hp.2 ce
      by_cases y : q.toInt < (g k 0).toInt
      · obtain ⟨o1, o2⟩ := A_old (w := w) (f := f) r n8 hp.1 p1 hq.1 y
        rw [o1] at ce
        have := bj_ge r hp.1 p1 hq.1 y ce
        rw [h, o2]
        omega
      · have eq : q = g k 0 := Int32.toInt_inj.mp (by omega)
        subst eq
        obtain ⟨o1, o2⟩ := A_new r n8 hw f0 f1 hp.1 p1
        obtain ⟨s, u, v⟩ := o1.mp ce
        have := hx.2 p hp.1 p1 s u v
        rw [h, o2]
        omega
  omega
theorem mj_L (h : FR cg 0 mg 1) (r : RB mg 1) (hw : vp_in w 8) (f0 : 0 ≤ f.toInt) (f1 : f.toInt ≤ 9) (s0 : 0 < (mg 1 1).toInt) (w4 : ¬ w = 4) : ∀ (n : Nat) (a4 a5 : Int32), lc a5 (mg 1 0) n →
    ((a4 = -1 ∨ ∃ p : Int32, (0 ≤ p.toInt ∧ p.toInt < (mg 1 0).toInt) ∧ 0 < (mg 1 1).toInt ∧ 0 < (mg 1 (ix (f_X6_of p 2))).toInt ∧ ¬ w = 4 ∧ a4.toInt = (f_X6_bites mg 1 p).toInt + (gzb w f).toInt) ∧
      ∀ p : Int32, 0 ≤ p.toInt → p.toInt < a5.toInt → p.toInt < (mg 1 0).toInt → 0 < (mg 1 (ix (f_X6_of p 2))).toInt → (f_X6_bites mg 1 p).toInt + (gzb w f).toInt ≤ a4.toInt) → MJ mg 1 w f (f_X5_mostJoysWatchedBy_36 cg w f n a4 a5) := by
  have z := gzb_in hw f0 f1
  have e0 : (0 : Int32).toInt = 0 := rfl
  intro n
  induction n with
  | zero => intro a4 a5 h1; exact absurd h1.2 (Nat.not_lt_zero _)
  | succ n ih =>
    intro a4 a5 h1 hI
    rw [f_X5_mostJoysWatchedBy_36, h.z]
    by_cases c : mg 1 0 ≤ a5
    · have c2 := i_le.mp c
      rw [if_pos c]
      exact ⟨hI.1, fun p p0 p1 _ u _ => hI.2 p p0 (by omega) p1 u⟩
    · rw [if_neg c]
      have c2 := lt_of_nle c
      have n1 := lc_stepN h1 c
      have e1 : (a5 + 1).toInt = a5.toInt + 1 := inc_toInt h1.1 c2
      rw [h.c4 h1.1 c2, stilledHunger_eq h h1.1 c2]
      have b := r.bites h1.1 c2
      have last : ∀ p : Int32, p.toInt < (a5 + 1).toInt → ¬ p.toInt < a5.toInt → p = a5 := fun p x y => Int32.toInt_inj.mp (by omega)
      by_cases d : mg 1 (ix (f_X6_of a5 2)) ≤ 0
      · have d2 := i_le.mp d
        rw [if_pos d]
        refine ih _ _ n1 ⟨hI.1, fun p p0 p1 p2 u => ?_⟩
        by_cases x : p.toInt < a5.toInt
        · exact hI.2 p p0 x p2 u
        · rw [last p p1 x] at u
          omega
      · have d2 := lt_of_nle d
        rw [if_neg d]
        have sm : (f_X6_bites mg 1 a5 + gzb w f).toInt = (f_X6_bites mg 1 a5).toInt + (gzb w f).toInt := addS (by omega) (by omega)
        show MJ mg 1 w f (f_X5_mostJoysWatchedBy_36 cg w f n (if a4 < f_X6_bites mg 1 a5 + gzb w f then f_X6_bites mg 1 a5 + gzb w f else a4) (a5 + 1))
        by_cases y : a4 < f_X6_bites mg 1 a5 + gzb w f
        · have y2 := i_lt.mp y
          rw [if_pos y]
          refine ih _ _ n1 ⟨Or.inr ⟨a5, ⟨h1.1, c2⟩, s0, by omega, w4, sm⟩, fun p p0 p1 p2 u => ?_⟩
          by_cases x : p.toInt < a5.toInt
          · have := hI.2 p p0 x p2 u
            omega
          · rw [last p p1 x]
            omega
        · have y2 : ¬ a4.toInt < (f_X6_bites mg 1 a5 + gzb w f).toInt := fun q => y (i_lt.mpr q)
          rw [if_neg y]
          refine ih _ _ n1 ⟨hI.1, fun p p0 p1 p2 u => ?_⟩
          by_cases x : p.toInt < a5.toInt
          · exact hI.2 p p0 x p2 u
          · rw [last p p1 x]
            omega
theorem mj_eq (h : FR cg 0 mg 1) (r : RB mg 1) (hw : vp_in w 8) (f0 : 0 ≤ f.toInt) (f1 : f.toInt ≤ 9) : MJ mg 1 w f (f_X5_mostJoysWatchedBy cg w f) := by
  have e0 : (0 : Int32).toInt = 0 := rfl
  unfold f_X5_mostJoysWatchedBy
  rw [h.s]
  by_cases a : w = 4
  · rw [if_pos a]
    exact ⟨Or.inl rfl, fun p _ _ _ _ x => absurd a x⟩
  · rw [if_neg a]
    by_cases b : mg 1 1 = 0
    · rw [if_pos b]
      exact ⟨Or.inl rfl, fun p _ _ x _ _ => by rw [b] at x; exact absurd x (by decide)⟩
    · rw [if_neg b]
      have hne := ne_toInt b
      have := r.2.1.1
      exact mj_L h r hw f0 f1 (by omega) a 9 _ _ h.l9 ⟨Or.inl rfl, fun p p0 p1 _ _ => by omega⟩
theorem MX_adds {a b c d : Int32} : MX mg (f_X6_adds mg 2 a b c d) := by
  have key : ∀ r, r ≠ 2 → f_X6_adds mg 2 a b c d r = mg r := fun r hr => by
    unfold f_X6_adds f_X6_adds_m7 f_X6_adds_m6 f_X6_adds_m5 f_X6_adds_m4 f_X6_adds_m3 f_X6_adds_m2 f_X6_adds_m1
    rw [up_row hr, up_row hr, up_row hr, up_row hr, up_row hr, up_row hr, up_row hr]
  exact ⟨fun r h _ => key r h, congrFun (key 0 (by decide)) 4⟩
/-- the best turn's joys in a copy are those of now -/
theorem bj_cp {dm : Mem} (h : RI cg mg) (hm : MX mg dm) : f_X6_bestJoys (f_X6_copies dm 1 2) 2 = f_X6_bestJoys mg 1 := by
  have e1 := hm.1 1 (by decide) (by decide)
  have r : RB dm 1 := RB_row e1 h.1.1.2.1
  have r2 : RB (f_X6_copies dm 1 2) 2 := RB_copies (by decide) r
  have z : f_X6_copies dm 1 2 2 0 = dm 1 0 := copies_i (by decide) (by decide)
  have rw1 : ∀ {p q : Int32}, f_X6_joysOf dm 1 p q = f_X6_joysOf mg 1 p q := fun {p q} => by
    unfold f_X6_joysOf f_X6_eaterJoy f_X6_bites f_X6_gazes
    rw [e1]
  have rw2 : ∀ {p q : Int32}, f_X6_canEat dm 1 p q = f_X6_canEat mg 1 p q := fun {p q} => by
    unfold f_X6_canEat f_X6_canLook
    rw [e1]
  have cc : ∀ {p q : Int32}, 0 ≤ p.toInt → p.toInt < (mg 1 0).toInt → 0 ≤ q.toInt → q.toInt < (mg 1 0).toInt → f_X6_canEat (f_X6_copies dm 1 2) 2 p q = f_X6_canEat mg 1 p q ∧ f_X6_joysOf (f_X6_copies dm 1 2) 2 p q = f_X6_joysOf mg 1 p q := fun {p q} p0 p1 q0 q1 => by
    have hp := h.1.1.2.1.v9 p0 p1
    have hq := h.1.1.2.1.v9 q0 q1
    rw [canEat_cpk (by decide) hp hq, joysOf_cpk (by decide) hp hq, rw1, rw2]
    exact ⟨rfl, rfl⟩
  have z2 : f_X6_copies dm 1 2 2 0 = mg 1 0 := by rw [z, e1]
  have e0 : (0 : Int32).toInt = 0 := rfl
  refine Int32.toInt_inj.mp (Int.le_antisymm ?_ ?_)
  · rcases bj_at r2 with x | ⟨p, q, hp, hq, ce, x⟩
    · rw [x, e0]; exact (bj_in h.1.1.2.1).1
    · rw [z2] at hp hq
      obtain ⟨o1, o2⟩ := cc hp.1 hp.2 hq.1 hq.2
      rw [x, o2]
      exact bj_ge h.1.1.2.1 hp.1 hp.2 hq.1 hq.2 (by rw [← o1]; exact ce)
  · rcases bj_at h.1.1.2.1 with x | ⟨p, q, hp, hq, ce, x⟩
    · rw [x, e0]; exact (bj_in r2).1
    · obtain ⟨o1, o2⟩ := cc hp.1 hp.2 hq.1 hq.2
      rw [x, ← o2]
      exact bj_ge r2 hp.1 (by rw [z2]; exact hp.2) hq.1 (by rw [z2]; exact hq.2) (by rw [o1]; exact ce)
/-- what the one who is brought can make is the same in the copy -/
theorem MJ_cp {dm : Mem} (h : RI cg mg) (hm : MX mg dm) {x : Int32} (hx : MJ mg 1 w f x) : MJ (f_X6_copies dm 1 2) 2 w f x := by
  have e1 := hm.1 1 (by decide) (by decide)
  have z2 : f_X6_copies dm 1 2 2 0 = mg 1 0 := by rw [copies_i (by decide) (by decide), e1]
  have z3 : f_X6_copies dm 1 2 2 1 = mg 1 1 := by rw [copies_i (by decide) (by decide), e1]
  have cb : ∀ {p : Int32}, 0 ≤ p.toInt → p.toInt < (mg 1 0).toInt → f_X6_bites (f_X6_copies dm 1 2) 2 p = f_X6_bites mg 1 p ∧ f_X6_copies dm 1 2 2 (ix (f_X6_of p 2)) = mg 1 (ix (f_X6_of p 2)) := fun {p} p0 p1 => by
    have hp := h.1.1.2.1.v9 p0 p1
    rw [bites_cpk (by decide) hp, cp_of (by decide) hp vc2]
    unfold f_X6_bites
    rw [e1]
    exact ⟨rfl, rfl⟩
  unfold MJ
  rw [z2, z3]
  refine ⟨?_, fun p p0 p1 s u v => ?_⟩
  · rcases hx.1 with y | ⟨p, hp, s, u, v, y⟩
    · exact Or.inl y
    · obtain ⟨o1, o2⟩ := cb hp.1 hp.2
      exact Or.inr ⟨p, hp, s, by rw [o2]; exact u, v, by rw [o1]; exact y⟩
  · obtain ⟨o1, o2⟩ := cb p0 p1
    rw [o1]
    rw [o2] at u
    exact hx.2 p p0 p1 s u v

theorem br_L (h : RI cg mg) (f0 : 0 ≤ f.toInt) (f1 : f.toInt ≤ 9) : ∀ (n m : Nat) (a3 : Int32) (a4 : Int32) (a5 : Int32) (dm : Mem), lc a5 (8) n → lc a5 (8) m → (MX mg dm ∧ (f_X6_bestJoys mg 1).toInt ≤ a3.toInt) → f_X5_bring_48 cg f n a3 a4 a5 = (f_X6_bring_26 mg f m a4 a3 a5 dm).1 ∧ RI cg (f_X6_bring_26 mg f m a4 a3 a5 dm).2 := by
  intro n
  induction n with
  | zero => intro m a3 a4 a5 dm h1; exact absurd h1.2 (Nat.not_lt_zero _)
  | succ n ih =>
    intro m a3 a4 a5 dm h1 h2 hI
    cases m with
    | zero => exact absurd h2.2 (Nat.not_lt_zero _)
    | succ m =>
      rw [f_X5_bring_48, f_X6_bring_26]
      by_cases c : 8 ≤ a5
      · simp only [if_pos c]
        exact ⟨trivial, RI_try h NX.rf h.2.1 hI.1⟩
      · simp only [if_neg c]
        have c2 := lt_of_nle c
        have n1 := lc_stepN h1 c
        have n2 := lc_stepN h2 c
        obtain ⟨hm, hb⟩ := hI
        have hw : vp_in a5 8 := vin_of h1.1 (by have : (8 : Int32).toInt = 8 := rfl; omega)
        have e1 := hm.1 1 (by decide) (by decide)
        have r2 : RB (f_X6_copies dm 1 2) 2 := RB_copies (by decide) (RB_row e1 h.1.1.2.1)
        have z2 : f_X6_copies dm 1 2 2 0 = mg 1 0 := by rw [copies_i (by decide) (by decide), e1]
        have v := A_best r2 (by rw [z2]; exact h.2.2.1.1.2) hw f0 f1 (MJ_cp h hm (mj_eq h.1.1.1 h.1.1.2.1 hw f0 f1))
        rw [bj_cp h hm] at v
        have mx : MX mg (f_X6_adds (f_X6_copies dm 1 2) 2 a5 f 0 9) := (hm.tr ⟨fun r a b => copies_row (by decide) a, by rw [copies_o (by decide) (by decide)]⟩).tr MX_adds
        generalize f_X5_mostJoysWatchedBy cg a5 f = x1 at *
        generalize f_X6_bestJoys (f_X6_adds (f_X6_copies dm 1 2) 2 a5 f 0 9) 2 = x2 at *
        by_cases y : x1 ≤ a3
        · have y2 := i_le.mp y
          have y3 : ¬ a3 < x2 := fun q => by have := i_lt.mp q; omega
          simp only [if_pos y, if_neg y3]
          exact ih _ _ _ _ _ n1 n2 ⟨mx, hb⟩
        · have y2 := lt_of_nle y
          have y3 : a3 < x2 := i_lt.mpr (by omega)
          have y4 : x2 = x1 := Int32.toInt_inj.mp (by omega)
          simp only [if_neg y, if_pos y3]
          rw [y4]
          exact ih _ _ _ _ _ n1 n2 ⟨mx, by omega⟩

theorem eq_bring (h : RI cg mg) (f : Int32) : f_X5_bring cg f = (f_X6_bring mg f).1 ∧ RI cg (f_X6_bring mg f).2 := by
  unfold f_X5_bring f_X6_bring f_X5_isFigure
  rw [isWithin_eq, best_eq h.1.1.1]
  by_cases a : f_X6_isIn f 0 9 = 0
  · simp only [if_pos a]; exact ⟨trivial, h⟩
  · simp only [if_neg a]
    have hf := isIn_in a
    have e0 : (0 : Int32).toInt = 0 := rfl
    have e9 : (9 : Int32).toInt = 9 := rfl
    have l : lc 0 8 9 := lc_0 (by decide) (by decide)
    have bj : (if 0 ≤ f_X6_bestIn mg 1 then f_X5_bring_48 cg f 9 (f_X0_joysOf cg 0 (f_X6_bestIn mg 1 / 10) (f_X6_bestIn mg 1 - f_X6_bestIn mg 1 / 10 * 10)) (-4) 0 else f_X5_bring_48 cg f 9 0 (-4) 0) = f_X5_bring_48 cg f 9 (f_X6_bestJoys mg 1) (-4) 0 := by
      unfold f_X6_bestJoys
      by_cases c : 0 ≤ f_X6_bestIn mg 1
      · rw [if_pos c, if_pos c]
        rcases best_cases h.1.1.2.1 with ⟨x, _⟩ | ⟨_, p, q, e1, e2, hp, hq, _⟩
        · have := i_lt.mp x
          have := i_le.mp c
          omega
        · rw [e2, e1, joysOf_eq h.1.1.1 hp.1 hp.2 hq.1 hq.2]
      · rw [if_neg c, if_neg c]
    rw [bj]
    exact br_L h (by omega) (by omega) 9 9 _ _ _ _ l l ⟨MX.rf, Int.le_refl _⟩
end FRO
