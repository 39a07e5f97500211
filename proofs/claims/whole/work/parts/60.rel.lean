section PN
variable {mg : Mem}
def fl (b : Nat → Bool) : Nat → Nat → List Nat
  | 0, _ => []
  | k + 1, a => if b a then a :: fl b k (a + 1) else fl b k (a + 1)
theorem fl_mem {b : Nat → Bool} {x : Nat} : ∀ (k a : Nat), x ∈ fl b k a ↔ a ≤ x ∧ x < a + k ∧ b x = true := by
  intro k
  induction k with
  | zero => intro a; exact ⟨fun h => absurd h List.not_mem_nil, fun h => by omega⟩
  | succ k ih =>
    intro a
    rw [fl]
    by_cases c : b a = true
    · rw [if_pos c, List.mem_cons, ih]
      refine ⟨fun h => ?_, fun h => ?_⟩
      · rcases h with rfl | h
        · exact ⟨Nat.le_refl _, by omega, c⟩
        · exact ⟨by omega, by omega, h.2.2⟩
      · by_cases e : x = a
        · exact Or.inl e
        · exact Or.inr ⟨by omega, by omega, h.2.2⟩
    · rw [if_neg c, ih]
      refine ⟨fun h => ⟨by omega, by omega, h.2.2⟩, fun h => ?_⟩
      by_cases e : x = a
      · subst e; exact absurd h.2.2 c
      · exact ⟨by omega, by omega, h.2.2⟩
theorem fl_len {b : Nat → Bool} : ∀ (k a : Nat), (fl b k a).length ≤ k := by
  intro k
  induction k with
  | zero => intro a; exact Nat.le_refl _
  | succ k ih =>
    intro a
    rw [fl]
    split
    · rw [List.length_cons]; have := ih (a + 1); omega
    · have := ih (a + 1); omega
theorem fl_congr {b c : Nat → Bool} : ∀ (k a : Nat), (∀ i, a ≤ i → i < a + k → b i = c i) → fl b k a = fl c k a := by
  intro k
  induction k with
  | zero => intro a _; rfl
  | succ k ih =>
    intro a h
    rw [fl, fl, h a (Nat.le_refl _) (by omega), ih (a + 1) (fun i h1 h2 => h i (by omega) (by omega))]
theorem fl_erase {b : Nat → Bool} (q : Nat) : ∀ (k a : Nat), fl (fun i => b i && decide (i ≠ q)) k a = (fl b k a).erase q := by
  intro k
  induction k with
  | zero => intro a; rfl
  | succ k ih =>
    intro a
    rw [fl, fl]
    by_cases e : a = q
    · subst e
      have n1 : ¬ (b a && decide (a ≠ a)) = true := by simp
      rw [if_neg n1, fl_congr (c := b) k (a + 1) (fun i h1 _ => by
        have : decide (i ≠ a) = true := decide_eq_true (by omega)
        rw [this, Bool.and_true])]
      by_cases c : b a = true
      · rw [if_pos c, List.erase_cons_head]
      · rw [if_neg c, List.erase_of_not_mem (fun h => by have := (fl_mem _ _).mp h; omega)]
    · have d : decide (a ≠ q) = true := decide_eq_true e
      by_cases c : b a = true
      · rw [if_pos (by rw [c, d]; rfl), if_pos c, List.erase_cons_tail (by simpa using e), ih]
      · rw [if_neg (by rw [d, Bool.and_true]; exact c), if_neg c, ih]
/-- the joys of two, by their numbers -/
def jo (mg : Mem) (p q : Nat) : Int := if f_X6_canEat mg 1 (nI p) (nI q) = 0 then -1 else (f_X6_joysOf mg 1 (nI p) (nI q)).toInt
theorem b1_all : ∀ t : Fin 256, ∀ q : Fin 8, ((nI t >>> (nI q &&& 31)) &&& 1 : Int32) = if (t : Nat).testBit q then 1 else 0 := by decide +kernel
theorem b2_all : ∀ t : Fin 256, ∀ q : Fin 8, (nI t ||| (1 <<< (nI q &&& 31)) : Int32) = nI ((t : Nat) ||| 2 ^ (q : Nat)) := by decide +kernel
theorem bt1 {t q : Nat} (ht : t < 256) (hq : q < 8) : ((nI t >>> (nI q &&& 31)) &&& 1 : Int32) = if t.testBit q then 1 else 0 := b1_all ⟨t, ht⟩ ⟨q, hq⟩
theorem bt2 {t q : Nat} (ht : t < 256) (hq : q < 8) : (nI t ||| (1 <<< (nI q &&& 31)) : Int32) = nI (t ||| 2 ^ q) ∧ t ||| 2 ^ q < 256 := by
  refine ⟨b2_all ⟨t, ht⟩ ⟨q, hq⟩, ?_⟩
  have : (2 : Nat) ^ q < 2 ^ 8 := Nat.pow_lt_pow_right (by decide) hq
  exact Nat.or_lt_two_pow (n := 8) ht this
theorem tb_or (t p i : Nat) : (t ||| 2 ^ p).testBit i = (t.testBit i || decide (p = i)) := by
  rw [Nat.testBit_or, Nat.testBit_two_pow]
/-- what the search keeps: the best so far, by whom (s), who is watched now (w), and all else of row 0 (z) -/
def QM (m : Mem) (s : Int × (Nat → Int32)) (w z : Nat → Int32) : Prop := (m 0 11).toInt = s.1 ∧ -1 ≤ s.1 ∧ (∀ f, f < 8 → m 7 f = s.2 f) ∧ (∀ f, f < 8 → m 6 f = w f) ∧ ∀ f, f ≠ 11 → m 0 f = z f
theorem QM_set {m : Mem} {s : Int × (Nat → Int32)} {w z : Nat → Int32} (h : QM m s w z) (q : Nat) (v : Int32) : QM (up m 6 q v) s (upd w q v) z := by
  obtain ⟨a, b, c, d, e⟩ := h
  refine ⟨by rw [up_ne (Or.inl (by decide))]; exact a, b, fun f hf => by rw [up_ne (Or.inl (by decide))]; exact c f hf, fun f hf => ?_, fun f hf => by rw [up_ne (Or.inl (by decide))]; exact e f hf⟩
  by_cases x : f = q
  · subst x; rw [up_eq]; unfold upd; rw [if_pos rfl]
  · rw [up_ne (Or.inr x)]; unfold upd; rw [if_neg x]; exact d f hf
theorem QM_w {m : Mem} {s : Int × (Nat → Int32)} {w w2 z : Nat → Int32} (h : QM m s w z) (e : ∀ f, f < 8 → w f = w2 f) : QM m s w2 z := ⟨h.1, h.2.1, h.2.2.1, fun f hf => (h.2.2.2.1 f hf).trans (e f hf), h.2.2.2.2⟩
theorem upd2 {w : Nat → Int32} {q : Nat} {v : Int32} (h : w q = 9) : upd (upd w q v) q 9 = w := by
  funext f
  unfold upd
  by_cases x : f = q
  · rw [if_pos x, x, h]
  · rw [if_neg x, if_neg x]
theorem jo_row {m : Mem} (e : m 1 = mg 1) (p q : Int32) : f_X6_canEat m 1 p q = f_X6_canEat mg 1 p q ∧ f_X6_joysOf m 1 p q = f_X6_joysOf mg 1 p q := by
  refine ⟨?_, ?_⟩
  · unfold f_X6_canEat f_X6_canLook; rw [e]
  · unfold f_X6_joysOf f_X6_eaterJoy f_X6_bites f_X6_gazes; rw [e]
theorem stp_add {A : Type} (v j c : Int) (s : Int × A) (a : A) : stp (v + j) s (c, a) = stp v s (j + c, a) := by
  unfold stp
  rw [Int.add_assoc]
theorem stp_ge {A : Type} {v : Int} {s : Int × A} {c : Int × A} (h : -1 ≤ s.1) : -1 ≤ (stp v s c).1 := by
  unfold stp
  split
  · show -1 ≤ v + c.1; omega
  · exact h
/-- the end of the search: kept, if it is better -/
theorem end_L {F : Mem → Int32 → Int32 → Int32 → Int32 → Mem} {g : Mem} {p0 p1 p2 p3 : Int32} {w z : Nat → Int32} {y : Nat → Int32} {b : Int} (hb : -1 ≤ b) (hv : b < p3.toInt) : ∀ (n : Nat) (a : Int32) (m : Mem), lc a 8 n → ((m 0 11).toInt = b ∧ (∀ f, f < 8 → m 7 f = if f < ix a then w f else y f) ∧ (∀ f, f < 8 → m 6 f = w f) ∧ (∀ f, f ≠ 11 → m 0 f = z f) ∧ a.toInt ≤ 8) → QM (fb_X6_pairsFrom_22 g F p0 p1 p2 p3 n a m) (p3.toInt, w) w z := by
  intro n
  induction n with
  | zero => intro a m h1; exact absurd h1.2 (Nat.not_lt_zero _)
  | succ n ih =>
    intro a m h1 hI
    obtain ⟨i1, i2, i3, i4, i5⟩ := hI
    have e8 : (8 : Int32).toInt = 8 := rfl
    have xa := ix_toInt h1.1
    rw [fb_X6_pairsFrom_22]
    by_cases c : (8 : Int32) ≤ a
    · have c2 := i_le.mp c
      rw [if_pos c]
      unfold fb_X6_pairsFrom_m2
      refine ⟨?_, by show -1 ≤ p3.toInt; omega, fun f hf => ?_, fun f hf => ?_, fun f hf => ?_⟩
      · rw [up_eq, most_toInt]; show _ = p3.toInt; omega
      · rw [up_ne (Or.inl (by decide)), i2 f hf, if_pos (by omega)]
      · rw [up_ne (Or.inl (by decide))]; exact i3 f hf
      · rw [up_ne (Or.inr hf)]; exact i4 f hf
    · have c2 := lt_of_nle c
      have n1 := lc_stepN h1 c
      have e1 : (a + 1).toInt = a.toInt + 1 := inc_toInt h1.1 c2
      have h10 := h1.1
      have xa1 := ix_toInt (x := a + 1) (by omega)
      rw [if_neg c]
      unfold fb_X6_pairsFrom_m3
      refine ih _ _ n1 ⟨?_, fun f hf => ?_, fun f hf => ?_, fun f hf => ?_, by omega⟩
      · rw [up_ne (Or.inl (by decide))]; exact i1
      · by_cases x : f = ix a
        · subst x; rw [up_eq, if_pos (by omega)]; exact i3 _ hf
        · rw [up_ne (Or.inr x), i2 f hf]
          by_cases y : f < ix a
          · rw [if_pos y, if_pos (by omega)]
          · rw [if_neg y, if_neg (by omega)]
      · rw [up_ne (Or.inl (by decide))]; exact i3 f hf
      · rw [up_ne (Or.inl (by decide))]; exact i4 f hf

/-- the others one behind the other, turn 0 -/
theorem oth_0 (r : RB mg 1) {N : Nat} (hN : mg 1 0 = nI N) (N8 : N ≤ 8) {F : Mem → Int32 → Int32 → Int32 → Int32 → Mem} {g gx : Mem} {p t l : Nat} {vI : Int32} {v : Int} (hv : vI.toInt = v) (v0 : 0 ≤ v) (v1 : v ≤ 19 * p) (hp : p < N) (ht : t < 256) {R : List Nat} (hR : R = fl (fun i => !t.testBit i) (N - (p + 1)) (p + 1)) {w z : Nat → Int32} (hw : ∀ x, (x = p ∨ x ∈ R) → w x = 9) (hFN : ∀ (g : Mem) (a b c d : Int32), NQ g (F g a b c d))
    (hF : ∀ (m : Mem) (t2 : Nat) (v2 : Int32), t2 < 256 → 0 ≤ v2.toInt → v2.toInt ≤ 19 * (p + 1 : Nat) → m 1 = mg 1 → ∀ (s : Int × (Nat → Int32)) (w2 : Nat → Int32), (∀ x, x ∈ fl (fun i => !t2.testBit i) (N - (p + 1)) (p + 1) → w2 x = 9) → QM m s w2 z → QM (F m (nI (p + 1)) (nI t2) (nI l) v2) (stp v2.toInt s (PV (jo mg) 8 l (fl (fun i => !t2.testBit i) (N - (p + 1)) (p + 1)), PX (jo mg) 8 l (fl (fun i => !t2.testBit i) (N - (p + 1)) (p + 1)) w2)) w2 z)
    {K : Int32 → Mem → Mem} {G : Int × (Nat → Int32) → Int × (Nat → Int32)} (hK : ∀ (s : Int × (Nat → Int32)) (m : Mem), m 1 = mg 1 → QM m s w z → QM (K (0 + 1) m) (G s) w z) :
    ∀ (j n a : Nat) (m : Mem) (s : Int × (Nat → Int32)), p < a → a + j = N → j < n → m 1 = mg 1 → QM m s w z → QM (fb_X6_pairsFrom_102 g F (nI p) (nI t) (nI l + 1) vI K 0 gx n (nI a) m) (G (((fl (fun i => !t.testBit i) j a).map (fun q => (cnd (jo mg p q) (PV (jo mg) 7 l (R.erase q)), PX (jo mg) 7 l (R.erase q) (upd w p (nI q))))).foldl (stp v) s)) w z := by
  intro j
  induction j with
  | zero =>
    intro n a m s ha hj hn hm hq
    obtain ⟨k, rfl⟩ : ∃ k, n = k + 1 := ⟨n - 1, by omega⟩
    have e : m 1 0 = nI N := (congrFun hm 0).trans hN
    rw [fb_X6_pairsFrom_102, e, if_pos (nI_le (by omega) (by omega)), fl, List.map_nil, List.foldl_nil]
    exact hK s m hm hq
  | succ j ih =>
    intro n a m s ha hj hn hm hq
    obtain ⟨k, rfl⟩ : ∃ k, n = k + 1 := ⟨n - 1, by omega⟩
    have e : m 1 0 = nI N := (congrFun hm 0).trans hN
    have aR : a ∈ R ↔ (!t.testBit a) = true := by rw [hR, fl_mem]; exact ⟨fun h => h.2.2, fun h => ⟨by omega, by omega, h⟩⟩
    rw [fb_X6_pairsFrom_102, e, if_neg (nI_ge (by omega) (by omega)), if_pos (rfl : (0 : Int32) = 0), if_pos (rfl : (0 : Int32) = 0), bt1 ht (by omega), nI_1 a, fl]
    by_cases c : t.testBit a = true
    · have c2 : ¬ (!t.testBit a) = true := by rw [c]; decide
      rw [if_pos c, if_pos rfl, if_neg c2]
      exact ih k (a + 1) m s (by omega) (by omega) (by omega) hm hq
    · have c2 : (!t.testBit a) = true := by cases h : t.testBit a with
        | true => exact absurd h c
        | false => rfl
      rw [if_neg c, if_neg (by decide : ¬ (0 : Int32) = 1), if_pos c2, List.map_cons, List.foldl_cons, (jo_row hm _ _).1]
      have hw9 : w p = 9 := hw p (Or.inl rfl)
      by_cases d : f_X6_canEat mg 1 (nI p) (nI a) = 0
      · rw [if_pos d]
        have jn : jo mg p a = -1 := if_pos d
        have st : stp v s (cnd (jo mg p a) (PV (jo mg) 7 l (R.erase a)), PX (jo mg) 7 l (R.erase a) (upd w p (nI a))) = s := by
          unfold stp
          rw [jn]
          have : cnd (-1) (PV (jo mg) 7 l (R.erase a)) = -100000 := if_pos (by decide)
          rw [this, if_neg (by have := hq.2.1; show ¬ s.1 < v + -100000; omega)]
        rw [st]
        exact ih k (a + 1) m s (by omega) (by omega) (by omega) hm hq
      · rw [if_neg d]
        have jn : jo mg p a = (f_X6_joysOf mg 1 (nI p) (nI a)).toInt := if_neg d
        have ip : (nI p).toInt = p := nI_toInt (by omega)
        have ia : (nI a).toInt = a := nI_toInt (by omega)
        have iN : (mg 1 0).toInt = N := by rw [hN]; exact nI_toInt (by omega)
        have jr := (r.joys (p := nI p) (q := nI a) (by omega) (by omega) (by omega) (by omega)).2.2.2
        have q4 := QM_set hq p (nI a)
        have m4r : up m 6 p (nI a) 1 = mg 1 := (up_row (by decide)).trans hm
        obtain ⟨b1, b2⟩ := bt2 ht (show p < 8 by omega)
        obtain ⟨b3, b4⟩ := bt2 b2 (show a < 8 by omega)
        have L2 : fl (fun i => !(t ||| 2 ^ p ||| 2 ^ a).testBit i) (N - (p + 1)) (p + 1) = R.erase a := by
          rw [hR, ← fl_erase]
          refine fl_congr _ _ (fun i i1 i2 => ?_)
          rw [tb_or, tb_or]
          have x : decide (p = i) = false := decide_eq_false (by omega)
          rw [x, Bool.or_false]
          by_cases y : a = i
          · have y2 : i = a := y.symm
            simp [y2]
          · have y2 : ¬ i = a := fun q => y q.symm
            simp [y, y2]
        have sv : (vI + f_X6_joysOf mg 1 (nI p) (nI a)).toInt = v + jo mg p a := by rw [addS (by omega) (by omega), jn, hv]
        have key := hF (up m 6 p (nI a)) (t ||| 2 ^ p ||| 2 ^ a) (vI + f_X6_joysOf mg 1 (nI p) (nI a)) b4 (by omega) (by omega) m4r s (upd w p (nI a)) (fun x hx => by
          rw [L2] at hx
          have hx2 : x ∈ fl (fun i => (!t.testBit i) && decide (i ≠ a)) (N - (p + 1)) (p + 1) := by rw [fl_erase, ← hR]; exact hx
          have hx3 := (fl_mem _ _).mp hx2
          have ne : x ≠ p := by omega
          unfold upd
          rw [if_neg ne]
          exact hw x (Or.inr (List.mem_of_mem_erase hx))) q4
        rw [L2, sv, stp_add] at key
        have len : (R.erase a).length ≤ 7 := by
          have h1 := List.length_erase_le (a := a) (l := R)
          have h2 := fl_len (b := fun i => !t.testBit i) (N - (p + 1)) (p + 1)
          rw [← hR] at h2
          omega
        rw [PV_k 8 7 l _ (by omega) len, PX_k 8 7 l _ _ (by omega) len] at key
        have cn : cnd (jo mg p a) (PV (jo mg) 7 l (R.erase a)) = jo mg p a + PV (jo mg) 7 l (R.erase a) := if_neg (by rw [jn]; omega)
        rw [cn]
        have back := QM_w (QM_set key p 9) (fun f _ => congrFun (upd2 hw9) f)
        have fin : fb_X6_pairsFrom_m5 g F (nI p) (nI t) (nI l + 1) vI (nI a) m = up (F (up m 6 p (nI a)) (nI (p + 1)) (nI (t ||| 2 ^ p ||| 2 ^ a)) (nI l) (vI + f_X6_joysOf mg 1 (nI p) (nI a))) 6 p 9 := by
          have m4e : fb_X6_pairsFrom_m4 g F (nI p) (nI t) (nI l + 1) vI (nI a) m = up m 6 p (nI a) := by
            unfold fb_X6_pairsFrom_m4
            rw [show ix (nI p) = p from nI_clamp (by omega)]
          unfold fb_X6_pairsFrom_m5
          rw [m4e, (jo_row m4r _ _).2, nI_1, b1, b3, Int32.add_sub_cancel, show ix (nI p) = p from nI_clamp (by omega)]
        rw [fin]
        refine ih k (a + 1) _ _ (by omega) (by omega) (by omega) ?_ back
        have nq := hFN (up m 6 p (nI a)) (nI (p + 1)) (nI (t ||| 2 ^ p ||| 2 ^ a)) (nI l) (vI + f_X6_joysOf mg 1 (nI p) (nI a))
        rw [up_row (by decide)]
        exact (funext fun f => nq 1 f (by decide) (by decide) (by decide)).trans m4r

/-- the others one behind the other, turn 1 -/
theorem oth_1 (r : RB mg 1) {N : Nat} (hN : mg 1 0 = nI N) (N8 : N ≤ 8) {F : Mem → Int32 → Int32 → Int32 → Int32 → Mem} {g gx : Mem} {p t l : Nat} {vI : Int32} {v : Int} (hv : vI.toInt = v) (v0 : 0 ≤ v) (v1 : v ≤ 19 * p) (hp : p < N) (ht : t < 256) {R : List Nat} (hR : R = fl (fun i => !t.testBit i) (N - (p + 1)) (p + 1)) {w z : Nat → Int32} (hw : ∀ x, (x = p ∨ x ∈ R) → w x = 9) (hFN : ∀ (g : Mem) (a b c d : Int32), NQ g (F g a b c d))
    (hF : ∀ (m : Mem) (t2 : Nat) (v2 : Int32), t2 < 256 → 0 ≤ v2.toInt → v2.toInt ≤ 19 * (p + 1 : Nat) → m 1 = mg 1 → ∀ (s : Int × (Nat → Int32)) (w2 : Nat → Int32), (∀ x, x ∈ fl (fun i => !t2.testBit i) (N - (p + 1)) (p + 1) → w2 x = 9) → QM m s w2 z → QM (F m (nI (p + 1)) (nI t2) (nI l) v2) (stp v2.toInt s (PV (jo mg) 8 l (fl (fun i => !t2.testBit i) (N - (p + 1)) (p + 1)), PX (jo mg) 8 l (fl (fun i => !t2.testBit i) (N - (p + 1)) (p + 1)) w2)) w2 z)
    {K : Int32 → Mem → Mem} {G : Int × (Nat → Int32) → Int × (Nat → Int32)} (hK : ∀ (s : Int × (Nat → Int32)) (m : Mem), m 1 = mg 1 → QM m s w z → QM (K (1 + 1) m) (G s) w z) :
    ∀ (j n a : Nat) (m : Mem) (s : Int × (Nat → Int32)), p < a → a + j = N → j < n → m 1 = mg 1 → QM m s w z → QM (fb_X6_pairsFrom_102 g F (nI p) (nI t) (nI l + 1) vI K 1 gx n (nI a) m) (G (((fl (fun i => !t.testBit i) j a).map (fun q => (cnd (jo mg q p) (PV (jo mg) 7 l (R.erase q)), PX (jo mg) 7 l (R.erase q) (upd w q (nI p))))).foldl (stp v) s)) w z := by
  intro j
  induction j with
  | zero =>
    intro n a m s ha hj hn hm hq
    obtain ⟨k, rfl⟩ : ∃ k, n = k + 1 := ⟨n - 1, by omega⟩
    have e : m 1 0 = nI N := (congrFun hm 0).trans hN
    rw [fb_X6_pairsFrom_102, e, if_pos (nI_le (by omega) (by omega)), fl, List.map_nil, List.foldl_nil]
    exact hK s m hm hq
  | succ j ih =>
    intro n a m s ha hj hn hm hq
    obtain ⟨k, rfl⟩ : ∃ k, n = k + 1 := ⟨n - 1, by omega⟩
    have e : m 1 0 = nI N := (congrFun hm 0).trans hN
    have aR : a ∈ R ↔ (!t.testBit a) = true := by rw [hR, fl_mem]; exact ⟨fun h => h.2.2, fun h => ⟨by omega, by omega, h⟩⟩
    rw [fb_X6_pairsFrom_102, e, if_neg (nI_ge (by omega) (by omega)), if_neg (by decide : ¬ (1 : Int32) = 0), if_neg (by decide : ¬ (1 : Int32) = 0), bt1 ht (by omega), nI_1 a, fl]
    by_cases c : t.testBit a = true
    · have c2 : ¬ (!t.testBit a) = true := by rw [c]; decide
      rw [if_pos c, if_pos rfl, if_neg c2]
      exact ih k (a + 1) m s (by omega) (by omega) (by omega) hm hq
    · have c2 : (!t.testBit a) = true := by cases h : t.testBit a with
        | true => exact absurd h c
        | false => rfl
      rw [if_neg c, if_neg (by decide : ¬ (0 : Int32) = 1), if_pos c2, List.map_cons, List.foldl_cons, (jo_row hm _ _).1]
      have hw9 : w a = 9 := hw a (Or.inr (aR.mpr c2))
      by_cases d : f_X6_canEat mg 1 (nI a) (nI p) = 0
      · rw [if_pos d]
        have jn : jo mg a p = -1 := if_pos d
        have st : stp v s (cnd (jo mg a p) (PV (jo mg) 7 l (R.erase a)), PX (jo mg) 7 l (R.erase a) (upd w a (nI p))) = s := by
          unfold stp
          rw [jn]
          have : cnd (-1) (PV (jo mg) 7 l (R.erase a)) = -100000 := if_pos (by decide)
          rw [this, if_neg (by have := hq.2.1; show ¬ s.1 < v + -100000; omega)]
        rw [st]
        exact ih k (a + 1) m s (by omega) (by omega) (by omega) hm hq
      · rw [if_neg d]
        have jn : jo mg a p = (f_X6_joysOf mg 1 (nI a) (nI p)).toInt := if_neg d
        have ip : (nI p).toInt = p := nI_toInt (by omega)
        have ia : (nI a).toInt = a := nI_toInt (by omega)
        have iN : (mg 1 0).toInt = N := by rw [hN]; exact nI_toInt (by omega)
        have jr := (r.joys (p := nI a) (q := nI p) (by omega) (by omega) (by omega) (by omega)).2.2.2
        have q4 := QM_set hq a (nI p)
        have m4r : up m 6 a (nI p) 1 = mg 1 := (up_row (by decide)).trans hm
        obtain ⟨b1, b2⟩ := bt2 ht (show p < 8 by omega)
        obtain ⟨b3, b4⟩ := bt2 b2 (show a < 8 by omega)
        have L2 : fl (fun i => !(t ||| 2 ^ p ||| 2 ^ a).testBit i) (N - (p + 1)) (p + 1) = R.erase a := by
          rw [hR, ← fl_erase]
          refine fl_congr _ _ (fun i i1 i2 => ?_)
          rw [tb_or, tb_or]
          have x : decide (p = i) = false := decide_eq_false (by omega)
          rw [x, Bool.or_false]
          by_cases y : a = i
          · have y2 : i = a := y.symm
            simp [y2]
          · have y2 : ¬ i = a := fun q => y q.symm
            simp [y, y2]
        have sv : (vI + f_X6_joysOf mg 1 (nI a) (nI p)).toInt = v + jo mg a p := by rw [addS (by omega) (by omega), jn, hv]
        have key := hF (up m 6 a (nI p)) (t ||| 2 ^ p ||| 2 ^ a) (vI + f_X6_joysOf mg 1 (nI a) (nI p)) b4 (by omega) (by omega) m4r s (upd w a (nI p)) (fun x hx => by
          rw [L2] at hx
          have hx2 : x ∈ fl (fun i => (!t.testBit i) && decide (i ≠ a)) (N - (p + 1)) (p + 1) := by rw [fl_erase, ← hR]; exact hx
          have hx3 := (fl_mem _ _).mp hx2
          have ne : x ≠ a := by have := hx3.2.2; intro q; rw [q] at this; simp at this
          unfold upd
          rw [if_neg ne]
          exact hw x (Or.inr (List.mem_of_mem_erase hx))) q4
        rw [L2, sv, stp_add] at key
        have len : (R.erase a).length ≤ 7 := by
          have h1 := List.length_erase_le (a := a) (l := R)
          have h2 := fl_len (b := fun i => !t.testBit i) (N - (p + 1)) (p + 1)
          rw [← hR] at h2
          omega
        rw [PV_k 8 7 l _ (by omega) len, PX_k 8 7 l _ _ (by omega) len] at key
        have cn : cnd (jo mg a p) (PV (jo mg) 7 l (R.erase a)) = jo mg a p + PV (jo mg) 7 l (R.erase a) := if_neg (by rw [jn]; omega)
        rw [cn]
        have back := QM_w (QM_set key a 9) (fun f _ => congrFun (upd2 hw9) f)
        have fin : fb_X6_pairsFrom_m11 g F (nI p) (nI t) (nI l + 1) vI (nI a) m = up (F (up m 6 a (nI p)) (nI (p + 1)) (nI (t ||| 2 ^ p ||| 2 ^ a)) (nI l) (vI + f_X6_joysOf mg 1 (nI a) (nI p))) 6 a 9 := by
          have m4e : fb_X6_pairsFrom_m10 g F (nI p) (nI t) (nI l + 1) vI (nI a) m = up m 6 a (nI p) := by
            unfold fb_X6_pairsFrom_m10
            rw [show ix (nI a) = a from nI_clamp (by omega)]
          unfold fb_X6_pairsFrom_m11
          rw [m4e, (jo_row m4r _ _).2, nI_1, b1, b3, Int32.add_sub_cancel, show ix (nI a) = a from nI_clamp (by omega)]
        rw [fin]
        refine ih k (a + 1) _ _ (by omega) (by omega) (by omega) ?_ back
        have nq := hFN (up m 6 a (nI p)) (nI (p + 1)) (nI (t ||| 2 ^ p ||| 2 ^ a)) (nI l) (vI + f_X6_joysOf mg 1 (nI a) (nI p))
        rw [up_row (by decide)]
        exact (funext fun f => nq 1 f (by decide) (by decide) (by decide)).trans m4r

/-- the search -/
theorem dfs (r : RB mg 1) {N : Nat} (hN : mg 1 0 = nI N) (N8 : N ≤ 8) {z : Nat → Int32} : ∀ (nn : Nat) (m : Mem) (p t l : Nat) (vI : Int32), p ≤ N → N - p < nn → t < 256 → l ≤ 200 → 0 ≤ vI.toInt → vI.toInt ≤ 19 * p → m 1 = mg 1 → ∀ (s : Int × (Nat → Int32)) (w : Nat → Int32), (∀ x, x ∈ fl (fun i => !t.testBit i) (N - p) p → w x = 9) → QM m s w z →
    QM (fr_X6_pairsFrom nn m (nI p) (nI t) (nI l) vI) (stp vI.toInt s (PV (jo mg) 8 l (fl (fun i => !t.testBit i) (N - p) p), PX (jo mg) 8 l (fl (fun i => !t.testBit i) (N - p) p) w)) w z := by
  intro nn
  induction nn with
  | zero => intro m p t l vI _ h; exact absurd h (Nat.not_lt_zero _)
  | succ nn ih =>
    intro m p t l vI hp hnn ht hl v0 v1 hm s w hw hq
    have e : m 1 0 = nI N := (congrFun hm 0).trans hN
    have u : fr_X6_pairsFrom (nn + 1) m (nI p) (nI t) (nI l) vI = fb_X6_pairsFrom m (fr_X6_pairsFrom nn) (nI p) (nI t) (nI l) vI := rfl
    rw [u]
    unfold fb_X6_pairsFrom
    rw [e]
    by_cases c : p = N
    · subst c
      rw [if_pos rfl, Nat.sub_self, fl, PV_nil, PX_nil]
      by_cases d : vI ≤ m 0 11
      · have d2 := i_le.mp d
        rw [if_pos d]
        have st : stp vI.toInt s (0, w) = s := by unfold stp; rw [if_neg (by have := hq.1; show ¬ s.1 < vI.toInt + 0; omega)]
        rw [st]
        obtain ⟨q1, q2, q3, q4, q5⟩ := hq
        unfold fb_X6_pairsFrom_m1
        refine ⟨?_, q2, fun f hf => by rw [up_ne (Or.inl (by decide))]; exact q3 f hf, fun f hf => by rw [up_ne (Or.inl (by decide))]; exact q4 f hf, fun f hf => by rw [up_ne (Or.inr hf)]; exact q5 f hf⟩
        rw [up_eq, most_toInt]
        omega
      · have d2 := lt_of_nle d
        rw [if_neg d]
        obtain ⟨q1, q2, q3, q4, q5⟩ := hq
        have st : stp vI.toInt s (0, w) = (vI.toInt, w) := by
          unfold stp
          rw [if_pos (by show s.1 < vI.toInt + 0; omega)]
          show (vI.toInt + 0, w) = (vI.toInt, w)
          rw [Int.add_zero]
        rw [st]
        have i0 : ix (0 : Int32) = 0 := by decide
        exact end_L (b := s.1) (y := s.2) q2 (by omega) 9 0 m (lc_0 (by decide) (by decide)) ⟨q1, fun f hf => by rw [i0, if_neg (Nat.not_lt_zero _)]; exact q3 f hf, q4, q5, by decide⟩
    · have lt : p < N := by omega
      have ne : ¬ nI p = nI N := fun q => c ((nI_eq (by omega) (by omega)).mp q)
      have Lc : fl (fun i => !t.testBit i) (N - p) p = if (!t.testBit p) = true then p :: fl (fun i => !t.testBit i) (N - (p + 1)) (p + 1) else fl (fun i => !t.testBit i) (N - (p + 1)) (p + 1) := by
        rw [show N - p = (N - (p + 1)) + 1 by omega, fl]
      rw [if_neg ne, bt1 ht (by omega), nI_1]
      by_cases d : t.testBit p = true
      · rw [d] at Lc
        rw [d, if_pos rfl, if_pos rfl]
        have Lc2 : fl (fun i => !t.testBit i) (N - p) p = fl (fun i => !t.testBit i) (N - (p + 1)) (p + 1) := Lc
        rw [Lc2] at hw ⊢
        exact ih m (p + 1) t l vI (by omega) (by omega) ht hl v0 (by omega) hm s w hw hq
      · have d2 : (!t.testBit p) = true := by cases h : t.testBit p with
          | true => exact absurd h d
          | false => rfl
        rw [if_pos d2] at Lc
        rw [if_neg d, if_neg (by decide : ¬ (0 : Int32) = 1)]
        rw [Lc] at hw ⊢
        have hwR : ∀ x, x ∈ fl (fun i => !t.testBit i) (N - (p + 1)) (p + 1) → w x = 9 := fun x hx => hw x (List.mem_cons_of_mem _ hx)
        have len := fl_len (b := fun i => !t.testBit i) (N - (p + 1)) (p + 1)
        -- neither
        have nei : ∀ (s : Int × (Nat → Int32)) (m : Mem), m 1 = mg 1 → QM m s w z → QM (fr_X6_pairsFrom nn m (nI (p + 1)) (nI t) (nI l) vI) (stp vI.toInt s (PV (jo mg) 7 l (fl (fun i => !t.testBit i) (N - (p + 1)) (p + 1)), PX (jo mg) 7 l (fl (fun i => !t.testBit i) (N - (p + 1)) (p + 1)) w)) w z := fun s m hm hq => by
          have := ih m (p + 1) t l vI (by omega) (by omega) ht hl v0 (by omega) hm s w hwR hq
          rw [PV_k 8 7 l _ (by omega) (by omega), PX_k 8 7 l _ _ (by omega) (by omega)] at this
          exact this
        cases l with
        | zero =>
          rw [fb_X6_pairsFrom_87, if_neg (by decide : ¬ (2 : Int32) ≤ 0), nI_0, if_pos (by decide : (0 : Int32) ≤ 0), nI_1]
          rw [PV, PX]
          have := nei s m hm hq
          rw [nI_0] at this
          exact this
        | succ l =>
          have pos : ¬ nI (l + 1) ≤ 0 := nI_nle (by omega) (by omega)
          have FN := fr_NQ nn
          have hF : ∀ (m : Mem) (t2 : Nat) (v2 : Int32), t2 < 256 → 0 ≤ v2.toInt → v2.toInt ≤ 19 * (p + 1 : Nat) → m 1 = mg 1 → ∀ (s : Int × (Nat → Int32)) (w2 : Nat → Int32), (∀ x, x ∈ fl (fun i => !t2.testBit i) (N - (p + 1)) (p + 1) → w2 x = 9) → QM m s w2 z → QM (fr_X6_pairsFrom nn m (nI (p + 1)) (nI t2) (nI l) v2) (stp v2.toInt s (PV (jo mg) 8 l (fl (fun i => !t2.testBit i) (N - (p + 1)) (p + 1)), PX (jo mg) 8 l (fl (fun i => !t2.testBit i) (N - (p + 1)) (p + 1)) w2)) w2 z := fun m t2 v2 a1 a2 a3 a4 s w2 a5 a6 => ih m (p + 1) t2 l v2 (by omega) (by omega) a1 (by omega) a2 a3 a4 s w2 a5 a6
          rw [fb_X6_pairsFrom_87, if_neg (by decide : ¬ (2 : Int32) ≤ 0), if_neg pos, nI_1]
          rw [← PV_all 7 l p (fl (fun i => !t.testBit i) (N - (p + 1)) (p + 1)) w vI.toInt s, List.foldl_append, List.foldl_append]
          have hww : ∀ x, (x = p ∨ x ∈ fl (fun i => !t.testBit i) (N - (p + 1)) (p + 1)) → w x = 9 := fun x hx => by
            rcases hx with rfl | hx
            · exact hw x List.mem_cons_self
            · exact hwR x hx
          rw [← nI_1 l]
          refine oth_0 r hN N8 (v := vI.toInt) rfl v0 v1 lt ht rfl hww FN hF (G := fun s => List.foldl (stp vI.toInt) (List.foldl (stp vI.toInt) s _) _) (fun s m hm hq => ?_) (N - (p + 1)) 9 (p + 1) m s (by omega) (by omega) (by omega) hm hq
          have p1 : ¬ (2 : Int32) ≤ 0 + 1 := by decide
          have pos' : ¬ nI l + 1 ≤ 0 := by rw [nI_1]; exact pos
          have z1 : (0 : Int32) + 1 = 1 := by decide
          rw [fb_X6_pairsFrom_87, if_neg p1, if_neg pos', nI_1 p, z1]
          refine oth_1 r hN N8 (v := vI.toInt) rfl v0 v1 lt ht rfl hww FN hF (G := fun s => List.foldl (stp vI.toInt) s _) (fun s m hm hq => ?_) (N - (p + 1)) 9 (p + 1) m s (by omega) (by omega) (by omega) hm hq
          have p2 : (2 : Int32) ≤ 1 + 1 := by decide
          rw [fb_X6_pairsFrom_87, if_pos p2, nI_1 p, nI_1 l, List.foldl_cons, List.foldl_nil]
          exact nei s m hm hq
end PN
