section FRH
variable {cg mg : Mem}
def mem0 : Mem := fun _ _ => 0
def pwr (u : Int64) : Nat → Int64 → Int64
  | 0, x => x
  | n + 1, x => pwr u n (x * u)
def sg (f : Nat → Int64) : Nat → Nat → Int64
  | 0, _ => 0
  | j + 1, c => f c + sg f j (c + 1)
def sl (f : Nat → Int64) : List Nat → Int64
  | [] => 0
  | x :: L => f x + sl f L
def bitsN (s : Nat) : Nat := ix (f_X6_bits mem0 (nI s))
def LB (N : Nat) : List Nat := (List.range' 0 (2 ^ N)).map bitsN
theorem sg_front (f : Nat → Int64) : ∀ (m j c0 : Nat), (∀ c, c0 ≤ c → c < c0 + m → f c = 0) → sg f (m + j) c0 = sg f j (c0 + m) := by
  intro m
  induction m with
  | zero => intro j c0 _; rw [Nat.zero_add, Nat.add_zero]
  | succ m ih =>
    intro j c0 h
    rw [show m + 1 + j = (m + j) + 1 by omega, sg, h c0 (Nat.le_refl _) (by omega), Int64.zero_add, ih j (c0 + 1) (fun c h1 h2 => h c (by omega) (by omega))]
    rw [show c0 + 1 + m = c0 + (m + 1) by omega]
theorem sg_congr {f g : Nat → Int64} : ∀ (j c0 : Nat), (∀ c, c0 ≤ c → c < c0 + j → f c = g c) → sg f j c0 = sg g j c0 := by
  intro j
  induction j with
  | zero => intro c0 _; rfl
  | succ j ih =>
    intro c0 h
    rw [sg, sg, h c0 (Nat.le_refl _) (by omega), ih (c0 + 1) (fun c h1 h2 => h c (by omega) (by omega))]
theorem sg_bump (f : Nat → Int64) (x : Nat) (v : Int64) : ∀ (j c0 : Nat), c0 ≤ x → x < c0 + j → sg (fun c => f c + if x = c then v else 0) j c0 = v + sg f j c0 := by
  intro j
  induction j with
  | zero => intro c0 h1 h2; omega
  | succ j ih =>
    intro c0 h1 h2
    rw [sg, sg]
    by_cases e : x = c0
    · rw [if_pos e]
      have := sg_congr (f := fun c => f c + if x = c then v else 0) (g := f) j (c0 + 1) (fun c h3 _ => by
        show f c + (if x = c then v else 0) = f c
        rw [if_neg (by omega), Int64.add_zero])
      rw [this, Int64.add_comm (f c0) v, Int64.add_assoc]
    · rw [if_neg e, ih (c0 + 1) (by omega) (by omega), Int64.add_zero, ← Int64.add_assoc, ← Int64.add_assoc, Int64.add_comm (f c0) v]
theorem sl_cnt (f : Nat → Int64) : ∀ L : List Nat, (∀ x, x ∈ L → x < 11) → sl f L = sg (fun c => lN (L.count c) * f c) 11 0 := by
  intro L
  induction L with
  | nil =>
    intro _
    rw [sl, sg_front _ 11 0 0 (fun c _ _ => by rw [List.count_nil]; exact Int64.zero_mul)]
    rfl
  | cons x L ih =>
    intro h
    have hx := h x List.mem_cons_self
    rw [sl, ih (fun y hy => h y (List.mem_cons_of_mem _ hy)), ← sg_bump _ x (f x) 11 0 (Nat.zero_le _) (by omega)]
    refine sg_congr 11 0 (fun c _ _ => ?_)
    by_cases e : x = c
    · subst e
      rw [if_pos rfl, List.count_cons_self, ← lN_add, Int64.add_mul]
      show _ = lN (L.count x) * f x + 1 * f x
      rw [Int64.one_mul]
    · rw [if_neg e, Int64.add_zero, List.count_cons_of_ne e]
theorem cnt_all : ∀ N : Fin 9, ∀ c : Fin 11, lN ((LB N).count (c : Nat)) = if (c : Nat) ≤ (N : Nat) then f_X5_choices mem0 (nI N) (nI c) else 0 := by decide +kernel
theorem choices_g (g g2 : Mem) (a b : Int32) : ∀ (n : Nat) (x : Int64) (y : Int32), f_X5_choices_5 g a b n x y = f_X5_choices_5 g2 a b n x y := by
  intro n
  induction n with
  | zero => intro x y; rfl
  | succ n ih =>
    intro x y
    rw [f_X5_choices_5, f_X5_choices_5, ih]
theorem pw_5 {p0 p1 : Int32} : ∀ (n : Nat) (x : Int64) (a : Int32), lc a p1 n → f_X5_power_5 cg p0 p1 n x a = pwr (Int32.toInt64 p0) (p1.toInt - a.toInt).toNat x := by
  intro n
  induction n with
  | zero => intro x a h1; exact absurd h1.2 (Nat.not_lt_zero _)
  | succ n ih =>
    intro x a h1
    rw [f_X5_power_5]
    by_cases c : p1 ≤ a
    · have c2 := i_le.mp c
      rw [if_pos c, show (p1.toInt - a.toInt).toNat = 0 by omega, pwr]
    · have c2 := lt_of_nle c
      have e1 : (a + 1).toInt = a.toInt + 1 := inc_toInt h1.1 c2
      rw [if_neg c, ih _ _ (lc_stepN h1 c), show (p1.toInt - a.toInt).toNat = (p1.toInt - (a + 1).toInt).toNat + 1 by omega, pwr]
theorem power_eq {p0 p1 : Int32} (h0 : 0 ≤ p1.toInt) (h8 : p1.toInt ≤ 8) : f_X5_power cg p0 p1 = pwr (Int32.toInt64 p0) (ix p1) 1 := by
  have e0 : (0 : Int32).toInt = 0 := rfl
  have x := ix_toInt h0
  unfold f_X5_power
  rw [pw_5 9 1 0 (lc_0 (by omega) (by decide)), show (p1.toInt - (0 : Int32).toInt).toNat = ix p1 by omega]
theorem cr_52 {N t k w : Int32} : ∀ (n : Nat) (x : Int64) (a : Int32), lc a N n → f_X6_crowd_52 mg N t k w n x a = f_X6_crowd_74 mg N t k w (pwr (Int32.toInt64 t) (N.toInt - a.toInt).toNat x) 257 0 0 := by
  intro n
  induction n with
  | zero => intro x a h1; exact absurd h1.2 (Nat.not_lt_zero _)
  | succ n ih =>
    intro x a h1
    rw [f_X6_crowd_52]
    by_cases c : N ≤ a
    · have c2 := i_le.mp c
      rw [if_pos c, show (N.toInt - a.toInt).toNat = 0 by omega, pwr]
    · have c2 := lt_of_nle c
      have e1 : (a + 1).toInt = a.toInt + 1 := inc_toInt h1.1 c2
      rw [if_neg c, ih _ _ (lc_stepN h1 c), show (N.toInt - a.toInt).toNat = (N.toInt - (a + 1).toInt).toNat + 1 by omega, pwr]
theorem cr_92 {N t k w b9 : Int32} {b5 : Int64} {K : Int64 → Int32 → Int64} : ∀ (n : Nat) (x : Int64) (a : Int32), lc a N n → f_X6_crowd_92 mg N t k w K b5 b9 n x a = K (b5 + if f_X6_bits mg b9 / 2 < k then 0 else pwr (Int32.toInt64 (t - 1)) (N.toInt - a.toInt).toNat x) (b9 + 1) := by
  intro n
  induction n with
  | zero => intro x a h1; exact absurd h1.2 (Nat.not_lt_zero _)
  | succ n ih =>
    intro x a h1
    rw [f_X6_crowd_92]
    by_cases c : N ≤ a
    · have c2 := i_le.mp c
      rw [if_pos c, show (N.toInt - a.toInt).toNat = 0 by omega, pwr]
      split <;> rfl
    · have c2 := lt_of_nle c
      have e1 : (a + 1).toInt = a.toInt + 1 := inc_toInt h1.1 c2
      rw [if_neg c, ih _ _ (lc_stepN h1 c), show (N.toInt - a.toInt).toNat = (N.toInt - (a + 1).toInt).toNat + 1 by omega, pwr]
/-- the weight of a set of c of them -/
def Wc (u : Int64) (N k c : Nat) : Int64 := if c < 2 * k then 0 else pwr u (N - c) 1
theorem cr_74 {N t k w : Int32} (N0 : 0 ≤ N.toInt) (N8 : N.toInt ≤ 8) (k0 : 0 ≤ k.toInt) (k4 : k.toInt ≤ 4) {a7 : Int64} : ∀ (q n j : Nat) (b5 : Int64), j + q = 2 ^ (ix N) → q < n → f_X6_crowd_74 mg N t k w a7 n b5 (nI j) = f_X6_partOf mg (b5 + sl (Wc (Int32.toInt64 (t - 1)) (ix N) (ix k)) ((List.range' j q).map bitsN)) a7 w := by
  have sh : ∀ i : Fin 9, ((1 : Int32) <<< (nI i &&& 31)) = nI (2 ^ (i : Nat)) := by decide +kernel
  have xN := ix_toInt N0
  have xk := ix_toInt k0
  have eN : N = nI (ix N) := by
    obtain ⟨j, hj, rfl⟩ := nn_of N0
    exact (congrArg nI (nI_clamp hj)).symm
  have shN : ((1 : Int32) <<< (N &&& 31)) = nI (2 ^ (ix N)) := by
    have := sh ⟨ix N, by omega⟩
    rw [eN]
    rw [← eN]
    rw [← eN] at this
    exact this
  have p8 : 2 ^ (ix N) ≤ 2 ^ 8 := Nat.pow_le_pow_right (by decide) (by omega)
  intro q
  induction q with
  | zero =>
    intro n j b5 hj hn
    obtain ⟨m, rfl⟩ : ∃ m, n = m + 1 := ⟨n - 1, by omega⟩
    rw [f_X6_crowd_74, shN, if_pos (nI_le (by omega) (by omega))]
    show _ = f_X6_partOf mg (b5 + sl _ ((List.range' j 0).map bitsN)) a7 w
    rw [List.range'_zero, List.map_nil, sl, Int64.add_zero]
  | succ q ih =>
    intro n j b5 hj hn
    obtain ⟨m, rfl⟩ : ∃ m, n = m + 1 := ⟨n - 1, by omega⟩
    have bg : f_X6_bits mg (nI j) = f_X6_bits mem0 (nI j) := bits_g _ _ _ _ _ _
    have br := bits_r (g := mg) (nI j)
    have xb := ix_toInt (x := f_X6_bits mem0 (nI j)) (by rw [← bg]; exact br.1)
    have t2 : (2 : Int32).toInt = 2 := rfl
    have d2 : (f_X6_bits mg (nI j) / 2).toInt = (f_X6_bits mg (nI j)).toInt / 2 := by rw [div_toInt br.1 (by omega), t2]
    have l : lc (f_X6_bits mg (nI j)) N 9 := lc_from br.1 (by omega) (by decide)
    rw [f_X6_crowd_74, shN, if_neg (nI_ge (by omega) (by omega)), cr_92 9 1 _ l, nI_1]
    rw [ih m (j + 1) _ (by omega) (by omega), List.range'_succ, List.map_cons, sl, Int64.add_assoc]
    have hw : (if f_X6_bits mg (nI j) / 2 < k then 0 else pwr (Int32.toInt64 (t - 1)) (N.toInt - (f_X6_bits mg (nI j)).toInt).toNat 1) = Wc (Int32.toInt64 (t - 1)) (ix N) (ix k) (bitsN j) := by
      unfold Wc bitsN
      by_cases c : f_X6_bits mg (nI j) / 2 < k
      · have c2 := i_lt.mp c
        rw [if_pos c, if_pos (by rw [bg] at d2 c2; omega)]
      · have c2 : ¬ (f_X6_bits mg (nI j) / 2).toInt < k.toInt := fun z => c (i_lt.mpr z)
        rw [if_neg c, if_neg (by rw [bg] at d2 c2; omega), show (N.toInt - (f_X6_bits mg (nI j)).toInt).toNat = ix N - ix (f_X6_bits mem0 (nI j)) by rw [bg]; omega]
    rw [hw]
/-- the class' term for c of them -/
def Tc (u : Int64) (N c : Nat) : Int64 := f_X5_choices mem0 (nI N) (nI c) * pwr u (N - c) 1
theorem cr_61 {N t k w : Int32} (N0 : 0 ≤ N.toInt) (N8 : N.toInt ≤ 8) : ∀ (q n c : Nat) (a6 : Int64), c ≤ 9 → q = (ix N + 1) - c → q < n → f_X5_crowd_61 cg N t k w n a6 (nI c) = f_X5_partInLeastTerms cg (a6 + sg (Tc (Int32.toInt64 (t - 1)) (ix N)) q c) (f_X5_power cg t N) w := by
  have xN := ix_toInt N0
  have eN : N = nI (ix N) := by
    obtain ⟨j, hj, rfl⟩ := nn_of N0
    exact (congrArg nI (nI_clamp hj)).symm
  intro q
  induction q with
  | zero =>
    intro n c a6 hc hq hn
    obtain ⟨m, rfl⟩ : ∃ m, n = m + 1 := ⟨n - 1, by omega⟩
    have lt : N < nI c := i_lt.mpr (by rw [nI_toInt (by omega)]; omega)
    rw [f_X5_crowd_61, if_pos lt, sg, Int64.add_zero]
  | succ q ih =>
    intro n c a6 hc hq hn
    obtain ⟨m, rfl⟩ : ∃ m, n = m + 1 := ⟨n - 1, by omega⟩
    have ec : (nI c).toInt = c := nI_toInt (by omega)
    have lt : ¬ N < nI c := fun z => by have := i_lt.mp z; omega
    have sb : (N - nI c).toInt = N.toInt - c := by rw [subS (by omega) (by omega), ec]
    have xs := ix_toInt (x := N - nI c) (by omega)
    have ch : f_X5_choices cg N (nI c) = f_X5_choices mem0 (nI (ix N)) (nI c) := by
      rw [← eN]
      exact choices_g _ _ _ _ _ _ _
    rw [f_X5_crowd_61, if_neg lt, nI_1, ih m (c + 1) _ (by omega) (by omega) (by omega), sg, power_eq (p1 := N - nI c) (by omega) (by omega), ch, Int64.add_assoc]
    have : Tc (Int32.toInt64 (t - 1)) (ix N) c = f_X5_choices mem0 (nI (ix N)) (nI c) * pwr (Int32.toInt64 (t - 1)) (ix (N - nI c)) 1 := by
      unfold Tc
      rw [show ix (N - nI c) = ix N - c by omega]
    rw [this]
theorem bitsN_lt (s : Nat) : bitsN s < 11 := by
  have br := bits_r (g := mem0) (nI s)
  have xb := ix_toInt br.1
  unfold bitsN
  omega
theorem crowd_sum (u : Int64) {N k : Nat} (hN : N ≤ 8) (hk : k ≤ 4) : sl (Wc u N k) (LB N) = sg (Tc u N) (N + 1 - 2 * k) (2 * k) := by
  have ca : ∀ c, c < 11 → lN ((LB N).count c) = if c ≤ N then f_X5_choices mem0 (nI N) (nI c) else 0 := fun c hc => cnt_all ⟨N, by omega⟩ ⟨c, hc⟩
  rw [sl_cnt _ _ (fun x hx => by
    obtain ⟨s, _, rfl⟩ := List.mem_map.mp hx
    exact bitsN_lt s)]
  have z1 : ∀ c, 0 ≤ c → c < 0 + 2 * k → lN ((LB N).count c) * Wc u N k c = 0 := fun c _ h => by
    unfold Wc
    rw [if_pos (by omega)]
    exact Int64.mul_zero
  have z2 : ∀ c, N < c → c < 11 → lN ((LB N).count c) * Wc u N k c = 0 := fun c h1 h2 => by
    rw [ca c h2, if_neg (by omega)]
    exact Int64.zero_mul
  have same : ∀ c, 2 * k ≤ c → c ≤ N → lN ((LB N).count c) * Wc u N k c = Tc u N c := fun c h1 h2 => by
    unfold Wc Tc
    rw [ca c (by omega), if_pos h2, if_neg (by omega)]
  have ff := sg_front (fun c => lN ((LB N).count c) * Wc u N k c) (2 * k) (11 - 2 * k) 0 z1
  rw [show 2 * k + (11 - 2 * k) = 11 by omega, Nat.zero_add] at ff
  rw [ff]
  -- the rest: from 2 k to N, then nothing
  have go : ∀ (j c0 : Nat), c0 + j = 11 → 2 * k ≤ c0 → sg (fun c => lN ((LB N).count c) * Wc u N k c) j c0 = sg (Tc u N) (N + 1 - c0) c0 := by
    intro j
    induction j with
    | zero =>
      intro c0 h1 h2
      rw [show N + 1 - c0 = 0 by omega]
      rfl
    | succ j ih =>
      intro c0 h1 h2
      rw [sg, ih (c0 + 1) (by omega) (by omega)]
      by_cases e : c0 ≤ N
      · rw [same c0 h2 e, show N + 1 - c0 = (N + 1 - (c0 + 1)) + 1 by omega, sg]
      · rw [z2 c0 (by omega) (by omega), Int64.zero_add, show N + 1 - c0 = 0 by omega, show N + 1 - (c0 + 1) = 0 by omega]
        rfl
  exact go (11 - 2 * k) (2 * k) (by omega) (Nat.le_refl _)
theorem below_all : ∀ t : Fin 21, ∀ N : Fin 9, 2 ≤ (t : Nat) → 0 < (pwr (Int32.toInt64 (nI t)) N 1).toInt ∧ (pwr (Int32.toInt64 (nI t)) N 1).toInt < 2 ^ 40 := by decide +kernel
theorem above_all : ∀ t : Fin 21, ∀ N : Fin 9, ∀ k : Fin 5, 2 ≤ (t : Nat) → 0 ≤ (sg (Tc (Int32.toInt64 (nI t - 1)) N) (N + 1 - 2 * k) (2 * k)).toInt := by decide +kernel
theorem eq_crowd (N t k w : Int32) : f_X5_crowd cg N t k w = f_X6_crowd mg N t k w := by
  unfold f_X5_crowd f_X6_crowd f_X5_isOneOfTwo
  rw [isWithin_eq, isWithin_eq, isWithin_eq, isWithin_eq]
  by_cases a : f_X6_isIn N 0 8 = 0
  · rw [if_pos a, if_pos a]
  · rw [if_neg a, if_neg a]
    by_cases b : f_X6_isIn t 2 20 = 0
    · rw [if_pos b, if_pos b]
    · rw [if_neg b, if_neg b]
      by_cases c : f_X6_isIn k 0 4 = 0
      · rw [if_pos c, if_pos c]
      · rw [if_neg c, if_neg c]
        by_cases d : f_X6_isIn w 0 1 = 0
        · rw [if_pos d, if_pos d]
        · rw [if_neg d, if_neg d]
          have hN := isIn_in a
          have ht := isIn_in b
          have hk := isIn_in c
          have hw := isIn_in d
          have e0 : (0 : Int32).toInt = 0 := rfl
          have e1 : (1 : Int32).toInt = 1 := rfl
          have e2 : (2 : Int32).toInt = 2 := rfl
          have e4 : (4 : Int32).toInt = 4 := rfl
          have e8 : (8 : Int32).toInt = 8 := rfl
          have e20 : (20 : Int32).toInt = 20 := rfl
          have xN := ix_toInt (x := N) (by omega)
          have xk := ix_toInt (x := k) (by omega)
          have xt := ix_toInt (x := t) (by omega)
          have et : t = nI (ix t) := by
            obtain ⟨j, hj, rfl⟩ := nn_of (i := t) (by omega)
            exact (congrArg nI (nI_clamp hj)).symm
          have ek : (2 : Int32) * k = nI (2 * ix k) := Int32.toInt_inj.mp (by rw [mulS (by rw [e2]; omega) (by rw [e2]; omega), nI_toInt (by omega), e2]; omega)
          have hw2 : w = 0 ∨ w = 1 := by
            by_cases z : w = 0
            · exact Or.inl z
            · have := ne_toInt z
              exact Or.inr (Int32.toInt_inj.mp (by omega))
          have i0 : (0 : Int32) = nI 0 := by decide
          rw [ek, cr_61 (by omega) (by omega) (ix N + 1 - 2 * ix k) 10 (2 * ix k) 0 (by omega) rfl (by omega), Int64.zero_add]
          rw [cr_52 9 1 0 (lc_0 (by omega) (by decide))]
          have p8 : 2 ^ (ix N) ≤ 2 ^ 8 := Nat.pow_le_pow_right (by decide) (by omega)
          have c74 := cr_74 (mg := mg) (N := N) (t := t) (k := k) (w := w) (a7 := pwr (Int32.toInt64 t) (N.toInt - (0 : Int32).toInt).toNat 1) (by omega) (by omega) (by omega) (by omega) (2 ^ (ix N)) 257 0 0 (by omega) (by omega)
          rw [← i0] at c74
          rw [c74, Int64.zero_add]
          have cs := crowd_sum (Int32.toInt64 (t - 1)) (N := ix N) (k := ix k) (by omega) (by omega)
          unfold LB at cs
          rw [cs, power_eq (by omega) (by omega), show (N.toInt - (0 : Int32).toInt).toNat = ix N by omega]
          have ba := below_all ⟨ix t, by omega⟩ ⟨ix N, by omega⟩ (by show 2 ≤ ix t; omega)
          have aa := above_all ⟨ix t, by omega⟩ ⟨ix N, by omega⟩ ⟨ix k, by omega⟩ (by show 2 ≤ ix t; omega)
          have ba' : 0 < (pwr (Int32.toInt64 (nI (ix t))) (ix N) 1).toInt ∧ (pwr (Int32.toInt64 (nI (ix t))) (ix N) 1).toInt < 2 ^ 40 := ba
          have aa' : 0 ≤ (sg (Tc (Int32.toInt64 (nI (ix t) - 1)) (ix N)) (ix N + 1 - 2 * ix k) (2 * ix k)).toInt := aa
          rw [← et] at ba' aa'
          exact frac_eq aa' ba'.1 ba'.2 (fun _ => rfl) hw2
end FRH
