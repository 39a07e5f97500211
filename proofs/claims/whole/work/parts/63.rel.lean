section PV2
variable {cg mg : Mem}
theorem all_N : ∀ N : Fin 9, ((1 : Int32) <<< (nI N &&& 31)) - 1 = nI (2 ^ (N : Nat) - 1) ∧ fl (fun i => !Nat.testBit 0 i) (N : Nat) 0 = bl (2 ^ (N : Nat) - 1) ∧ bl (2 ^ (N : Nat) - 1) = fl (fun i => (2 ^ (N : Nat) - 1).testBit i) (N : Nat) 0 := by decide +kernel
/-- the class' fete read, its table begun -/
def fB (cg : Mem) : Mem := f_X2_readJoys (up cg 48 4 (cg (40 + 0) 1)) 0
def fS (cg : Mem) : Int32 := if (fB cg 48 4) / 2 < fB cg (40 + 0) 2 then (fB cg 48 4) / 2 else fB cg (40 + 0) 2
def fA (cg : Mem) : Int32 := ((1 : Int32) <<< (fB cg 48 4 &&& 31)) - 1
theorem fi_I (r : RB mg 1) (hI : In cg) {N : Nat} (hN : mg 1 0 = nI N) (N8 : N ≤ 8) (h50 : ∀ p q : Nat, p < N → q < N → fB cg 50 (8 * p + q) = jv mg p q) (h48 : fB cg 48 4 = nI N) {K : Int32 → Mem → Mem} {gx : Mem} {Pk : Mem → Prop} {s : Nat} (hs : s < 5) (hK : ∀ m, TBL mg (fB cg) N (s + 1) 0 m → Pk (K (nI s + 1) m)) : ∀ (j n f : Nat) (m : Mem), f + j = 2 ^ N → j < n → TBL mg (fB cg) N s f m → Pk (f_X2_find_48 cg 0 K (nI s) gx n (nI f) m) := by
  have p8 : 2 ^ N ≤ 2 ^ 8 := Nat.pow_le_pow_right (by decide) N8
  have p0 : 0 < 2 ^ N := Nat.pos_of_ne_zero (by
    have := Nat.pow_le_pow_right (show 0 < 2 by decide) (Nat.zero_le N)
    omega)
  have ea : ((1 : Int32) <<< (f_X2_readJoys (up cg 48 4 (cg (40 + 0) 1)) 0 48 4 &&& 31)) - 1 = nI (2 ^ N - 1) := by
    have h : f_X2_readJoys (up cg 48 4 (cg (40 + 0) 1)) 0 48 4 = nI N := h48
    rw [h]
    exact (all_N ⟨N, by omega⟩).1
  intro j
  induction j with
  | zero =>
    intro n f m hf hn ht
    obtain ⟨k, rfl⟩ : ∃ k, n = k + 1 := ⟨n - 1, by omega⟩
    rw [f_X2_find_48, ea, if_pos (nI_lt (by omega) (by omega))]
    exact hK m ⟨ht.1, fun s2 f2 h1 h2 h3 => ht.2 s2 f2 h1 h2 (by omega)⟩
  | succ j ih =>
    intro n f m hf hn ht
    obtain ⟨k, rfl⟩ : ∃ k, n = k + 1 := ⟨n - 1, by omega⟩
    have hz : (m 48 4).toInt ≤ 8 := by
      rw [ht.1.1 48 4 (by decide), h48, nI_toInt (by omega)]
      omega
    rw [f_X2_find_48, ea, if_neg (nI_nlt (by omega) (by omega)), nI_1, ix256 hs (by omega)]
    refine ih k (f + 1) _ (by omega) (by omega) ⟨⟨NK_up ht.1.1, In_up51 ht.1.2 (mostOf_ge ht.1.2 hz)⟩, fun s2 f2 h1 h2 h3 => ?_⟩
    by_cases x : s2 = s ∧ f2 = f
    · obtain ⟨rfl, rfl⟩ := x
      rw [up_eq]
      exact mo_eq r hN N8 h50 h48 h1 h2 ht
    · rw [up_ne (Or.inr (by omega))]
      exact ht.2 s2 f2 h1 h2 (by omega)
theorem fi_O (r : RB mg 1) (hI : In cg) {N : Nat} (hN : mg 1 0 = nI N) (N8 : N ≤ 8) (h50 : ∀ p q : Nat, p < N → q < N → fB cg 50 (8 * p + q) = jv mg p q) (h48 : fB cg 48 4 = nI N) {S : Nat} (S4 : S ≤ 4) (hS : fS cg = nI S) : ∀ (j n s : Nat) (m : Mem), s + j = S + 1 → j < n → TBL mg (fB cg) N s 0 m → ∃ m2, TBL mg (fB cg) N (S + 1) 0 m2 ∧ f_X2_find_39 cg 0 n (nI s) m = f_X2_choose (up m2 48 1 (m2 51 (256 * S + (2 ^ N - 1)))) (nI S) (nI (2 ^ N - 1)) := by
  have p8 : 2 ^ N ≤ 2 ^ 8 := Nat.pow_le_pow_right (by decide) N8
  have p0 : 0 < 2 ^ N := Nat.pos_of_ne_zero (by
    have := Nat.pow_le_pow_right (show 0 < 2 by decide) (Nat.zero_le N)
    omega)
  have ea : ((1 : Int32) <<< (f_X2_readJoys (up cg 48 4 (cg (40 + 0) 1)) 0 48 4 &&& 31)) - 1 = nI (2 ^ N - 1) := by
    have h : f_X2_readJoys (up cg 48 4 (cg (40 + 0) 1)) 0 48 4 = nI N := h48
    rw [h]
    exact (all_N ⟨N, by omega⟩).1
  have es : (if (f_X2_readJoys (up cg 48 4 (cg (40 + 0) 1)) 0 48 4) / 2 < f_X2_readJoys (up cg 48 4 (cg (40 + 0) 1)) 0 (40 + 0) 2 then (f_X2_readJoys (up cg 48 4 (cg (40 + 0) 1)) 0 48 4) / 2 else f_X2_readJoys (up cg 48 4 (cg (40 + 0) 1)) 0 (40 + 0) 2) = nI S := hS
  intro j
  induction j with
  | zero =>
    intro n s m hs hn ht
    obtain ⟨k, rfl⟩ : ∃ k, n = k + 1 := ⟨n - 1, by omega⟩
    have : s = S + 1 := by omega
    subst this
    rw [f_X2_find_39, ea, es, if_pos (nI_lt (by omega) (by omega)), ix256 (by omega) (by omega)]
    exact ⟨m, ht, rfl⟩
  | succ j ih =>
    intro n s m hs hn ht
    obtain ⟨k, rfl⟩ : ∃ k, n = k + 1 := ⟨n - 1, by omega⟩
    rw [f_X2_find_39, ea, es, if_neg (nI_nlt (by omega) (by omega))]
    have i0 : (0 : Int32) = nI 0 := by decide
    have key := fi_I r hI hN N8 h50 h48 (K := fun a4' g_39' => f_X2_find_39 cg 0 k a4' g_39') (gx := m) (Pk := fun res => ∃ m2, TBL mg (fB cg) N (S + 1) 0 m2 ∧ res = f_X2_choose (up m2 48 1 (m2 51 (256 * S + (2 ^ N - 1)))) (nI S) (nI (2 ^ N - 1))) (s := s) (by omega) (fun m2 h2 => by
      show ∃ m3, TBL mg (fB cg) N (S + 1) 0 m3 ∧ f_X2_find_39 cg 0 k (nI s + 1) m2 = _
      rw [nI_1]
      exact ih k (s + 1) m2 (by omega) (by omega) h2) (2 ^ N) 257 0 m (by omega) (by omega) ht
    rw [← i0] at key
    exact key
/-- the class' pairs -/
theorem find_all2 (h : RI cg mg) {N : Nat} (hN : mg 1 0 = nI N) (N8 : N ≤ 8) {sl : Nat} (hsl : mg 1 1 = nI sl) (sl99 : sl ≤ 99) :
    ((f_X2_find cg 0) 48 1).toInt = PV (jo mg) 8 sl (bl (2 ^ N - 1)) ∧ (∀ x, x < N → f_X2_find cg 0 49 x = PX (jo mg) 8 sl (bl (2 ^ N - 1)) (fun _ => 9) x) ∧ In (f_X2_find cg 0) ∧ ∀ q, q < 48 → f_X2_find cg 0 q = cg q := by
  have p8 : 2 ^ N ≤ 2 ^ 8 := Nat.pow_le_pow_right (by decide) N8
  have p0 : 0 < 2 ^ N := Nat.pos_of_ne_zero (by
    have := Nat.pow_le_pow_right (show 0 < 2 by decide) (Nat.zero_le N)
    omega)
  have f := h.1.1.1
  have r := h.1.1.2.1
  have fb : FR (up cg 48 4 (cg (40 + 0) 1)) 0 mg 1 := FR_ext (fun i hi => up_row (by omega)) (up_row (by omega)) rfl f
  have b48 : up cg 48 4 (cg (40 + 0) 1) 48 4 = nI N := by rw [up_eq]; exact f.1.trans hN
  obtain ⟨nk, h50⟩ := rj_all fb hN N8 b48
  have h48 : fB cg 48 4 = nI N := (nk 48 4 (by decide)).trans b48
  have b402 : fB cg (40 + 0) 2 = nI sl := (nk (40 + 0) 2 (by decide)).trans ((up_ne (Or.inl (by decide))).trans (f.2.1.trans hsl))
  have d2 : (nI N / 2 : Int32) = nI (N / 2) := Int32.toInt_inj.mp (by
    rw [div_toInt (by rw [nI_toInt (by omega)]; omega) (by decide), nI_toInt (by omega), nI_toInt (by omega)]
    have t2 : (2 : Int32).toInt = 2 := rfl
    rw [t2]
    omega)
  obtain ⟨S, hS, S4, Ssat⟩ : ∃ S, fS cg = nI S ∧ S ≤ 4 ∧ (S = sl ∨ (N ≤ 2 * S + 1 ∧ N ≤ 2 * sl + 1)) := by
    unfold fS
    rw [h48, b402, d2]
    by_cases c : nI (N / 2) < nI sl
    · have c2 := i_lt.mp c
      rw [nI_toInt (by omega), nI_toInt (by omega)] at c2
      rw [if_pos c]
      exact ⟨N / 2, rfl, by omega, Or.inr ⟨by omega, by omega⟩⟩
    · have c2 : ¬ (nI (N / 2)).toInt < (nI sl).toInt := fun q => c (i_lt.mpr q)
      rw [nI_toInt (by omega), nI_toInt (by omega)] at c2
      rw [if_neg c]
      exact ⟨sl, rfl, by omega, Or.inl rfl⟩
  have inB : In (fB cg) := In_readJoys (In_up_hi h.2.1 (by decide))
  have i0 : (0 : Int32) = nI 0 := by decide
  have t0 : TBL mg (fB cg) N 0 0 (fB cg) := ⟨⟨NK.rf, inB⟩, fun s2 f2 _ _ h3 => by omega⟩
  obtain ⟨m2, tb, e⟩ := fi_O r h.2.1 hN N8 h50 h48 S4 hS (S + 1) 6 0 (fB cg) (by omega) (by omega) t0
  rw [← i0] at e
  have e2 : f_X2_find cg 0 = f_X2_choose (up m2 48 1 (m2 51 (256 * S + (2 ^ N - 1)))) (nI S) (nI (2 ^ N - 1)) := e
  have tw : TBW mg N S (up m2 48 1 (m2 51 (256 * S + (2 ^ N - 1)))) := by
    refine ⟨?_, fun p q a b => ?_, fun s2 f2 a b => ?_⟩
    · rw [up_ne (Or.inr (by decide)), tb.1.1 48 4 (by decide)]; exact h48
    · rw [up_ne (Or.inl (by decide)), tb.1.1 50 _ (by decide)]; exact h50 p q a b
    · rw [up_ne (Or.inl (by decide))]
      exact tb.2 s2 f2 (by omega) b (Or.inl (by omega))
  have nkc := NK_choose (g := up m2 48 1 (m2 51 (256 * S + (2 ^ N - 1)))) (p0 := nI S) (p1 := nI (2 ^ N - 1))
  have lenA : (bl (2 ^ N - 1)).length ≤ N := by rw [(all_N ⟨N, by omega⟩).2.2]; exact fl_len _ _
  have sat : S = sl ∨ ((bl (2 ^ N - 1)).length ≤ 2 * S + 1 ∧ (bl (2 ^ N - 1)).length ≤ 2 * sl + 1) := by
    rcases Ssat with z | z
    · exact Or.inl z
    · exact Or.inr ⟨by omega, by omega⟩
  rw [e2]
  refine ⟨?_, fun x hx => ?_, In_choose (In_up_hi tb.1.2 (by decide)), fun q hq => ?_⟩
  · rw [nkc 48 1 (by decide), up_eq, tb.2 S (2 ^ N - 1) (by omega) (by omega) (Or.inl (by omega))]
    exact PV_sat 8 S sl _ sat
  · have c8 := ch_8 N8 tw.1 (p0 := nI S) (p1 := nI (2 ^ N - 1)) N 9 0 (up m2 48 1 (m2 51 (256 * S + (2 ^ N - 1)))) (by omega) (by omega) NK.rf (fun x h => by omega)
    obtain ⟨m3, k1, k2, k3⟩ := c8
    rw [← i0] at k3
    have k3' : f_X2_choose (up m2 48 1 (m2 51 (256 * S + (2 ^ N - 1)))) (nI S) (nI (2 ^ N - 1)) = f_X2_choose_35 (up m2 48 1 (m2 51 (256 * S + (2 ^ N - 1)))) (nI S) (nI (2 ^ N - 1)) 9 (nI (2 ^ N - 1)) (nI S) 0 m3 := k3
    have key := ch_35 r hN N8 S4 (g := up m2 48 1 (m2 51 (256 * S + (2 ^ N - 1)))) (p0 := nI S) (p1 := nI (2 ^ N - 1)) tw N 9 0 (2 ^ N - 1) S m3 (by omega) (by omega) (by omega) (all_N ⟨N, by omega⟩).2.2 (Nat.le_refl _) k1 x hx
    rw [← i0] at key
    rw [k3', key, ← (all_N ⟨N, by omega⟩).2.2, PX_sat 8 S sl _ _ sat]
    exact PX_pt _ _ _ _ _ (k2 x hx)
  · funext y
    rw [nkc q y (by omega), up_ne (Or.inl (by omega)), tb.1.1 q y (by omega)]
    exact (nk q y (by omega)).trans (up_ne (Or.inl (by omega)))
theorem RL_pair {c m : Mem} (hc : ∀ q, q < 48 → c q = cg q) (hm : ∀ r, mrow r → m r = mg r) (h4 : m 0 4 = mg 0 4) (h : RLt cg mg) : RLt c m := by
  obtain ⟨⟨h1, h2, h3⟩, hs, hi, hj⟩ := h
  have m1 := hm 1 (Or.inl rfl)
  have m3 := hm 3 (Or.inr (Or.inl rfl))
  refine ⟨⟨FR_ext (fun i hi => hc _ (by omega)) (hc _ (by omega)) m1 h1, RB_row m1 h2, ?_⟩, SRs_ext (fun q q1 q2 => hc q (by omega)) (fun r a b => hm r (Or.inr (Or.inr ⟨a, b⟩))) hs, ?_, fun q => ?_⟩
  · unfold TB; rw [m1]; exact h3
  · rw [hc 46 (by omega), h4]; exact hi
  · rw [h4] at q
    obtain ⟨j1, j2, j3⟩ := hj q
    refine ⟨FR_ext (fun i hi => hc _ (by omega)) (hc _ (by omega)) m3 j1, RB_row m3 j2, ?_⟩
    rw [m3]; exact j3
theorem InM_rows {m : Mem} (hm : ∀ r, mrow r → m r = mg r) (h : InM mg) : InM m := by
  unfold InM at *
  rw [hm 1 (Or.inl rfl), hm 3 (Or.inr (Or.inl rfl)), hm 12 (Or.inr (Or.inr ⟨by decide, by decide⟩))]
  exact h
/-- the reference's pairs: nobody is watched at first -/
theorem pr_17 {p0 : Int32} : ∀ (j n a : Nat) (m : Mem), a + j = 8 → j < n → (∀ r, r ≠ 6 → m r = mg r) → (∀ f, f < a → m 6 f = 9) → ∃ m2, (∀ r, r ≠ 6 → m2 r = mg r) ∧ (∀ f, f < 8 → m2 6 f = 9) ∧ f_X6_pairs_17 mg p0 n (nI a) m = if 0 ≤ p0 then ((f_X6_pairsFrom (up m2 0 11 (-1)) 0 0 (mg 1 1) 0) 7 (ix p0), f_X6_pairsFrom (up m2 0 11 (-1)) 0 0 (mg 1 1) 0) else ((f_X6_pairsFrom (up m2 0 11 (-1)) 0 0 (mg 1 1) 0) 0 11, f_X6_pairsFrom (up m2 0 11 (-1)) 0 0 (mg 1 1) 0) := by
  intro j
  induction j with
  | zero =>
    intro n a m ha hn hm h6
    obtain ⟨k, rfl⟩ : ∃ k, n = k + 1 := ⟨n - 1, by omega⟩
    have e8 : (8 : Int32) = nI 8 := by decide
    rw [f_X6_pairs_17, e8, if_pos (nI_le (by omega) (by omega))]
    unfold f_X6_pairs_m1
    have e1 : up m 0 11 (-1) 1 1 = mg 1 1 := by rw [up_ne (Or.inl (by decide)), hm 1 (by decide)]
    rw [e1]
    exact ⟨m, hm, fun f hf => h6 f (by omega), rfl⟩
  | succ j ih =>
    intro n a m ha hn hm h6
    obtain ⟨k, rfl⟩ : ∃ k, n = k + 1 := ⟨n - 1, by omega⟩
    have e8 : (8 : Int32) = nI 8 := by decide
    rw [f_X6_pairs_17, e8, if_neg (nI_ge (by omega) (by omega)), nI_1]
    unfold f_X6_pairs_m2
    rw [show ix (nI a) = a from nI_clamp (by omega)]
    refine ih k (a + 1) _ (by omega) (by omega) (fun r hr => (up_row hr).trans (hm r hr)) (fun f hf => ?_)
    by_cases x : f = a
    · subst x; rw [up_eq]
    · rw [up_ne (Or.inr x)]; exact h6 f (by omega)
theorem ref_pairs (h : RI cg mg) {N : Nat} (hN : mg 1 0 = nI N) (N8 : N ≤ 8) {sl : Nat} (hsl : mg 1 1 = nI sl) (sl99 : sl ≤ 99) (p0 : Int32) : ∃ R : Mem, f_X6_pairs_17 mg p0 9 0 mg = (if 0 ≤ p0 then (R 7 (ix p0), R) else (R 0 11, R)) ∧ (R 0 11).toInt = PV (jo mg) 8 sl (bl (2 ^ N - 1)) ∧ (∀ x, x < 8 → R 7 x = PX (jo mg) 8 sl (bl (2 ^ N - 1)) (fun _ => 9) x) ∧ (∀ r, mrow r → R r = mg r) ∧ R 0 4 = mg 0 4 := by
  have i0 : (0 : Int32) = nI 0 := by decide
  obtain ⟨m2, q1, q2, q3⟩ := pr_17 (mg := mg) (p0 := p0) 8 9 0 mg (by decide) (by decide) (fun _ _ => rfl) (fun f hf => by omega)
  rw [← i0] at q3
  have e1 : up m2 0 11 (-1) 1 = mg 1 := (up_row (by decide)).trans (q1 1 (by decide))
  have qm : QM (up m2 0 11 (-1)) (-1, up m2 0 11 (-1) 7) (fun f => up m2 0 11 (-1) 6 f) (up m2 0 11 (-1) 0) := ⟨by rw [up_eq]; rfl, Int.le_refl (-1), fun _ _ => rfl, fun _ _ => rfl, fun _ _ => rfl⟩
  have e0 : (0 : Int32).toInt = 0 := rfl
  have l0 : fl (fun i => !Nat.testBit 0 i) (N - 0) 0 = bl (2 ^ N - 1) := by rw [Nat.sub_zero]; exact (all_N ⟨N, by omega⟩).2.1
  have w9 : ∀ x, x < 8 → up m2 0 11 (-1) 6 x = 9 := fun x hx => by rw [up_ne (Or.inl (by decide))]; exact q2 x hx
  have key := dfs h.1.1.2.1 hN N8 9 (up m2 0 11 (-1)) 0 0 sl 0 (by omega) (by omega) (by decide) (by omega) (by decide) (by decide) e1 (-1, up m2 0 11 (-1) 7) (fun f => up m2 0 11 (-1) 6 f) (fun x hx => w9 x (by have := (fl_mem _ _).mp hx; omega)) qm
  rw [l0, e0, ← i0, ← hsl] at key
  have vn := PV_nn (J := jo mg) 8 sl (bl (2 ^ N - 1))
  have st : stp 0 ((-1 : Int), up m2 0 11 (-1) 7) (PV (jo mg) 8 sl (bl (2 ^ N - 1)), PX (jo mg) 8 sl (bl (2 ^ N - 1)) (fun f => up m2 0 11 (-1) 6 f)) = (0 + PV (jo mg) 8 sl (bl (2 ^ N - 1)), PX (jo mg) 8 sl (bl (2 ^ N - 1)) (fun f => up m2 0 11 (-1) 6 f)) := by
    unfold stp
    rw [if_pos (by show (-1 : Int) < 0 + _; omega)]
  rw [st] at key
  have nq : NQ (up m2 0 11 (-1)) (f_X6_pairsFrom (up m2 0 11 (-1)) 0 0 (mg 1 1) 0) := fr_NQ 9 _ _ _ _ _
  have key2 : QM (f_X6_pairsFrom (up m2 0 11 (-1)) 0 0 (mg 1 1) 0) (0 + PV (jo mg) 8 sl (bl (2 ^ N - 1)), PX (jo mg) 8 sl (bl (2 ^ N - 1)) (fun f => up m2 0 11 (-1) 6 f)) (fun f => up m2 0 11 (-1) 6 f) (up m2 0 11 (-1) 0) := key
  obtain ⟨k1, _, k3, _, k5⟩ := key2
  refine ⟨_, q3, ?_, fun x hx => ?_, fun r hr => ?_, ?_⟩
  · rw [k1]; show 0 + _ = _; omega
  · rw [k3 x hx]
    exact PX_pt _ _ _ _ _ (w9 x hx)
  · have hr2 : r ≠ 0 ∧ r ≠ 6 ∧ r ≠ 7 := by rcases hr with q | q | q <;> omega
    funext f
    rw [nq r f hr2.1 hr2.2.1 hr2.2.2, up_ne (Or.inl hr2.1), q1 r hr2.2.1]
  · rw [k5 4 (by decide), up_ne (Or.inr (by decide)), q1 0 (by decide)]
theorem eq_pairs (h : RI cg mg) (p : Int32) : (f_X5_pairs cg p).1 = (f_X6_pairs mg p).1 ∧ RI (f_X5_pairs cg p).2 (f_X6_pairs mg p).2 := by
  have f := h.1.1.1
  have r := h.1.1.2.1
  obtain ⟨N, hN31, hN⟩ := nn_of f.2.2.2.1.1
  have iN : (mg 1 0).toInt = N := by rw [hN]; exact nI_toInt hN31
  have f8 := f.2.2.2.1.2
  obtain ⟨sl, hs31, hsl⟩ := nn_of r.2.1.1
  have isl : (mg 1 1).toInt = sl := by rw [hsl]; exact nI_toInt hs31
  have r99 := r.2.1.2
  obtain ⟨c1, c2, c3, c4⟩ := find_all2 h hN (by omega) hsl (by omega)
  obtain ⟨R, d1, d2, d3, d4, d5⟩ := ref_pairs h hN (by omega) hsl (by omega) p
  have ri : RI (f_X2_find cg 0) R := ⟨RL_pair c4 d4 d5 h.1, c3, InM_rows d4 h.2.2.1, BY_rows (d4 8 (Or.inr (Or.inr ⟨by decide, by decide⟩))) (d4 11 (Or.inr (Or.inr ⟨by decide, by decide⟩))) (d4 13 (Or.inr (Or.inr ⟨by decide, by decide⟩))) h.2.2.2⟩
  have e0 : (0 : Int32).toInt = 0 := rfl
  have em : (-1 : Int32).toInt = -1 := rfl
  have hz := sz_m1 f.2.2.2.1.1
  unfold f_X5_pairs f_X6_pairs
  rw [d1, f.z]
  by_cases a : p = -1
  · subst a
    have n0 : ¬ (0 : Int32) ≤ -1 := by decide
    have n1 : (-1 : Int32) < mg 1 0 := i_lt.mpr (by omega)
    have n2 : ¬ (-1 : Int32) < -1 := by decide
    simp only [if_neg n2, if_pos n1, if_neg n0, if_true]
    exact ⟨Int32.toInt_inj.mp (c1.trans d2.symm), ri⟩
  · have ha := ne_toInt a
    rw [if_neg a]
    by_cases b : p < -1
    · have b2 := i_lt.mp b
      have e : f_X6_isPerson mg p = 0 := by
        unfold f_X6_isPerson f_X6_isIn
        rw [if_pos (i_lt.mpr (by omega))]
      rw [if_pos b, if_pos e]
      exact ⟨rfl, h⟩
    · have b2 : ¬ p.toInt < (-1 : Int32).toInt := fun q => b (i_lt.mpr q)
      rw [if_neg b]
      by_cases c : p < mg 1 0
      · have cc := i_lt.mp c
        have e : ¬ f_X6_isPerson mg p = 0 := isIn_1.mpr (by omega)
        have p0 : 0 ≤ p := i_le.mpr (by omega)
        have xp := ix_toInt (x := p) (by omega)
        rw [if_pos c, if_neg e, if_pos p0, if_pos p0]
        refine ⟨?_, ri⟩
        show f_X2_find cg 0 49 (ix p) = R 7 (ix p)
        rw [c2 (ix p) (by omega), d3 (ix p) (by omega)]
      · have cc : ¬ p.toInt < (mg 1 0).toInt := fun q => c (i_lt.mpr q)
        have e : f_X6_isPerson mg p = 0 := by
          by_cases q : f_X6_isPerson mg p = 0
          · exact q
          · have := isIn_1.mp q; omega
        rw [if_neg c, if_pos e]
        exact ⟨rfl, h⟩
end PV2
