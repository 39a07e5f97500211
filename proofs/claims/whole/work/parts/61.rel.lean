section PT
variable {cg mg : Mem}
/-- the joys of two as the class keeps them -/
def jv (mg : Mem) (p q : Nat) : Int32 := if f_X6_canEat mg 1 (nI p) (nI q) = 0 then -4 else f_X6_joysOf mg 1 (nI p) (nI q)
theorem n8 : (8 : Int32) = nI 8 := by decide
theorem n256 : (256 : Int32) = nI 256 := by decide
theorem ix8 {p q : Nat} (hp : p < 8) (hq : q < 8) : ix (nI p * 8 + nI q) = 8 * p + q := by
  rw [n8, pk_mul, nI_add, show ix (nI (p * 8 + q)) = p * 8 + q from nI_clamp (by omega)]
  omega
theorem ix256 {s f : Nat} (hs : s < 5) (hf : f < 256) : ix (nI s * 256 + nI f) = 256 * s + f := by
  rw [n256, pk_mul, nI_add, show ix (nI (s * 256 + f)) = s * 256 + f from nI_clamp (by omega)]
  omega
/-- joys read so far -/
def RJ (mg base : Mem) (N P Q : Nat) (m : Mem) : Prop := NK 50 base m ∧ ∀ p q : Nat, p < N → q < N → (p < P ∨ (p = P ∧ q < Q)) → m 50 (8 * p + q) = jv mg p q
theorem FR_50 {base m : Mem} (h : NK 50 base m) (f : FR base 0 mg 1) : FR m 0 mg 1 := FR_ext (fun i hi => funext fun x => h _ x (by omega)) (funext fun x => h _ x (by omega)) rfl f
theorem rj_I {base gx : Mem} (f : FR base 0 mg 1) {N : Nat} (hN : mg 1 0 = nI N) (N8 : N ≤ 8) (h48 : base 48 4 = nI N) {K : Int32 → Mem → Mem} {Pk : Mem → Prop} {p : Nat} (hp : p < N) (hK : ∀ m, RJ mg base N (p + 1) 0 m → Pk (K (nI p + 1) m)) : ∀ (j n q : Nat) (m : Mem), q + j = N → j < n → RJ mg base N p q m → Pk (f_X2_readJoys_12 base 0 K (nI p) gx n (nI q) m) := by
  intro j
  induction j with
  | zero =>
    intro n q m hq hn hI
    obtain ⟨k, rfl⟩ : ∃ k, n = k + 1 := ⟨n - 1, by omega⟩
    have e : m 48 4 = nI N := (hI.1 48 4 (by decide)).trans h48
    rw [f_X2_readJoys_12, e, if_pos (nI_le (by omega) (by omega))]
    exact hK m ⟨hI.1, fun p2 q2 h1 h2 h3 => hI.2 p2 q2 h1 h2 (by omega)⟩
  | succ j ih =>
    intro n q m hq hn hI
    obtain ⟨k, rfl⟩ : ∃ k, n = k + 1 := ⟨n - 1, by omega⟩
    have e : m 48 4 = nI N := (hI.1 48 4 (by decide)).trans h48
    have fm := FR_50 hI.1 f
    have iN : (mg 1 0).toInt = N := by rw [hN]; exact nI_toInt (by omega)
    have ip : (nI p).toInt = p := nI_toInt (by omega)
    have iq : (nI q).toInt = q := nI_toInt (by omega)
    have nxt : ∀ v : Int32, v = jv mg p q → RJ mg base N p (q + 1) (up m 50 (ix (nI p * 8 + nI q)) v) := fun v hv => by
      rw [ix8 (by omega) (by omega)]
      refine ⟨NK_up hI.1, fun p2 q2 h1 h2 h3 => ?_⟩
      by_cases x : p2 = p ∧ q2 = q
      · obtain ⟨rfl, rfl⟩ := x
        rw [up_eq]; exact hv
      · rw [up_ne (Or.inr (by omega))]
        exact hI.2 p2 q2 h1 h2 (by omega)
    rw [f_X2_readJoys_12, e, if_neg (nI_ge (by omega) (by omega)), canEat_eq fm (by omega) (by omega) (by omega) (by omega), joysOf_eq fm (by omega) (by omega) (by omega) (by omega), nI_1]
    by_cases d : f_X6_canEat mg 1 (nI p) (nI q) = 0
    · rw [if_pos d]
      exact ih k (q + 1) _ (by omega) (by omega) (nxt _ (by unfold jv; rw [if_pos d]))
    · rw [if_neg d]
      exact ih k (q + 1) _ (by omega) (by omega) (nxt _ (by unfold jv; rw [if_neg d]))
theorem rj_O {base : Mem} (f : FR base 0 mg 1) {N : Nat} (hN : mg 1 0 = nI N) (N8 : N ≤ 8) (h48 : base 48 4 = nI N) : ∀ (j n p : Nat) (m : Mem), p + j = N → j < n → RJ mg base N p 0 m → RJ mg base N N 0 (f_X2_readJoys_2 base 0 n (nI p) m) := by
  intro j
  induction j with
  | zero =>
    intro n p m hp hn hI
    obtain ⟨k, rfl⟩ : ∃ k, n = k + 1 := ⟨n - 1, by omega⟩
    have e : m 48 4 = nI N := (hI.1 48 4 (by decide)).trans h48
    have : p = N := by omega
    subst this
    rw [f_X2_readJoys_2, e, if_pos (nI_le (by omega) (by omega))]
    exact hI
  | succ j ih =>
    intro n p m hp hn hI
    obtain ⟨k, rfl⟩ : ∃ k, n = k + 1 := ⟨n - 1, by omega⟩
    have e : m 48 4 = nI N := (hI.1 48 4 (by decide)).trans h48
    rw [f_X2_readJoys_2, e, if_neg (nI_ge (by omega) (by omega))]
    have i0 : (0 : Int32) = nI 0 := by decide
    rw [i0]
    exact rj_I f hN N8 h48 (Pk := RJ mg base N N 0) (by omega) (fun m2 h2 => by
      rw [nI_1]
      exact ih k (p + 1) m2 (by omega) (by omega) h2) N 9 0 m (by omega) (by omega) hI
theorem rj_all {base : Mem} (f : FR base 0 mg 1) {N : Nat} (hN : mg 1 0 = nI N) (N8 : N ≤ 8) (h48 : base 48 4 = nI N) : NK 50 base (f_X2_readJoys base 0) ∧ ∀ p q : Nat, p < N → q < N → f_X2_readJoys base 0 50 (8 * p + q) = jv mg p q := by
  have i0 : (0 : Int32) = nI 0 := by decide
  have key := rj_O f hN N8 h48 N 9 0 base (by omega) (by omega) ⟨NK.rf, fun p q _ _ h => by omega⟩
  rw [← i0] at key
  exact ⟨key.1, fun p q h1 h2 => key.2 p q h1 h2 (Or.inl h1)⟩
/-- the members of a set of bits -/
def bl (f : Nat) : List Nat := fl (fun i => f.testBit i) 8 0
def er (f i : Nat) : Nat := if f.testBit i then f - 2 ^ i else f
theorem er_all : ∀ f : Fin 256, ∀ i : Fin 8, ((nI f &&& ((1 <<< (nI i &&& 31)) ^^^ (-1))) : Int32) = nI (er f i) ∧ er f i ≤ f ∧ (∀ j : Fin 8, (er f i).testBit j = ((f : Nat).testBit j && decide ((j : Nat) ≠ i))) := by decide +kernel
theorem er_i {f i : Nat} (hf : f < 256) (hi : i < 8) : ((nI f &&& ((1 <<< (nI i &&& 31)) ^^^ (-1))) : Int32) = nI (er f i) ∧ er f i ≤ f := ⟨(er_all ⟨f, hf⟩ ⟨i, hi⟩).1, (er_all ⟨f, hf⟩ ⟨i, hi⟩).2.1⟩
theorem er_t {f i j : Nat} (hf : f < 256) (hi : i < 8) (hj : j < 8) : (er f i).testBit j = (f.testBit j && decide (j ≠ i)) := (er_all ⟨f, hf⟩ ⟨i, hi⟩).2.2 ⟨j, hj⟩
theorem er_un {f i : Nat} (h : f.testBit i = false) : er f i = f := by unfold er; rw [h]; rfl
theorem er_fl {f i : Nat} (hf : f < 256) (hi : i < 8) {k a : Nat} (h : a + k ≤ 8) : fl (fun j => (er f i).testBit j) k a = (fl (fun j => f.testBit j) k a).erase i := by
  rw [← fl_erase]
  exact fl_congr k a (fun j j1 j2 => er_t hf hi (by omega))
theorem er_bl {f i : Nat} (hf : f < 256) (hi : i < 8) : bl (er f i) = (bl f).erase i := er_fl hf hi (by decide)
theorem least_g (g g2 : Mem) (x : Int32) : ∀ (n : Nat) (a : Int32), f_X2_leastOf_2 g x n a = f_X2_leastOf_2 g2 x n a := by
  intro n
  induction n with
  | zero => intro a; rfl
  | succ n ih =>
    intro a
    rw [f_X2_leastOf_2, f_X2_leastOf_2, ih]
/-- the least of a set, and the rest -/
theorem lo_all : ∀ f : Fin 256, (f : Nat) ≠ 0 → ∃ i : Fin 8, f_X2_leastOf mem0 (nI f) = nI i ∧ bl f = (i : Nat) :: bl (er f i) ∧ (f : Nat).testBit i = true ∧ bl (er f i) = fl (fun j => (er f i).testBit j) (7 - i) (i + 1) ∧ er f i < f := by decide +kernel
theorem lo_i (g : Mem) {f : Nat} (hf : f < 256) (h0 : f ≠ 0) : ∃ i : Nat, i < 8 ∧ f_X2_leastOf g (nI f) = nI i ∧ bl f = i :: bl (er f i) ∧ f.testBit i = true ∧ bl (er f i) = fl (fun j => (er f i).testBit j) (7 - i) (i + 1) ∧ er f i < f := by
  obtain ⟨i, h1, h2⟩ := lo_all ⟨f, hf⟩ h0
  refine ⟨i, i.isLt, ?_, h2⟩
  have : f_X2_leastOf g (nI f) = f_X2_leastOf mem0 (nI f) := least_g _ _ _ _ _
  rw [this]
  exact h1
theorem jv_jo (r : RB mg 1) {N : Nat} (hN : mg 1 0 = nI N) (N8 : N ≤ 8) {p q : Nat} (hp : p < N) (hq : q < N) : (jv mg p q < 0 ∧ jo mg p q = -1) ∨ (¬ jv mg p q < 0 ∧ jo mg p q = (jv mg p q).toInt ∧ 0 ≤ jo mg p q ∧ jo mg p q ≤ 19) := by
  have iN : (mg 1 0).toInt = N := by rw [hN]; exact nI_toInt (by omega)
  have ip : (nI p).toInt = p := nI_toInt (by omega)
  have iq : (nI q).toInt = q := nI_toInt (by omega)
  unfold jv jo
  by_cases d : f_X6_canEat mg 1 (nI p) (nI q) = 0
  · rw [if_pos d, if_pos d]
    exact Or.inl ⟨by decide, rfl⟩
  · rw [if_neg d, if_neg d]
    have jr := (r.joys (p := nI p) (q := nI q) (by omega) (by omega) (by omega) (by omega)).2.2.2
    exact Or.inr ⟨fun z => by have := lt0_iff.mp z; omega, rfl, jr.1, jr.2⟩
/-- the table so far: for s slices, sets below f -/
def TBL (mg B : Mem) (N s f : Nat) (m : Mem) : Prop := (NK 51 B m ∧ In m) ∧ ∀ s2 f2 : Nat, s2 < 5 → f2 < 2 ^ N → (s2 < s ∨ (s2 = s ∧ f2 < f)) → (m 51 (256 * s2 + f2)).toInt = PV (jo mg) 8 s2 (bl f2)
theorem bl_lt {N f x : Nat} (hf : f < 2 ^ N) (hx : x ∈ bl f) : x < N := by
  have h := (fl_mem _ _).mp hx
  by_cases c : x < N
  · exact c
  · have : f.testBit x = false := Nat.testBit_lt_two_pow (Nat.lt_of_lt_of_le hf (Nat.pow_le_pow_right (by decide) (by omega)))
    rw [this] at h
    exact absurd h.2.2 (by decide)
/-- joys if two are paired, in the table -/
theorem jip (r : RB mg 1) {N : Nat} (hN : mg 1 0 = nI N) (N8 : N ≤ 8) {m : Mem} (h50 : ∀ p q : Nat, p < N → q < N → m 50 (8 * p + q) = jv mg p q) {p q f s : Nat} (hp : p < N) (hq : q < N) (hs : s < 4) (hf : f < 2 ^ N) (ht : ∀ f2, f2 < 2 ^ N → (m 51 (256 * s + f2)).toInt = PV (jo mg) 8 s (bl f2)) :
    (jo mg p q = -1 ∧ f_X2_joysIfPaired m (nI p) (nI q) (nI f) (nI (s + 1)) = -4) ∨ (0 ≤ jo mg p q ∧ (f_X2_joysIfPaired m (nI p) (nI q) (nI f) (nI (s + 1))).toInt = jo mg p q + PV (jo mg) 8 s (bl (er (er f p) q))) := by
  have p8 : 2 ^ N ≤ 2 ^ 8 := Nat.pow_le_pow_right (by decide) N8
  obtain ⟨e1, e2⟩ := er_i (f := f) (i := p) (by omega) (by omega)
  obtain ⟨e3, e4⟩ := er_i (f := er f p) (i := q) (by omega) (by omega)
  unfold f_X2_joysIfPaired
  rw [ix8 (by omega) (by omega), h50 p q hp hq, e1, e3, nI_pred, ix256 (by omega) (by omega)]
  rcases jv_jo r hN N8 hp hq with ⟨j1, j2⟩ | ⟨j1, j2, j3, j4⟩
  · rw [if_pos j1]
    exact Or.inl ⟨j2, rfl⟩
  · rw [if_neg j1, if_neg (nI_ne0 (by omega) (by omega))]
    have t := ht (er (er f p) q) (by omega)
    have u0 := PV_nn (J := jo mg) 8 s (bl (er (er f p) q))
    have u1 := PV_ub (J := jo mg) 8 s (bl (er (er f p) q)) (fun a b ha hb => by
      rcases jv_jo r hN N8 (bl_lt (show er (er f p) q < 2 ^ N by omega) ha) (bl_lt (show er (er f p) q < 2 ^ N by omega) hb) with ⟨_, x⟩ | ⟨_, _, _, x⟩ <;> omega)
    have ln := fl_len (b := fun i => (er (er f p) q).testBit i) 8 0
    refine Or.inr ⟨j3, ?_⟩
    have ln2 : (bl (er (er f p) q)).length ≤ 8 := ln
    rw [addS (by omega) (by omega), t, j2]
theorem erase2 {one q : Nat} {rest : Nat} (hr : rest < 256) (h1 : one < 8) (hq : q < 8) (hu : rest.testBit one = false) : er (er rest one) q = er rest q ∧ er (er rest q) one = er rest q := by
  refine ⟨by rw [er_un hu], er_un ?_⟩
  rw [er_t hr hq h1, hu]
  rfl
theorem bts {f q : Nat} (hf : f < 256) (hq : q < 8) : ((nI f >>> (nI q &&& 31)) &&& 1 : Int32) = if f.testBit q then 1 else 0 := bt1 hf hq
theorem max_i {a b : Int32} : (if a < b then b else a).toInt = max a.toInt b.toInt := by
  by_cases h : a < b
  · rw [if_pos h]; have := i_lt.mp h; omega
  · rw [if_neg h]; have : ¬ a.toInt < b.toInt := fun q => h (i_lt.mpr q); omega
/-- the loop over the others: no more than z if and only if all are -/
theorem mo_L {m : Mem} {N one f s : Nat} (h48 : m 48 4 = nI N) (N8 : N ≤ 8) (hf : f < 256) (lo : f_X2_leastOf m (nI f) = nI one) (h1 : one < 8) (z : Int) : ∀ (j n a : Nat) (x : Int32), a + j = N → j < n →
    ((f_X2_mostOf_45 m (nI s) (nI f) n x (nI a)).toInt ≤ z ↔ x.toInt ≤ z ∧ ∀ q, q ∈ fl (fun i => (er f one).testBit i) j a → (f_X2_joysIfPaired m (nI one) (nI q) (nI (er f one)) (nI s)).toInt ≤ z ∧ (f_X2_joysIfPaired m (nI q) (nI one) (nI (er f one)) (nI s)).toInt ≤ z) := by
  intro j
  induction j with
  | zero =>
    intro n a x ha hn
    obtain ⟨k, rfl⟩ : ∃ k, n = k + 1 := ⟨n - 1, by omega⟩
    rw [f_X2_mostOf_45, h48, if_pos (nI_le (by omega) (by omega))]
    exact ⟨fun h => ⟨h, fun q hq => absurd hq List.not_mem_nil⟩, fun h => h.1⟩
  | succ j ih =>
    intro n a x ha hn
    obtain ⟨k, rfl⟩ : ∃ k, n = k + 1 := ⟨n - 1, by omega⟩
    have e2 := er_i hf h1
    rw [f_X2_mostOf_45, h48, if_neg (nI_ge (by omega) (by omega)), lo, e2.1, bts (by omega) (by omega), nI_1, fl]
    by_cases c : (er f one).testBit a = true
    · rw [if_pos c, if_pos rfl, if_pos c, ih k (a + 1) _ (by omega) (by omega), max_i, max_i]
      refine ⟨fun ⟨h1, h2⟩ => ⟨by omega, fun q hq => ?_⟩, fun ⟨h1, h2⟩ => ⟨?_, fun q hq => h2 q (List.mem_cons_of_mem _ hq)⟩⟩
      · rcases List.mem_cons.mp hq with rfl | hq
        · exact ⟨by omega, by omega⟩
        · exact h2 q hq
      · have := h2 a List.mem_cons_self
        omega
    · rw [if_neg c, if_neg (by decide : ¬ (0 : Int32) = 1), if_neg c]
      exact ih k (a + 1) x (by omega) (by omega)
/-- the most of a set is that of the pure search -/
theorem mo_eq (r : RB mg 1) {N : Nat} (hN : mg 1 0 = nI N) (N8 : N ≤ 8) {B m : Mem} (h50 : ∀ p q : Nat, p < N → q < N → B 50 (8 * p + q) = jv mg p q) (h48 : B 48 4 = nI N) {s f : Nat} (hs : s < 5) (hf : f < 2 ^ N) (ht : TBL mg B N s f m) : (f_X2_mostOf m (nI s) (nI f)).toInt = PV (jo mg) 8 s (bl f) := by
  have p8 : 2 ^ N ≤ 2 ^ 8 := Nat.pow_le_pow_right (by decide) N8
  have e0 : (0 : Int32).toInt = 0 := rfl
  unfold f_X2_mostOf
  cases s with
  | zero => rw [if_pos (by decide : nI 0 = 0), PV_0, e0]
  | succ s =>
    rw [if_neg (nI_ne0 (by omega) (by omega))]
    by_cases fz : f = 0
    · subst fz
      have : bl 0 = [] := by decide
      rw [if_pos (by decide : nI 0 = 0), this, PV_nil, e0]
    · rw [if_neg (nI_ne0 (by omega) (by omega))]
      obtain ⟨one, o1, o2, o3, o4, o5, o6⟩ := lo_i m (f := f) (by omega) fz
      have oN : one < N := bl_lt hf (by rw [o3]; exact List.mem_cons_self)
      have e2 := er_i (f := f) (i := one) (by omega) o1
      have m48 : m 48 4 = nI N := (ht.1.1 48 4 (by decide)).trans h48
      have m50 : ∀ p q : Nat, p < N → q < N → m 50 (8 * p + q) = jv mg p q := fun p q a b => (ht.1.1 50 _ (by decide)).trans (h50 p q a b)
      have hu : (er f one).testBit one = false := by rw [er_t (by omega) o1 o1]; simp
      rw [o2, e2.1, ix256 (by omega) (by omega), nI_1]
      have base := ht.2 (s + 1) (er f one) (by omega) (by omega) (Or.inr ⟨rfl, o6⟩)
      have bn := PV_nn (J := jo mg) 8 (s + 1) (bl (er f one))
      have tb : ∀ f2, f2 < 2 ^ N → (m 51 (256 * s + f2)).toInt = PV (jo mg) 8 s (bl f2) := fun f2 h2 => ht.2 s f2 (by omega) h2 (Or.inl (by omega))
      -- the list of the others, as the loop has it
      have Lj : fl (fun i => (er f one).testBit i) (N - (one + 1)) (one + 1) = bl (er f one) := by
        rw [o5]
        have : ∀ (k a : Nat), a + k = 8 → N - a ≤ k → a ≤ N → fl (fun i => (er f one).testBit i) (N - a) a = fl (fun i => (er f one).testBit i) k a := by
          intro k
          induction k with
          | zero => intro a _ h2 _; rw [show N - a = 0 by omega]
          | succ k ih =>
            intro a h1 h2 h3
            by_cases c : a < N
            · rw [show N - a = (N - (a + 1)) + 1 by omega, fl, fl, ih (a + 1) (by omega) (by omega) (by omega)]
            · rw [show N - a = 0 by omega]
              have : ∀ (k a : Nat), N ≤ a → fl (fun i => (er f one).testBit i) k a = [] := by
                intro k
                induction k with
                | zero => intro a _; rfl
                | succ k ih2 =>
                  intro a h
                  have z : (er f one).testBit a = false := Nat.testBit_lt_two_pow (Nat.lt_of_lt_of_le (show er f one < 2 ^ N by omega) (Nat.pow_le_pow_right (by decide) h))
                  rw [fl, z, if_neg (by decide)]
                  exact ih2 (a + 1) (by omega)
              exact (this (k + 1) a (by omega)).symm
        exact this (7 - one) (one + 1) (by omega) (by omega) (by omega)
      have len : (bl (er f one)).length ≤ 7 := by rw [o5]; exact Nat.le_trans (fl_len _ _) (by omega)
      -- both are bounded by the same numbers
      have key : ∀ z, (f_X2_mostOf_45 m (nI (s + 1)) (nI f) 9 (m 51 (256 * (s + 1) + er f one)) (nI (one + 1))).toInt ≤ z ↔ PV (jo mg) 8 (s + 1) (bl f) ≤ z := fun z => by
        have ml := mo_L (s := s + 1) m48 N8 (show f < 256 by omega) o2 o1 z (N - (one + 1)) 9 (one + 1) (m 51 (256 * (s + 1) + er f one)) (by omega) (by omega)
        rw [ml, Lj, base, o3, PV, fm_le, PV_k 7 8 (s + 1) _ len (by omega)]
        have c1 : 0 ≤ z → ∀ q, q ∈ bl (er f one) → (((f_X2_joysIfPaired m (nI one) (nI q) (nI (er f one)) (nI (s + 1))).toInt ≤ z ↔ cnd (jo mg one q) (PV (jo mg) 7 s ((bl (er f one)).erase q)) ≤ z) ∧ ((f_X2_joysIfPaired m (nI q) (nI one) (nI (er f one)) (nI (s + 1))).toInt ≤ z ↔ cnd (jo mg q one) (PV (jo mg) 7 s ((bl (er f one)).erase q)) ≤ z)) := fun z0 q hq => by
          have qN : q < N := bl_lt (show er f one < 2 ^ N by omega) hq
          obtain ⟨g1, g2⟩ := erase2 (one := one) (q := q) (rest := er f one) (by omega) o1 (by omega) hu
          have e8 := er_bl (f := er f one) (i := q) (by omega) (by omega)
          have lq : ((bl (er f one)).erase q).length ≤ 7 := Nat.le_trans List.length_erase_le len
          have em : (-4 : Int32).toInt = -4 := rfl
          refine ⟨?_, ?_⟩
          · rcases jip r hN N8 m50 oN qN (by omega) (show er f one < 2 ^ N by omega) tb with ⟨a1, a2⟩ | ⟨a1, a2⟩
            · rw [a2, a1, em]
              unfold cnd
              rw [if_pos (by decide)]
              omega
            · rw [a2, g1, e8, PV_k 8 7 s _ (by omega) lq]
              unfold cnd
              rw [if_neg (by omega)]
          · rcases jip r hN N8 m50 qN oN (by omega) (show er f one < 2 ^ N by omega) tb with ⟨a1, a2⟩ | ⟨a1, a2⟩
            · rw [a2, a1, em]
              unfold cnd
              rw [if_pos (by decide)]
              omega
            · rw [a2, g2, e8, PV_k 8 7 s _ (by omega) lq]
              unfold cnd
              rw [if_neg (by omega)]
        refine ⟨fun ⟨h1, h2⟩ => ⟨h1, fun y hy => ?_⟩, fun ⟨h1, h2⟩ => ⟨h1, fun q hq => ⟨?_, ?_⟩⟩⟩
        · rcases List.mem_append.mp hy with h | h
          · obtain ⟨q, hq, rfl⟩ := List.mem_map.mp h
            exact (c1 (by omega) q hq).1.mp (h2 q hq).1
          · obtain ⟨q, hq, rfl⟩ := List.mem_map.mp h
            exact (c1 (by omega) q hq).2.mp (h2 q hq).2
        · exact (c1 (by omega) q hq).1.mpr (h2 _ (List.mem_append.mpr (Or.inl (List.mem_map.mpr ⟨q, hq, rfl⟩))))
        · exact (c1 (by omega) q hq).2.mpr (h2 _ (List.mem_append.mpr (Or.inr (List.mem_map.mpr ⟨q, hq, rfl⟩))))
      exact Int.le_antisymm ((key _).mpr (Int.le_refl _)) ((key _).mp (Int.le_refl _))
end PT
