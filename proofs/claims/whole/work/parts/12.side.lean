
theorem pmk_eta {α β : Type} (p : α × β) : (p.1, p.2) = p := by
  cases p
  rfl
theorem lt3_0 : (0 : Nat) < 3 := by decide
theorem lt3_1 : (1 : Nat) < 3 := by decide
theorem lt3_2 : (2 : Nat) < 3 := by decide
theorem ne_toInt {x y : Int32} (h : ¬ x = y) : x.toInt ≠ y.toInt := fun q => h (Int32.toInt_inj.mp q)
theorem nn_of {i : Int32} (h : 0 ≤ i.toInt) : ∃ j : Nat, j < 2 ^ 31 ∧ i = nI j := by
  apply nI_of
  intro h2
  have h3 := Int32.lt_iff_toInt_lt.mp h2
  have h4 : (0 : Int32).toInt = 0 := rfl
  omega
theorem inc_toInt {i b : Int32} (h0 : 0 ≤ i.toInt) (h : i.toInt < b.toInt) : (i + 1).toInt = i.toInt + 1 := by
  obtain ⟨j, hj, rfl⟩ := nn_of h0
  have hb := Int32.toInt_lt b
  rw [nI_1]
  rw [nI_toInt hj] at h ⊢
  rw [nI_toInt (by omega)]
  omega
/-- a counter i that goes up to b, fewer than n steps left -/
def lc (i b : Int32) (n : Nat) : Prop := 0 ≤ i.toInt ∧ (b.toInt - i.toInt).toNat < n
theorem lc_0 {b : Int32} {n : Nat} (h : b.toInt < n) (hn : 0 < n) : lc 0 b n := by
  have h4 : (0 : Int32).toInt = 0 := rfl
  unfold lc
  omega
theorem lc_from {i b : Int32} {n : Nat} (h0 : 0 ≤ i.toInt) (h : b.toInt - i.toInt < n) (hn : 0 < n) : lc i b n := by
  unfold lc
  omega
theorem lc_stepN {i b : Int32} {n : Nat} (h : lc i b (n + 1)) (c : ¬ b ≤ i) : lc (i + 1) b n := by
  have c2 : i.toInt < b.toInt := by
    have : ¬ b.toInt ≤ i.toInt := fun q => c (Int32.le_iff_toInt_le.mpr q)
    omega
  have h1 := inc_toInt h.1 c2
  have h2 := h.2
  have h3 := h.1
  unfold lc
  omega
theorem lc_step {i b : Int32} {n : Nat} (h : lc i b (n + 1)) (c : i < b) : lc (i + 1) b n := lc_stepN h (fun q => by
  have h1 := Int32.lt_iff_toInt_lt.mp c
  have h2 := Int32.le_iff_toInt_le.mp q
  omega)
theorem vin_of {i : Int32} {k : Nat} (h0 : 0 ≤ i.toInt) (h : i.toInt < k) : vp_in i k := vp_in_iff.mpr ⟨h0, h⟩
theorem vin_lc {i b : Int32} {n k : Nat} (h : lc i b n) (c : ¬ b ≤ i) (hb : b.toInt ≤ k) : vp_in i k := by
  have c2 : i.toInt < b.toInt := by
    have : ¬ b.toInt ≤ i.toInt := fun q => c (Int32.le_iff_toInt_le.mpr q)
    omega
  exact vin_of h.1 (by omega)
theorem vin_lc2 {i b : Int32} {n k : Nat} (h : lc i b n) (c : i < b) (hb : b.toInt ≤ k) : vp_in i k := vin_of h.1 (by
  have := Int32.lt_iff_toInt_lt.mp c
  omega)
theorem vin_ch {i b : Int32} {k : Nat} (c1 : ¬ i < 0) (c2 : ¬ b ≤ i) (hb : b.toInt ≤ k) : vp_in i k := by
  have h4 : (0 : Int32).toInt = 0 := rfl
  have h1 : 0 ≤ i.toInt := by
    have : ¬ i.toInt < (0 : Int32).toInt := fun q => c1 (Int32.lt_iff_toInt_lt.mpr q)
    omega
  have h2 : i.toInt < b.toInt := by
    have : ¬ b.toInt ≤ i.toInt := fun q => c2 (Int32.le_iff_toInt_le.mpr q)
    omega
  exact vin_of h1 (by omega)
theorem vin_mono {i : Int32} {a b : Nat} (h : vp_in i a) (hab : a ≤ b) : vp_in i b := by
  have := vp_in_iff.mp h
  exact vp_in_iff.mpr ⟨this.1, by omega⟩

theorem vin_lit0 : vp_in (0 : Int32) 8 := by unfold vp_in; decide
theorem vin_lit1 : vp_in (1 : Int32) 8 := by unfold vp_in; decide
theorem vin_lit2 : vp_in (2 : Int32) 8 := by unfold vp_in; decide
theorem vin_lit3 : vp_in (3 : Int32) 8 := by unfold vp_in; decide
theorem vin_lit4 : vp_in (4 : Int32) 8 := by unfold vp_in; decide
theorem vin_lit5 : vp_in (5 : Int32) 8 := by unfold vp_in; decide
theorem vin_lit6 : vp_in (6 : Int32) 8 := by unfold vp_in; decide
theorem vin_lit7 : vp_in (7 : Int32) 8 := by unfold vp_in; decide
theorem vin_lit8 : vp_in (8 : Int32) 9 := by unfold vp_in; decide

/-- what the class' memory keeps: numbers of kinds, sizes of fetes, lengths of rows -/
def In (g : Mem) : Prop := (∀ k, k < 24 → vp_in (g k 0) 8) ∧ (∀ d, d < 8 → vp_in (g (24 + d) 2) 8) ∧ (∀ t, t < 3 → 0 ≤ (g (40 + t) 1).toInt ∧ (g (40 + t) 1).toInt ≤ 8) ∧ (∀ d, d < 8 → 0 ≤ (g (24 + d) 5).toInt ∧ (g (24 + d) 5).toInt ≤ 100) ∧ ∀ f : Nat, 0 ≤ (g 51 f).toInt
theorem In_pk {g : Mem} (h : In g) {k : Nat} (hk : k < 24) : vp_in (g k 0) 8 := h.1 k hk
theorem In_sk {g : Mem} (h : In g) {d : Nat} (hd : d < 8) : vp_in (g (24 + d) 2) 8 := h.2.1 d hd
theorem In_sz {g : Mem} (h : In g) {t : Nat} (ht : t < 3) : (g (40 + t) 1).toInt ≤ 8 := (h.2.2.1 t ht).2
theorem In_sz0 {g : Mem} (h : In g) {t : Nat} (ht : t < 3) : 0 ≤ (g (40 + t) 1).toInt := (h.2.2.1 t ht).1
theorem In_len {g : Mem} (h : In g) {d : Nat} (hd : d < 8) : (g (24 + d) 5).toInt ≤ 100 := (h.2.2.2.1 d hd).2
theorem In_len0 {g : Mem} (h : In g) {d : Nat} (hd : d < 8) : 0 ≤ (g (24 + d) 5).toInt := (h.2.2.2.1 d hd).1
theorem up_ne {g : Mem} {k f k2 f2 : Nat} {v : Int32} (h : k2 ≠ k ∨ f2 ≠ f) : up g k f v k2 f2 = g k2 f2 := by
  unfold up
  by_cases hk : k2 = k
  · rw [if_pos hk]
    unfold upd
    rw [if_neg (h.resolve_left (fun q => q hk)), hk]
  · rw [if_neg hk]
theorem up_eq {g : Mem} {k f : Nat} {v : Int32} : up g k f v k f = v := by
  unfold up upd
  simp
/-- a write elsewhere -/
theorem In_up {g : Mem} (h : In g) {k f : Nat} (v : Int32) (h1 : ¬ (k < 24 ∧ f = 0)) (h2 : ¬ (24 ≤ k ∧ k < 32 ∧ (f = 2 ∨ f = 5))) (h3 : ¬ (40 ≤ k ∧ k < 43 ∧ f = 1)) (h4 : k ≠ 51) : In (up g k f v) := by
  refine ⟨fun j hj => ?_, fun d hd => ?_, fun t ht => ?_, fun d hd => ?_, fun x => ?_⟩
  · rw [up_ne (by omega)]; exact h.1 j hj
  · rw [up_ne (by omega)]; exact h.2.1 d hd
  · rw [up_ne (by omega)]; exact h.2.2.1 t ht
  · rw [up_ne (by omega)]; exact h.2.2.2.1 d hd
  · rw [up_ne (by omega)]; exact h.2.2.2.2 x
theorem In_upP {g : Mem} (h : In g) {k f : Nat} (hk : k < 24) (hf : f ≠ 0) {v : Int32} : In (up g k f v) := In_up h v (by omega) (by omega) (by omega) (by omega)
theorem In_upF {g : Mem} (h : In g) {t f : Nat} (ht : t < 3) (hf : f ≠ 1) {v : Int32} : In (up g (40 + t) f v) := In_up h v (by omega) (by omega) (by omega) (by omega)
theorem In_up_hi {g : Mem} (h : In g) {k f : Nat} (hk : 43 ≤ k ∧ k ≠ 51) {v : Int32} : In (up g k f v) := In_up h v (by omega) (by omega) (by omega) (by omega)
theorem In_up51 {g : Mem} (h : In g) {f : Nat} {v : Int32} (hv : 0 ≤ v.toInt) : In (up g 51 f v) := by
  refine ⟨fun j hj => ?_, fun d hd => ?_, fun t ht => ?_, fun d hd => ?_, fun x => ?_⟩
  · rw [up_ne (by omega)]; exact h.1 j hj
  · rw [up_ne (by omega)]; exact h.2.1 d hd
  · rw [up_ne (by omega)]; exact h.2.2.1 t ht
  · rw [up_ne (by omega)]; exact h.2.2.2.1 d hd
  · by_cases q : x = f
    · subst q; rw [up_eq]; exact hv
    · rw [up_ne (Or.inr q)]; exact h.2.2.2.2 x
theorem In_mo {g : Mem} (h : In g) (f : Nat) : 0 ≤ (g 51 f).toInt := h.2.2.2.2 f
theorem In_upC {g : Mem} (h : In g) {d f : Nat} (hd : d < 8) {v : Int32} : In (up g (32 + d) f v) := In_up h v (by omega) (by omega) (by omega) (by omega)
theorem In_upS {g : Mem} (h : In g) {d f : Nat} (hd : d < 8) (hf : f ≠ 2 ∧ f ≠ 5) {v : Int32} : In (up g (24 + d) f v) := In_up h v (by omega) (by omega) (by omega) (by omega)
theorem In_upPk {g : Mem} (h : In g) {k : Nat} (hk : k < 24) {v : Int32} (hv : vp_in v 8) : In (up g k 0 v) := by
  refine ⟨fun j hj => ?_, fun d hd => ?_, fun t ht => ?_, fun d hd => ?_, fun x => ?_⟩
  · by_cases q : j = k
    · subst q; rw [up_eq]; exact hv
    · rw [up_ne (Or.inl q)]; exact h.1 j hj
  · rw [up_ne (by omega)]; exact h.2.1 d hd
  · rw [up_ne (by omega)]; exact h.2.2.1 t ht
  · rw [up_ne (by omega)]; exact h.2.2.2.1 d hd
  · rw [up_ne (by omega)]; exact h.2.2.2.2 x
theorem In_upSk {g : Mem} (h : In g) {d : Nat} (hd : d < 8) {v : Int32} (hv : vp_in v 8) : In (up g (24 + d) 2 v) := by
  refine ⟨fun j hj => ?_, fun d2 hd2 => ?_, fun t ht => ?_, fun d2 hd2 => ?_, fun x => ?_⟩
  · rw [up_ne (by omega)]; exact h.1 j hj
  · by_cases q : d2 = d
    · subst q; rw [up_eq]; exact hv
    · rw [up_ne (by omega)]; exact h.2.1 d2 hd2
  · rw [up_ne (by omega)]; exact h.2.2.1 t ht
  · rw [up_ne (by omega)]; exact h.2.2.2.1 d2 hd2
  · rw [up_ne (by omega)]; exact h.2.2.2.2 x
theorem In_upSl {g : Mem} (h : In g) {d : Nat} (hd : d < 8) {v : Int32} (h0 : 0 ≤ v.toInt) (hv : v.toInt ≤ 100) : In (up g (24 + d) 5 v) := by
  refine ⟨fun j hj => ?_, fun d2 hd2 => ?_, fun t ht => ?_, fun d2 hd2 => ?_, fun x => ?_⟩
  · rw [up_ne (by omega)]; exact h.1 j hj
  · rw [up_ne (by omega)]; exact h.2.1 d2 hd2
  · rw [up_ne (by omega)]; exact h.2.2.1 t ht
  · by_cases q : d2 = d
    · subst q; rw [up_eq]; exact ⟨h0, hv⟩
    · rw [up_ne (by omega)]; exact h.2.2.2.1 d2 hd2
  · rw [up_ne (by omega)]; exact h.2.2.2.2 x
theorem In_upFs {g : Mem} (h : In g) {t : Nat} (ht : t < 3) {v : Int32} (h0 : 0 ≤ v.toInt) (hv : v.toInt ≤ 8) : In (up g (40 + t) 1 v) := by
  refine ⟨fun j hj => ?_, fun d2 hd2 => ?_, fun t2 ht2 => ?_, fun d2 hd2 => ?_, fun x => ?_⟩
  · rw [up_ne (by omega)]; exact h.1 j hj
  · rw [up_ne (by omega)]; exact h.2.1 d2 hd2
  · by_cases q : t2 = t
    · subst q; rw [up_eq]; exact ⟨h0, hv⟩
    · rw [up_ne (by omega)]; exact h.2.2.1 t2 ht2
  · rw [up_ne (by omega)]; exact h.2.2.2.1 d2 hd2
  · rw [up_ne (by omega)]; exact h.2.2.2.2 x

