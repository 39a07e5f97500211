
/-- all rows but one are as they were -/
def NK (c : Nat) (g g2 : Mem) : Prop := ∀ k f : Nat, k ≠ c → g2 k f = g k f
theorem NK.rf {c : Nat} {g : Mem} : NK c g g := fun _ _ _ => rfl
theorem NK_up {c : Nat} {g g2 : Mem} (h : NK c g g2) {f : Nat} {v : Int32} : NK c g (up g2 c f v) := fun k q hk => (up_ne (Or.inl hk)).trans (h k q hk)
theorem left_ge {x : Int32} (h : vp_in x 5) (c : ¬ x = 0) : 1 ≤ x.toInt := by
  have h1 := vp_in_iff.mp h
  have e0 : (0 : Int32).toInt = 0 := rfl
  have h2 : x.toInt ≠ (0 : Int32).toInt := ne_toInt c
  omega
theorem max_ge {a b : Int32} (h : 0 ≤ a.toInt) : 0 ≤ (if a < b then b else a).toInt := by
  split
  · have := Int32.lt_iff_toInt_lt.mp (by assumption : a < b)
    omega
  · exact h
theorem mostOf_L {g : Mem} (hz : (g 48 4).toInt ≤ 8) {p0 p1 : Int32} : ∀ (n : Nat) (a5 a6 : Int32), lc a6 (g 48 4) n → 0 ≤ a5.toInt → 0 ≤ (f_X2_mostOf_45 g p0 p1 n a5 a6).toInt := by
  intro n
  induction n with
  | zero => intro a5 a6 hL; exact absurd hL.2 (Nat.not_lt_zero _)
  | succ n ih =>
    intro a5 a6 hL h
    rw [f_X2_mostOf_45]
    split
    · exact h
    · have c := (by assumption : ¬ g 48 4 ≤ a6)
      split
      · exact ih _ _ (lc_stepN hL c) (max_ge (max_ge h))
      · exact ih _ _ (lc_stepN hL c) h
theorem mostOf_ge {g : Mem} (hI : In g) (hz : (g 48 4).toInt ≤ 8) {p0 p1 : Int32} : 0 ≤ (f_X2_mostOf g p0 p1).toInt := by
  unfold f_X2_mostOf
  split
  · decide
  · split
    · decide
    · exact mostOf_L hz 9 _ _ (next_lc leastOf_in hz) (In_mo hI _)
theorem hz_at {g g2 : Mem} {c : Nat} (h : NK c g g2) (hc : 48 ≠ c) (hz : (g 48 4).toInt ≤ 8) : (g2 48 4).toInt ≤ 8 := by
  rw [h 48 4 hc]
  exact hz
theorem places_in {g : Mem} (hI : In g) {d : Nat} (hd : d < 8) {i n : Int32} (c : ¬ f_X4_hasPlaces g d i n = 0) : ¬ i < 0 ∧ ¬ n < 0 ∧ ix i + ix n ≤ 100 := by
  unfold f_X4_hasPlaces at c
  split at c
  · exact absurd rfl c
  · split at c
    · exact absurd rfl c
    · split at c
      · exact absurd rfl c
      · split at c
        · exact absurd rfl c
        · have h1 := (by assumption : ¬ i < 0)
          have h2 := (by assumption : ¬ n < 0)
          refine ⟨h1, h2, ?_⟩
          have hl := In_len hI hd
          have hl0 := In_len0 hI hd
          obtain ⟨q, hq, e⟩ := nn_of hl0
          obtain ⟨a, ha, rfl⟩ := nI_of h1
          obtain ⟨b, hb, rfl⟩ := nI_of h2
          have h3 := (by assumption : ¬ g (24 + d) 5 < nI a)
          have h4 := (by assumption : ¬ g (24 + d) 5 - nI a < nI b)
          rw [e] at h3 h4 hl
          rw [nI_toInt hq] at hl
          have h5 : a ≤ q := Nat.le_of_not_lt (fun z => h3 ((nI_ltI hq ha).mpr z))
          rw [pk_sub h5] at h4
          have h6 : b ≤ q - a := Nat.le_of_not_lt (fun z => h4 ((nI_ltI (by omega) hb).mpr z))
          show (nI a).toNatClampNeg + (nI b).toNatClampNeg ≤ 100
          rw [nI_clamp ha, nI_clamp hb]
          omega
theorem copy_in {g : Mem} (hI : In g) {d e : Nat} (hd : d < 8) (he : e < 8) {i j n : Int32} (c1 : ¬ f_X4_hasPlaces g d i n = 0) (c2 : ¬ f_X4_hasPlaces g e j n = 0) : ¬ i < 0 ∧ ¬ j < 0 ∧ ¬ n < 0 ∧ ix i + ix n ≤ 100 ∧ ix j + ix n ≤ 100 :=
  ⟨(places_in hI hd c1).1, (places_in hI he c2).1, (places_in hI hd c1).2.1, (places_in hI hd c1).2.2, (places_in hI he c2).2.2⟩
