theorem NKM {g g2 : Mem} (hI : InM g) (h : NK 2 g g2) : InM g2 := by
  refine ⟨?_, ?_, fun d hd => ?_⟩
  · rw [h 1 0 (by decide)]; exact hI.1
  · rw [h 3 0 (by decide)]; exact hI.2.1
  · rw [h 12 d (by decide)]; exact hI.2.2 d hd
theorem NK_cp {g : Mem} : NK 2 g (f_X6_copies g 1 2) := fun q j hq => copies_o (by decide) hq j
theorem NK_tr {c : Nat} {g g2 g3 : Mem} (h : NK c g g2) (h2 : NK c g2 g3) : NK c g g3 := fun k f hk => (h2 k f hk).trans (h k f hk)
theorem NK_turnM {g : Mem} {k : Nat} {a b : Int32} : NK k g (m_X6_turn g k a b) := NK_up (NK_up (NK_up (NK_up (NK_up (NK_up NK.rf)))))
theorem turn_0 {g : Mem} {k : Nat} {a b : Int32} (ha : vp_in a 9) (hb : vp_in b 9) : m_X6_turn g k a b k 0 = g k 0 :=
  (up_ne (Or.inr (by decide))).trans ((up_ne (Or.inr (by decide))).trans ((up_ne (Or.inr (Ne.symm (of_pos hb (by unfold vp_in; decide))))).trans ((up_ne (Or.inr (Ne.symm (of_pos ha (by unfold vp_in; decide))))).trans ((up_ne (Or.inr (Ne.symm (of_pos hb (by unfold vp_in; decide))))).trans (up_ne (Or.inr (Ne.symm (of_pos ha (by unfold vp_in; decide)))))))))
theorem cp_0 {g : Mem} : f_X6_copies g 1 2 2 0 = g 1 0 := copies_i (by decide) (by decide)
theorem tc_hm {g : Mem} (hI : InM g) {a b : Int32} (ha : vp_in a 9) (hb : vp_in b 9) : ((m_X6_turn (f_X6_copies g 1 2) 2 a b) 2 0).toInt ≤ 9 := by
  rw [turn_0 ha hb, cp_0]
  exact InM_s9 hI
theorem adds_0 {g : Mem} {k : Nat} (hm : vp_in (g k 0) 9) {a b c d : Int32} : f_X6_adds g k a b c d k 0 = g k 0 + 1 := by
  have e : ∀ j : Int32, vp_in j 6 → ix (f_X6_of (g k 0) j) ≠ 0 := fun j hj => of_pos hm hj
  refine up_eq.trans (congrArg (fun x => x + 1) ?_)
  exact (up_ne (Or.inr (Ne.symm (e _ (by unfold vp_in; decide))))).trans ((up_ne (Or.inr (Ne.symm (e _ (by unfold vp_in; decide))))).trans ((up_ne (Or.inr (Ne.symm (e _ (by unfold vp_in; decide))))).trans ((up_ne (Or.inr (Ne.symm (e _ (by unfold vp_in; decide))))).trans ((up_ne (Or.inr (Ne.symm (e _ (by unfold vp_in; decide))))).trans (up_ne (Or.inr (Ne.symm (e _ (by unfold vp_in; decide)))))))))
theorem NK_adds {g : Mem} {k : Nat} {a b c d : Int32} : NK k g (f_X6_adds g k a b c d) := NK_up (NK_up (NK_up (NK_up (NK_up (NK_up (NK_up NK.rf))))))
theorem br_vin {g g2 : Mem} (hI : InM g) (h : g2 1 0 = g 1 0) : vp_in (f_X6_copies g2 1 2 2 0) 9 := by
  rw [cp_0, h]
  exact vin_of (InM_s0 hI) (by have := InM_s hI; omega)
theorem br_hm {g g2 : Mem} (hI : InM g) (h : g2 1 0 = g 1 0) {a b c d : Int32} : ((f_X6_adds (f_X6_copies g2 1 2) 2 a b c d) 2 0).toInt ≤ 9 := by
  rw [adds_0 (br_vin hI h), cp_0, h]
  have h1 := InM_s hI
  have h0 := InM_s0 hI
  rw [inc_toInt (b := 100) h0 (by have : (100 : Int32).toInt = 100 := rfl; omega)]
  omega
theorem even_of {x : Int32} (h0 : 0 ≤ x.toInt) (c : ¬ x - x / 2 * 2 = 1) : x.toInt % 2 = 0 := by
  have e2 : (2 : Int32).toInt = 2 := rfl
  have e1 : (1 : Int32).toInt = 1 := rfl
  have h1 : (x - x / 2 * 2).toInt ≠ (1 : Int32).toInt := ne_toInt c
  rw [mod_toInt h0 (by omega), e2] at h1
  omega
theorem forg_in {a len : Int32} {n : Nat} (h : 0 ≤ a.toInt ∧ a.toInt ≤ 102 ∧ (len.toInt - a.toInt).toNat < n + 1) (c : ¬ len ≤ a) (hl : len.toInt ≤ 100) (he : len.toInt % 2 = 0) (hea : a.toInt % 2 = 0) : vp_in a 100 ∧ (0 ≤ a.toInt ∧ a.toInt ≤ 98) := by
  have c2 := lt_of_nle c
  exact ⟨vin_of h.1 (by omega), h.1, by omega⟩
theorem even2 {a len : Int32} {n : Nat} (h : 0 ≤ a.toInt ∧ a.toInt ≤ 102 ∧ (len.toInt - a.toInt).toNat < n + 1) (hea : a.toInt % 2 = 0) : (a + 2).toInt % 2 = 0 := by
  rw [inc2_toInt h.1 (by omega)]
  omega
theorem elt_in3 {d i : Int32} (hd : vp_in d 8) (hi : 0 ≤ i.toInt ∧ i.toInt ≤ 98) : vp_in (100 * d + i + 1) 800 := by
  have h1 := vp_in_iff.mp hd
  have e : (100 : Int32).toInt = 100 := rfl
  have e1 : (1 : Int32).toInt = 1 := rfl
  have h3 : (100 * d).toInt = 100 * d.toInt := by rw [mul_toInt (by omega) (by omega) (by omega) (by omega), e]
  have h4 : (100 * d + i).toInt = 100 * d.toInt + i.toInt := by rw [add_toInt (by omega) (by omega) (by omega) (by omega), h3]
  exact vin_of (by rw [add_toInt (by omega) (by omega) (by omega) (by omega)]; omega) (by rw [add_toInt (by omega) (by omega) (by omega) (by omega)]; omega)
