theorem le_of_nlt {a b : Int32} (c : ¬ a < b) : b ≤ a := by
  have : ¬ a.toInt < b.toInt := fun q => c (Int32.lt_iff_toInt_lt.mpr q)
  exact Int32.le_iff_toInt_le.mpr (by omega)
theorem msub_ne {c x : Int32} (h : c.toInt < 0) (h0 : 0 ≤ x.toInt) : ¬ c - x = 0 := fun q => by
  have e := Int32.sub_add_cancel c x
  rw [q, Int32.zero_add] at e
  rw [← e] at h
  omega
/-- two memories that the reader can't tell apart -/
def RE (g g' : Mem) : Prop := g' 0 5 = g 0 5 ∧ g' 0 6 = g 0 6 ∧ g' 0 7 = g 0 7 ∧ ∀ j, g' 13 j = g 13 j
theorem RE_rf {g : Mem} : RE g g := ⟨rfl, rfl, rfl, fun _ => rfl⟩
theorem RE_tr {a b c : Mem} (h : RE a b) (k : RE b c) : RE a c := ⟨k.1.trans h.1, k.2.1.trans h.2.1, k.2.2.1.trans h.2.2.1, fun j => (k.2.2.2 j).trans (h.2.2.2 j)⟩
theorem RE_num {a b : Mem} (h : RE a b) {j j' : Nat} {v v' : Int32} : RE (up a 5 j v) (up b 5 j' v') := by
  obtain ⟨h1, h2, h3, h4⟩ := h
  refine ⟨?_, ?_, ?_, fun j => ?_⟩ <;> rw [up_ne (Or.inl (by decide)), up_ne (Or.inl (by decide))]
  · exact h1
  · exact h2
  · exact h3
  · exact h4 j
theorem RE_to {a b : Mem} (h : RE a b) {v w : Int32} (e : w = v) : RE (up a 0 5 v) (up b 0 5 w) := by
  obtain ⟨h1, h2, h3, h4⟩ := h
  refine ⟨?_, ?_, ?_, fun j => ?_⟩
  · rw [up_eq, up_eq]; exact e
  · rw [up_ne (Or.inr (by decide)), up_ne (Or.inr (by decide))]; exact h2
  · rw [up_ne (Or.inr (by decide)), up_ne (Or.inr (by decide))]; exact h3
  · rw [up_ne (Or.inl (by decide)), up_ne (Or.inl (by decide))]; exact h4 j
theorem RE_pl {a b : Mem} (h : RE a b) {d : Int32} : RE (up a 0 5 (a 0 5 + d)) (up b 0 5 (b 0 5 + d)) := RE_to h (by rw [h.1])
theorem RE_mi {a b : Mem} (h : RE a b) {d : Int32} : RE (up a 0 5 (a 0 5 - d)) (up b 0 5 (b 0 5 - d)) := RE_to h (by rw [h.1])
theorem here_RE {a b : Mem} (h : RE a b) : f_X6_here b = f_X6_here a := by
  unfold f_X6_here
  rw [h.1, h.2.1, h.2.2.1, h.2.2.2]
/-- what the reader changes: its place and the numbers -/
def RS (g g' : Mem) : Prop := ∀ k f, k ≠ 5 → ¬ (k = 0 ∧ f = 5) → g' k f = g k f
theorem RS_rf {g : Mem} : RS g g := fun _ _ _ _ => rfl
theorem RS_tr {a b c : Mem} (h : RS a b) (k : RS b c) : RS a c := fun i f h1 h2 => (k i f h1 h2).trans (h i f h1 h2)
theorem RS_num {a b : Mem} (h : RS a b) {j : Nat} {v : Int32} : RS a (up b 5 j v) := fun i f h1 h2 => (up_ne (Or.inl h1)).trans (h i f h1 h2)
theorem RS_pl {a b : Mem} (h : RS a b) {v : Int32} : RS a (up b 0 5 v) := fun i f h1 h2 => (up_ne (by omega)).trans (h i f h1 h2)
theorem RS_7 {a b : Mem} (h : RS a b) : b 0 7 = a 0 7 := h 0 7 (by decide) (by decide)
theorem rn_RE_L {g g' : Mem} {p0 p1 : Int32} (hg : RE g g') : ∀ (n : Nat) (a3 : Int32) (a b : Mem), RE a b → (f_X6_readsNumber_9 g' p0 p1 n a3 b).1 = (f_X6_readsNumber_9 g p0 p1 n a3 a).1 ∧ RE (f_X6_readsNumber_9 g p0 p1 n a3 a).2 (f_X6_readsNumber_9 g' p0 p1 n a3 b).2 := by
  intro n
  induction n with
  | zero => intro a3 a b h; exact ⟨rfl, hg⟩
  | succ n ih =>
    intro a3 a b h
    rw [f_X6_readsNumber_9, f_X6_readsNumber_9, here_RE h]
    by_cases c1 : p1 ≤ a3
    · simp only [if_pos c1]; exact ⟨trivial, h⟩
    · simp only [if_neg c1]
      by_cases c2 : f_X6_isIn (f_X6_here a) (48 : Int32) (57 : Int32) = 0
      · simp only [if_pos c2]; exact ⟨trivial, h⟩
      · simp only [if_neg c2]
        exact ih _ _ _ (RE_pl (RE_num h))
theorem rn_RE {g g' : Mem} (h : RE g g') (p0 p1 : Int32) : r_X6_readsNumber g' p0 p1 = r_X6_readsNumber g p0 p1 ∧ RE (m_X6_readsNumber g p0 p1) (m_X6_readsNumber g' p0 p1) := rn_RE_L h 3 0 _ _ (RE_num h)
theorem rn_RS_L {g : Mem} {p0 p1 : Int32} {q : Mem} (hg : RS q g) : ∀ (n : Nat) (a3 : Int32) (a : Mem), RS q a → RS q (f_X6_readsNumber_9 g p0 p1 n a3 a).2 := by
  intro n
  induction n with
  | zero => intro a3 a h; exact hg
  | succ n ih =>
    intro a3 a h
    rw [f_X6_readsNumber_9]
    split
    · exact h
    · split
      · exact h
      · exact ih _ _ (RS_pl (RS_num h))
theorem rn_RS {q g : Mem} (h : RS q g) (p0 p1 : Int32) : RS q (m_X6_readsNumber g p0 p1) := rn_RS_L h 3 0 _ (RS_num h)
theorem rn_pl_L {g : Mem} {p0 p1 : Int32} {x : Int} (hg : x ≤ (g 0 5).toInt) : ∀ (n : Nat) (a3 : Int32) (a : Mem), WP a 600 → x ≤ (a 0 5).toInt → x ≤ ((f_X6_readsNumber_9 g p0 p1 n a3 a).2 0 5).toInt := by
  intro n
  induction n with
  | zero => intro a3 a w h; exact hg
  | succ n ih =>
    intro a3 a w h
    rw [f_X6_readsNumber_9]
    split
    · exact h
    · split
      · exact h
      · have c := here_lt (by assumption)
        refine ih _ _ (WP_pl (WP_num w) c) ?_
        show x ≤ (up (up a 5 (ix p0) _) 0 5 ((up a 5 (ix p0) _) 0 5 + 1) 0 5).toInt
        rw [up_eq, up_ne (Or.inl (by decide)), add1_toInt w.2.2.2.1 (by have := w.2.2.2.2; omega)]
        omega
theorem rn_pl {g : Mem} {x : Int} (w : WP g 600) (h : x ≤ (g 0 5).toInt) (p0 p1 : Int32) : x ≤ ((m_X6_readsNumber g p0 p1) 0 5).toInt := rn_pl_L h 3 0 _ (WP_num w) (by show x ≤ (up g 5 (ix p0) 0 0 5).toInt; rw [up_ne (Or.inl (by decide))]; exact h)
theorem rs_RE {g b : Mem} (h : RE g b) : r_X6_readsStatement b = r_X6_readsStatement g ∧ RE (m_X6_readsStatement g) (m_X6_readsStatement b) := by
  have hA : RE (f_X6_readsStatement_m1 g) (f_X6_readsStatement_m1 b) := RE_pl h
  obtain ⟨e02, h02⟩ := rn_RE hA 0 2
  obtain ⟨e01, h01⟩ := rn_RE hA 0 1
  obtain ⟨e12, h12⟩ := rn_RE h01 1 2
  obtain ⟨e11, h11⟩ := rn_RE h01 1 1
  obtain ⟨e22, h22⟩ := rn_RE h11 2 2
  obtain ⟨e32, h32⟩ := rn_RE h22 3 2
  have f2 : RE (f_X6_readsStatement_m2 g) (f_X6_readsStatement_m2 b) := RE_pl h02
  have f3 : RE (f_X6_readsStatement_m3 g) (f_X6_readsStatement_m3 b) := RE_pl h12
  have f4 : RE (f_X6_readsStatement_m4 g) (f_X6_readsStatement_m4 b) := RE_pl h12
  have f5 : RE (f_X6_readsStatement_m5 g) (f_X6_readsStatement_m5 b) := RE_pl h32
  have f6 : RE (f_X6_readsStatement_m6 g) (f_X6_readsStatement_m6 b) := RE_pl h11
  have f7 : RE (f_X6_readsStatement_m7 g) (f_X6_readsStatement_m7 b) := RE_mi hA
  unfold r_X6_readsStatement m_X6_readsStatement f_X6_readsStatement
  rw [here_RE h, here_RE h02, here_RE h12, here_RE h32, here_RE h11, e02, e01, e12, e11, e22, e32]
  repeat' split
  all_goals first  | (with_reducible exact ⟨rfl, h02⟩) | (with_reducible exact ⟨rfl, h01⟩) | (with_reducible exact ⟨rfl, h12⟩) | (with_reducible exact ⟨rfl, h11⟩) | (with_reducible exact ⟨rfl, h22⟩) | (with_reducible exact ⟨rfl, h32⟩) | (with_reducible exact ⟨rfl, f2⟩) | (with_reducible exact ⟨rfl, f3⟩) | (with_reducible exact ⟨rfl, f4⟩) | (with_reducible exact ⟨rfl, f5⟩) | (with_reducible exact ⟨rfl, f6⟩) | (with_reducible exact ⟨rfl, f7⟩)
theorem RS_rs {g : Mem} : RS g (m_X6_readsStatement g) := by
  have hA : RS g (f_X6_readsStatement_m1 g) := RS_pl RS_rf
  have h02 := rn_RS hA 0 2
  have h01 := rn_RS hA 0 1
  have h12 := rn_RS h01 1 2
  have h11 := rn_RS h01 1 1
  have h22 := rn_RS h11 2 2
  have h32 := rn_RS h22 3 2
  have f2 : RS g (f_X6_readsStatement_m2 g) := RS_pl h02
  have f3 : RS g (f_X6_readsStatement_m3 g) := RS_pl h12
  have f4 : RS g (f_X6_readsStatement_m4 g) := RS_pl h12
  have f5 : RS g (f_X6_readsStatement_m5 g) := RS_pl h32
  have f6 : RS g (f_X6_readsStatement_m6 g) := RS_pl h11
  have f7 : RS g (f_X6_readsStatement_m7 g) := RS_pl hA
  unfold m_X6_readsStatement f_X6_readsStatement
  repeat' split
  all_goals first  | (with_reducible exact h02) | (with_reducible exact h01) | (with_reducible exact h12) | (with_reducible exact h11) | (with_reducible exact h22) | (with_reducible exact h32) | (with_reducible exact f2) | (with_reducible exact f3) | (with_reducible exact f4) | (with_reducible exact f5) | (with_reducible exact f6) | (with_reducible exact f7)
/-- the reader's place went on, no further than the row's end -/
def PL (g M : Mem) : Prop := (g 0 5).toInt < (M 0 5).toInt ∧ (M 0 5).toInt ≤ (g 0 7).toInt
theorem fin_lt {g X : Mem} (w : WP X 600) (p : (g 0 5).toInt + 1 ≤ (X 0 5).toInt) (r : RS g X) (c : f_X6_here X = 59) : PL g (up X 0 5 (X 0 5 + 1)) := by
  have h : (X 0 5).toInt < (X 0 7).toInt := by
    unfold f_X6_here at c
    split at c
    · exact absurd c (by decide)
    · exact lt_of_nle (by assumption)
  rw [RS_7 r] at h
  refine ⟨?_, ?_⟩ <;> rw [up_eq, add1_toInt w.2.2.2.1 (by have := w.2.2.2.2; omega)] <;> omega
theorem rs_PL {g : Mem} (h : WP g 100) : ¬ r_X6_readsStatement g = 0 → PL g (m_X6_readsStatement g) := by
  have wA : WP (f_X6_readsStatement_m1 g) 600 := WP_inc (WP_up h (by decide))
  have sA : RS g (f_X6_readsStatement_m1 g) := RS_pl RS_rf
  have pA : (g 0 5).toInt + 1 ≤ (f_X6_readsStatement_m1 g 0 5).toInt := by
    show _ ≤ (up g 0 5 (g 0 5 + 1) 0 5).toInt
    rw [up_eq, add1_toInt h.2.2.2.1 (by have := h.2.2.2.2; omega)]
    omega
  have w02 := WP_rn (p0 := 0) (p1 := 2) wA
  have s02 := rn_RS sA 0 2
  have p02 := rn_pl wA pA 0 2
  have w01 := WP_rn (p0 := 0) (p1 := 1) wA
  have s01 := rn_RS sA 0 1
  have p01 := rn_pl wA pA 0 1
  have w12 := WP_rn (p0 := 1) (p1 := 2) w01
  have s12 := rn_RS s01 1 2
  have p12 := rn_pl w01 p01 1 2
  have w11 := WP_rn (p0 := 1) (p1 := 1) w01
  have s11 := rn_RS s01 1 1
  have p11 := rn_pl w01 p01 1 1
  have w22 := WP_rn (p0 := 2) (p1 := 2) w11
  have s22 := rn_RS s11 2 2
  have p22 := rn_pl w11 p11 2 2
  have w32 := WP_rn (p0 := 3) (p1 := 2) w22
  have s32 := rn_RS s22 3 2
  have p32 := rn_pl w22 p22 3 2
  have f2 : f_X6_here (m_X6_readsNumber (f_X6_readsStatement_m1 g) (0 : Int32) (2 : Int32)) = 59 → PL g (f_X6_readsStatement_m2 g) := fin_lt w02 p02 s02
  have f3 : f_X6_here (m_X6_readsNumber (m_X6_readsNumber (f_X6_readsStatement_m1 g) (0 : Int32) (1 : Int32)) (1 : Int32) (2 : Int32)) = 59 → PL g (f_X6_readsStatement_m3 g) := fin_lt w12 p12 s12
  have f4 : f_X6_here (m_X6_readsNumber (m_X6_readsNumber (f_X6_readsStatement_m1 g) (0 : Int32) (1 : Int32)) (1 : Int32) (2 : Int32)) = 59 → PL g (f_X6_readsStatement_m4 g) := fin_lt w12 p12 s12
  have f5 : f_X6_here (m_X6_readsNumber (m_X6_readsNumber (m_X6_readsNumber (m_X6_readsNumber (f_X6_readsStatement_m1 g) (0 : Int32) (1 : Int32)) (1 : Int32) (1 : Int32)) (2 : Int32) (2 : Int32)) (3 : Int32) (2 : Int32)) = 59 → PL g (f_X6_readsStatement_m5 g) := fin_lt w32 p32 s32
  have f6 : f_X6_here (m_X6_readsNumber (m_X6_readsNumber (f_X6_readsStatement_m1 g) (0 : Int32) (1 : Int32)) (1 : Int32) (1 : Int32)) = 59 → PL g (f_X6_readsStatement_m6 g) := fin_lt w11 p11 s11
  unfold r_X6_readsStatement m_X6_readsStatement f_X6_readsStatement
  repeat' split
  all_goals first | (intro c; exact absurd rfl c)  | (with_reducible exact fun _ => f2 (by assumption)) | (with_reducible exact fun _ => f3 (by assumption)) | (with_reducible exact fun _ => f4 (by assumption)) | (with_reducible exact fun _ => f5 (by assumption)) | (with_reducible exact fun _ => f6 (by assumption))
theorem WP_fin {X : Mem} (w : WP X 600) (c : f_X6_here X = 59) : WP (up X 0 5 (X 0 5 + 1)) 600 := WP_pl w (by
    unfold f_X6_here at c
    split at c
    · exact absurd c (by decide)
    · exact lt_of_nle (by assumption))
theorem WP_dec {g : Mem} (h : WP g 500) : WP (f_X6_readsStatement_m7 g) 600 := by
  have e : f_X6_readsStatement_m7 g 0 5 = g 0 5 := by
    show up (up g 0 5 (g 0 5 + 1)) 0 5 ((up g 0 5 (g 0 5 + 1)) 0 5 - 1) 0 5 = _
    rw [up_eq, up_eq, Int32.add_sub_cancel]
  have r : RS g (f_X6_readsStatement_m7 g) := RS_pl (RS_pl RS_rf)
  refine ⟨?_, ?_, ?_, ?_, ?_⟩
  · rw [r 0 6 (by decide) (by decide)]; exact h.1
  · rw [r 0 6 (by decide) (by decide)]; exact h.2.1
  · rw [RS_7 r]; exact h.2.2.1
  · rw [e]; exact h.2.2.2.1
  · rw [e]; have := h.2.2.2.2; omega
theorem WP_rs {g : Mem} (h : WP g 500) : WP (m_X6_readsStatement g) 600 := by
  have wA : WP (f_X6_readsStatement_m1 g) 600 := WP_inc h
  have w02 := WP_rn (p0 := 0) (p1 := 2) wA
  have w01 := WP_rn (p0 := 0) (p1 := 1) wA
  have w12 := WP_rn (p0 := 1) (p1 := 2) w01
  have w11 := WP_rn (p0 := 1) (p1 := 1) w01
  have w22 := WP_rn (p0 := 2) (p1 := 2) w11
  have w32 := WP_rn (p0 := 3) (p1 := 2) w22
  have f2 : f_X6_here (m_X6_readsNumber (f_X6_readsStatement_m1 g) (0 : Int32) (2 : Int32)) = 59 → WP (f_X6_readsStatement_m2 g) 600 := WP_fin w02
  have f3 : f_X6_here (m_X6_readsNumber (m_X6_readsNumber (f_X6_readsStatement_m1 g) (0 : Int32) (1 : Int32)) (1 : Int32) (2 : Int32)) = 59 → WP (f_X6_readsStatement_m3 g) 600 := WP_fin w12
  have f4 : f_X6_here (m_X6_readsNumber (m_X6_readsNumber (f_X6_readsStatement_m1 g) (0 : Int32) (1 : Int32)) (1 : Int32) (2 : Int32)) = 59 → WP (f_X6_readsStatement_m4 g) 600 := WP_fin w12
  have f5 : f_X6_here (m_X6_readsNumber (m_X6_readsNumber (m_X6_readsNumber (m_X6_readsNumber (f_X6_readsStatement_m1 g) (0 : Int32) (1 : Int32)) (1 : Int32) (1 : Int32)) (2 : Int32) (2 : Int32)) (3 : Int32) (2 : Int32)) = 59 → WP (f_X6_readsStatement_m5 g) 600 := WP_fin w32
  have f6 : f_X6_here (m_X6_readsNumber (m_X6_readsNumber (f_X6_readsStatement_m1 g) (0 : Int32) (1 : Int32)) (1 : Int32) (1 : Int32)) = 59 → WP (f_X6_readsStatement_m6 g) 600 := WP_fin w11
  have f7 := WP_dec h
  unfold m_X6_readsStatement f_X6_readsStatement
  repeat' split
  all_goals first  | (with_reducible exact w02) | (with_reducible exact w01) | (with_reducible exact w12) | (with_reducible exact w11) | (with_reducible exact w22) | (with_reducible exact w32) | (with_reducible exact f2 (by assumption)) | (with_reducible exact f3 (by assumption)) | (with_reducible exact f4 (by assumption)) | (with_reducible exact f5 (by assumption)) | (with_reducible exact f6 (by assumption)) | (with_reducible exact f7)
theorem rs_WP {g : Mem} (h : WP g 100) (c : ¬ r_X6_readsStatement g = 0) : WP (m_X6_readsStatement g) 100 := by
  have p := rs_PL h c
  have r : RS g (m_X6_readsStatement g) := RS_rs
  have w := WP_rs (WP_up h (by decide : (100 : Int) ≤ 500))
  exact ⟨w.1, w.2.1, w.2.2.1, w.2.2.2.1, Int.le_trans p.2 h.2.2.1⟩
theorem InM_RS {g b : Mem} (r : RS g b) (h : InM g) : InM b := by
  refine ⟨?_, ?_, fun d hd => ?_⟩
  · rw [r 1 0 (by decide) (by decide)]; exact h.1
  · rw [r 3 0 (by decide) (by decide)]; exact h.2.1
  · rw [r 12 d (by decide) (by omega)]; exact h.2.2 d hd
theorem WP_RE {g b : Mem} {n : Int} (r : RE g b) (h : WP g n) : WP b n := by
  unfold WP
  rw [r.1, r.2.1, r.2.2.1]
  exact h
theorem InM_adds1 {g : Mem} (h : InM g) (c : ¬ g 1 0 = 8) {a b c2 d : Int32} : InM (f_X6_adds g 1 a b c2 d) := by
  have h8 := InM_s h
  have h0 := InM_s0 h
  have e8 : (8 : Int32).toInt = 8 := rfl
  have hne := ne_toInt c
  have hv : vp_in (g 1 0) 9 := vin_of h0 (by omega)
  have hM : InM (f_X6_adds_m6 g 1 a b c2 d) := InM_upI (InM_upI (InM_upI (InM_upI (InM_upI (InM_upI h rw4_1 (of_pos hv (by unfold vp_in; decide))) rw4_1 (of_pos hv (by unfold vp_in; decide))) rw4_1 (of_pos hv (by unfold vp_in; decide))) rw4_1 (of_pos hv (by unfold vp_in; decide))) rw4_1 (of_pos hv (by unfold vp_in; decide))) rw4_1 (of_pos hv (by unfold vp_in; decide))
  have e : f_X6_adds_m6 g 1 a b c2 d 1 0 = g 1 0 := by
    show up (up (up (up (up (up g 1 _ _) 1 _ _) 1 _ _) 1 _ _) 1 _ _) 1 _ _ 1 0 = _
    rw [up_ne (Or.inr (Ne.symm (of_pos hv (by unfold vp_in; decide)))), up_ne (Or.inr (Ne.symm (of_pos hv (by unfold vp_in; decide)))), up_ne (Or.inr (Ne.symm (of_pos hv (by unfold vp_in; decide)))), up_ne (Or.inr (Ne.symm (of_pos hv (by unfold vp_in; decide)))), up_ne (Or.inr (Ne.symm (of_pos hv (by unfold vp_in; decide)))), up_ne (Or.inr (Ne.symm (of_pos hv (by unfold vp_in; decide))))]
  show InM (up (f_X6_adds_m6 g 1 a b c2 d) 1 0 (f_X6_adds_m6 g 1 a b c2 d 1 0 + 1))
  refine ⟨?_, ?_, fun q hq => ?_⟩
  · rw [up_eq, e, add1_toInt h0 (by omega)]; omega
  · rw [up_ne (Or.inl (by decide))]; exact hM.2.1
  · rw [up_ne (Or.inl (by decide))]; exact hM.2.2 q hq
theorem InM_isDone {g : Mem} (h : InM g) {p0 : Int32} : InM (m_X6_isDone g p0) := by
  have h1 : InM (f_X6_isDone_m1 g p0) := InM_upI h rw4_1 (by decide)
  have h2 : ¬ f_X6_isPerson g (g 5 0) = 0 → InM (f_X6_isDone_m2 g p0) := fun c => InM_upI h rw4_1 (of_pos (isPerson_in h c) (by unfold vp_in; decide))
  have h3 : ¬ f_X6_isPerson g (g 5 0) = 0 → InM (f_X6_isDone_m3 g p0) := fun c => InM_upI h rw4_1 (of_pos (isPerson_in h c) (by unfold vp_in; decide))
  have h4 : ¬ g 1 0 = 8 → InM (f_X6_adds g 1 (g 5 0) (g 5 1) (g 5 2) (g 5 3)) := fun c => InM_adds1 h c
  have h5 : ¬ f_X6_isPerson g (g 5 0) = 0 → ¬ f_X6_isPerson g (g 5 1) = 0 → InM (m_X6_turn g 1 (g 5 0) (g 5 1)) := fun c d => InM_turn h rw4_1 (isPerson_in h c) (isPerson_in h d)
  unfold m_X6_isDone f_X6_isDone
  repeat' split
  all_goals first | (with_reducible exact h) | (with_reducible exact h1) | (with_reducible exact h2 (by assumption)) | (with_reducible exact h3 (by assumption)) | (with_reducible exact h4 (by assumption)) | (with_reducible exact h5 (by assumption) (by assumption))
theorem NK_isDone {g : Mem} {p0 : Int32} : NK 1 g (m_X6_isDone g p0) := by
  unfold m_X6_isDone f_X6_isDone
  repeat' split
  all_goals first | (with_reducible exact NK.rf) | (with_reducible exact NK_adds) | (with_reducible exact NK_turnM) | exact NK_up NK.rf
theorem RE_NK {g b : Mem} (h : NK 1 g b) : RE g b := ⟨h 0 5 (by decide), h 0 6 (by decide), h 0 7 (by decide), fun j => h 13 j (by decide)⟩
theorem RE_isDone {g : Mem} {p0 : Int32} : RE g (m_X6_isDone g p0) := RE_NK NK_isDone
theorem NK_cp41 {g : Mem} : NK 1 g (f_X6_copies g 4 1) := fun q j hq => copies_o (by decide) hq j
theorem NK_failed {g : Mem} {p0 : Int32} : NK 1 g (f_X6_copies (m_X6_isDone g p0) 4 1) := NK_tr NK_isDone NK_cp41
theorem RE_failed {g : Mem} {p0 : Int32} : RE g (f_X6_copies (m_X6_isDone g p0) 4 1) := RE_NK NK_failed
theorem InM_fail {g : Mem} (h : InM g) {p0 : Int32} (h4 : 0 ≤ (g 4 0).toInt ∧ (g 4 0).toInt ≤ 8) : InM (f_X6_copies (m_X6_isDone (m_X6_readsStatement g) p0) 4 1) := by
  have h1 : InM (m_X6_isDone (m_X6_readsStatement g) p0) := InM_isDone (InM_RS RS_rs h)
  have r : RS g (m_X6_readsStatement g) := RS_rs
  refine ⟨?_, ?_, fun d hd => ?_⟩
  · rw [copies_i (by decide) (by decide), NK_isDone 4 0 (by decide), r 4 0 (by decide) (by decide)]; exact h4
  · rw [copies_o (by decide) (by decide)]; exact h1.2.1
  · rw [copies_o (by decide) (by decide)]; exact h1.2.2 d hd
/-- from here on the text can be read whole, in so many statements -/
def Ok : Nat → Mem → Prop
  | 0, g => g 0 7 ≤ g 0 5
  | n + 1, g => g 0 7 ≤ g 0 5 ∨ (¬ r_X6_readsStatement g = 0 ∧ Ok n (m_X6_readsStatement g))
theorem Ok_RE : ∀ (n : Nat) {g b : Mem}, RE g b → Ok n g → Ok n b
  | 0, g, b, r, h => by
    unfold Ok at h ⊢
    rw [r.1, r.2.2.1]
    exact h
  | n + 1, g, b, r, h => by
    rw [Ok] at h ⊢
    obtain ⟨e, k⟩ := rs_RE r
    rw [r.1, r.2.2.1, e]
    exact h.imp id (fun q => ⟨q.1, Ok_RE n k q.2⟩)
theorem fe_step {g : Mem} (h : ∃ n, Ok n g) (c : ¬ g 0 7 ≤ g 0 5) : ∃ n, ¬ r_X6_readsStatement g = 0 ∧ Ok n (m_X6_readsStatement g) := by
  obtain ⟨n, h⟩ := h
  cases n with
  | zero => rw [Ok] at h; exact absurd h c
  | succ n => rw [Ok] at h; exact ⟨n, h.resolve_left c⟩
theorem fe_r {g : Mem} (h : ∃ n, ¬ r_X6_readsStatement g = 0 ∧ Ok n (m_X6_readsStatement g)) : ¬ r_X6_readsStatement g = 0 := by
  obtain ⟨n, h, _⟩ := h
  exact h
theorem fe_okd {g b : Mem} (h : ∃ n, ¬ r_X6_readsStatement g = 0 ∧ Ok n (m_X6_readsStatement g)) (r : RE (m_X6_readsStatement g) b) : ∃ n, Ok n b := by
  obtain ⟨n, _, h⟩ := h
  exact ⟨n, Ok_RE n r h⟩
theorem fe_L0 {g : Mem} (h : WP g 100) : ((g 0 7).toInt - (g 0 5).toInt).toNat < 102 := by
  obtain ⟨h1, h2, h3, h4, h5⟩ := h
  omega
theorem fe_L9 {g b : Mem} {n : Nat} (hW : WP g 100) (hq : ¬ r_X6_readsStatement g = 0) (hL : ((g 0 7).toInt - (g 0 5).toInt).toNat < n + 1) (r : RE (m_X6_readsStatement g) b) : ((b 0 7).toInt - (b 0 5).toInt).toNat < n := by
  have p := rs_PL hW hq
  have e : m_X6_readsStatement g 0 7 = g 0 7 := RS_7 RS_rs
  unfold PL at p
  rw [r.1, r.2.2.1, e]
  omega
theorem fe_W0 {g : Mem} {p0 : Int32} (hI : InM g) (hv : vp_in p0 8) : WP (up (up (up g 0 6 (100 * p0)) 0 7 (up g 0 6 (100 * p0) 12 (ix p0))) 0 5 0) 100 := by
  have h1 := vp_in_iff.mp hv
  have e : (100 : Int32).toInt = 100 := rfl
  have h3 : (100 * p0).toInt = 100 * p0.toInt := by rw [mul_toInt (by omega) (by omega) (by omega) (by omega), e]
  refine ⟨?_, ?_, ?_, ?_, ?_⟩
  · rw [up_ne (Or.inr (by decide)), up_ne (Or.inr (by decide)), up_eq, h3]; omega
  · rw [up_ne (Or.inr (by decide)), up_ne (Or.inr (by decide)), up_eq, h3]; omega
  · rw [up_ne (Or.inr (by decide)), up_eq, up_ne (Or.inl (by decide))]; exact InM_len hI (vin_lt hv)
  · rw [up_eq]; decide
  · rw [up_eq]; decide
theorem fe_E {g b : Mem} (r : RS g b) : b 0 6 = g 0 6 ∧ b 0 7 = g 0 7 ∧ ∀ j, b 13 j = g 13 j := ⟨r 0 6 (by decide) (by decide), RS_7 r, fun j => r 13 j (by decide) (by omega)⟩
theorem fe_R9 {g a : Mem} (h0 : g 0 5 = 0) (r : RS g a) : RE g (up (f_X6_copies (m_X6_readsStatement a) 1 4) 0 5 0) := by
  obtain ⟨e1, e2, e3⟩ := fe_E (RS_tr r RS_rs)
  refine ⟨?_, ?_, ?_, fun j => ?_⟩
  · rw [up_eq, h0]
  · rw [up_ne (Or.inr (by decide)), copies_o (by decide) (by decide)]; exact e1
  · rw [up_ne (Or.inr (by decide)), copies_o (by decide) (by decide)]; exact e2
  · rw [up_ne (Or.inl (by decide)), copies_o (by decide) (by decide)]; exact e3 j
theorem fe_40 {g : Mem} (h : InM g) : 0 ≤ ((up (f_X6_copies (m_X6_readsStatement g) 1 4) 0 5 0) 4 0).toInt ∧ ((up (f_X6_copies (m_X6_readsStatement g) 1 4) 0 5 0) 4 0).toInt ≤ 8 := by
  have r : RS g (m_X6_readsStatement g) := RS_rs
  rw [up_ne (Or.inl (by decide)), copies_i (by decide) (by decide), r 1 0 (by decide) (by decide)]
  exact h.1
theorem fe_49 {g b : Mem} (h : 0 ≤ (g 4 0).toInt ∧ (g 4 0).toInt ≤ 8) (k : NK 1 (m_X6_readsStatement g) b) : 0 ≤ (b 4 0).toInt ∧ (b 4 0).toInt ≤ 8 := by
  have r : RS g (m_X6_readsStatement g) := RS_rs
  rw [k 4 0 (by decide), r 4 0 (by decide) (by decide)]
  exact h
theorem fe_O {g a : Mem} (h0 : g 0 5 = 0) (r : RS g a) (hH : ∀ k, Ok k a → ∃ q, Ok q g) (c : ¬ r_X6_readsStatement a = 0) (c2 : ¬ m_X6_readsStatement a 0 5 < m_X6_readsStatement a 0 7) : ∃ q, Ok q (up (f_X6_copies (m_X6_readsStatement a) 1 4) 0 5 0) := by
  obtain ⟨q, hq⟩ := hH 1 (Or.inr ⟨c, le_of_nlt c2⟩)
  exact ⟨q, Ok_RE q (fe_R9 h0 r) hq⟩
