section FRU
variable {cg mg : Mem} {t k : Nat}
theorem FR.lt (h : FR cg t mg k) {p : Int32} (h0 : 0 ≤ p.toInt) (h1 : p.toInt < (mg k 0).toInt) : ix p < 8 := by
  have e := ix_toInt h0
  have := h.2.2.2.1.2
  omega
theorem FR_up4 (ht : t < 3) (h : FR cg t mg k) {p : Int32} (h0 : 0 ≤ p.toInt) (h1 : p.toInt < (mg k 0).toInt) {v w : Int32} (e : v = w) : FR (up cg (8 * t + ix p) 4 v) t (up mg k (3 + 6 * ix p + 2) w) k := by
  subst e
  have hx := h.lt h0 h1
  obtain ⟨e1, e2, e3, e4, e5⟩ := h
  refine ⟨?_, ?_, ?_, ?_, fun i hi => ?_⟩
  · rw [up_ne (Or.inl (by omega)), up_ne (Or.inr (by omega))]; exact e1
  · rw [up_ne (Or.inl (by omega)), up_ne (Or.inr (by omega))]; exact e2
  · rw [up_ne (Or.inl (by omega)), up_ne (Or.inr (by omega))]; exact e3
  · rw [up_ne (Or.inr (by omega))]; exact e4
  · rw [up_ne (Or.inr (by omega))] at hi
    obtain ⟨a0, a1, a4, a5, a6, a7, a2, a3, ak⟩ := e5 i hi
    by_cases hip : i = ix p
    · subst hip
      refine ⟨?_, ?_, ?_, ?_, ?_, ?_, ?_, ?_, ?_⟩
      · rw [up_ne (Or.inr (by decide)), up_ne (Or.inr (by omega))]; exact a0
      · rw [up_ne (Or.inr (by decide)), up_ne (Or.inr (by omega))]; exact a1
      · rw [up_eq, up_eq]
      · rw [up_ne (Or.inr (by decide)), up_ne (Or.inr (by omega))]; exact a5
      · rw [up_ne (Or.inr (by decide)), up_ne (Or.inr (by omega))]; exact a6
      · rw [up_ne (Or.inr (by decide)), up_ne (Or.inr (by omega))]; exact a7
      · rw [up_ne (Or.inr (by decide)), up_ne (f2 := 3 + 6 * ix p) (Or.inr (by omega)), up_ne (f2 := 3 + 6 * ix p + 1) (Or.inr (by omega))]; exact a2
      · rw [up_ne (Or.inr (by decide)), up_ne (f2 := 3 + 6 * ix p) (Or.inr (by omega)), up_ne (f2 := 3 + 6 * ix p + 1) (Or.inr (by omega))]; exact a3
      · rw [up_ne (Or.inr (by omega))]; exact ak
    · refine ⟨?_, ?_, ?_, ?_, ?_, ?_, ?_, ?_, ?_⟩
      · rw [up_ne (Or.inl (by omega)), up_ne (Or.inr (by omega))]; exact a0
      · rw [up_ne (Or.inl (by omega)), up_ne (Or.inr (by omega))]; exact a1
      · rw [up_ne (Or.inl (by omega)), up_ne (Or.inr (by omega))]; exact a4
      · rw [up_ne (Or.inl (by omega)), up_ne (Or.inr (by omega))]; exact a5
      · rw [up_ne (Or.inl (by omega)), up_ne (Or.inr (by omega))]; exact a6
      · rw [up_ne (Or.inl (by omega)), up_ne (Or.inr (by omega))]; exact a7
      · rw [up_ne (Or.inl (by omega)), up_ne (f2 := 3 + 6 * i) (Or.inr (by omega)), up_ne (f2 := 3 + 6 * i + 1) (Or.inr (by omega))]; exact a2
      · rw [up_ne (Or.inl (by omega)), up_ne (f2 := 3 + 6 * i) (Or.inr (by omega)), up_ne (f2 := 3 + 6 * i + 1) (Or.inr (by omega))]; exact a3
      · rw [up_ne (Or.inr (by omega))]; exact ak
theorem FR_up5 (ht : t < 3) (h : FR cg t mg k) {p : Int32} (h0 : 0 ≤ p.toInt) (h1 : p.toInt < (mg k 0).toInt) {v w : Int32} (e : v = w) : FR (up cg (8 * t + ix p) 5 v) t (up mg k (3 + 6 * ix p + 3) w) k := by
  subst e
  have hx := h.lt h0 h1
  obtain ⟨e1, e2, e3, e4, e5⟩ := h
  refine ⟨?_, ?_, ?_, ?_, fun i hi => ?_⟩
  · rw [up_ne (Or.inl (by omega)), up_ne (Or.inr (by omega))]; exact e1
  · rw [up_ne (Or.inl (by omega)), up_ne (Or.inr (by omega))]; exact e2
  · rw [up_ne (Or.inl (by omega)), up_ne (Or.inr (by omega))]; exact e3
  · rw [up_ne (Or.inr (by omega))]; exact e4
  · rw [up_ne (Or.inr (by omega))] at hi
    obtain ⟨a0, a1, a4, a5, a6, a7, a2, a3, ak⟩ := e5 i hi
    by_cases hip : i = ix p
    · subst hip
      refine ⟨?_, ?_, ?_, ?_, ?_, ?_, ?_, ?_, ?_⟩
      · rw [up_ne (Or.inr (by decide)), up_ne (Or.inr (by omega))]; exact a0
      · rw [up_ne (Or.inr (by decide)), up_ne (Or.inr (by omega))]; exact a1
      · rw [up_ne (Or.inr (by decide)), up_ne (Or.inr (by omega))]; exact a4
      · rw [up_eq, up_eq]
      · rw [up_ne (Or.inr (by decide)), up_ne (Or.inr (by omega))]; exact a6
      · rw [up_ne (Or.inr (by decide)), up_ne (Or.inr (by omega))]; exact a7
      · rw [up_ne (Or.inr (by decide)), up_ne (f2 := 3 + 6 * ix p) (Or.inr (by omega)), up_ne (f2 := 3 + 6 * ix p + 1) (Or.inr (by omega))]; exact a2
      · rw [up_ne (Or.inr (by decide)), up_ne (f2 := 3 + 6 * ix p) (Or.inr (by omega)), up_ne (f2 := 3 + 6 * ix p + 1) (Or.inr (by omega))]; exact a3
      · rw [up_ne (Or.inr (by omega))]; exact ak
    · refine ⟨?_, ?_, ?_, ?_, ?_, ?_, ?_, ?_, ?_⟩
      · rw [up_ne (Or.inl (by omega)), up_ne (Or.inr (by omega))]; exact a0
      · rw [up_ne (Or.inl (by omega)), up_ne (Or.inr (by omega))]; exact a1
      · rw [up_ne (Or.inl (by omega)), up_ne (Or.inr (by omega))]; exact a4
      · rw [up_ne (Or.inl (by omega)), up_ne (Or.inr (by omega))]; exact a5
      · rw [up_ne (Or.inl (by omega)), up_ne (Or.inr (by omega))]; exact a6
      · rw [up_ne (Or.inl (by omega)), up_ne (Or.inr (by omega))]; exact a7
      · rw [up_ne (Or.inl (by omega)), up_ne (f2 := 3 + 6 * i) (Or.inr (by omega)), up_ne (f2 := 3 + 6 * i + 1) (Or.inr (by omega))]; exact a2
      · rw [up_ne (Or.inl (by omega)), up_ne (f2 := 3 + 6 * i) (Or.inr (by omega)), up_ne (f2 := 3 + 6 * i + 1) (Or.inr (by omega))]; exact a3
      · rw [up_ne (Or.inr (by omega))]; exact ak
theorem FR_up6 (ht : t < 3) (h : FR cg t mg k) {p : Int32} (h0 : 0 ≤ p.toInt) (h1 : p.toInt < (mg k 0).toInt) {v w : Int32} (e : v = w) : FR (up cg (8 * t + ix p) 6 v) t (up mg k (3 + 6 * ix p + 4) w) k := by
  subst e
  have hx := h.lt h0 h1
  obtain ⟨e1, e2, e3, e4, e5⟩ := h
  refine ⟨?_, ?_, ?_, ?_, fun i hi => ?_⟩
  · rw [up_ne (Or.inl (by omega)), up_ne (Or.inr (by omega))]; exact e1
  · rw [up_ne (Or.inl (by omega)), up_ne (Or.inr (by omega))]; exact e2
  · rw [up_ne (Or.inl (by omega)), up_ne (Or.inr (by omega))]; exact e3
  · rw [up_ne (Or.inr (by omega))]; exact e4
  · rw [up_ne (Or.inr (by omega))] at hi
    obtain ⟨a0, a1, a4, a5, a6, a7, a2, a3, ak⟩ := e5 i hi
    by_cases hip : i = ix p
    · subst hip
      refine ⟨?_, ?_, ?_, ?_, ?_, ?_, ?_, ?_, ?_⟩
      · rw [up_ne (Or.inr (by decide)), up_ne (Or.inr (by omega))]; exact a0
      · rw [up_ne (Or.inr (by decide)), up_ne (Or.inr (by omega))]; exact a1
      · rw [up_ne (Or.inr (by decide)), up_ne (Or.inr (by omega))]; exact a4
      · rw [up_ne (Or.inr (by decide)), up_ne (Or.inr (by omega))]; exact a5
      · rw [up_eq, up_eq]
      · rw [up_ne (Or.inr (by decide)), up_ne (Or.inr (by omega))]; exact a7
      · rw [up_ne (Or.inr (by decide)), up_ne (f2 := 3 + 6 * ix p) (Or.inr (by omega)), up_ne (f2 := 3 + 6 * ix p + 1) (Or.inr (by omega))]; exact a2
      · rw [up_ne (Or.inr (by decide)), up_ne (f2 := 3 + 6 * ix p) (Or.inr (by omega)), up_ne (f2 := 3 + 6 * ix p + 1) (Or.inr (by omega))]; exact a3
      · rw [up_ne (Or.inr (by omega))]; exact ak
    · refine ⟨?_, ?_, ?_, ?_, ?_, ?_, ?_, ?_, ?_⟩
      · rw [up_ne (Or.inl (by omega)), up_ne (Or.inr (by omega))]; exact a0
      · rw [up_ne (Or.inl (by omega)), up_ne (Or.inr (by omega))]; exact a1
      · rw [up_ne (Or.inl (by omega)), up_ne (Or.inr (by omega))]; exact a4
      · rw [up_ne (Or.inl (by omega)), up_ne (Or.inr (by omega))]; exact a5
      · rw [up_ne (Or.inl (by omega)), up_ne (Or.inr (by omega))]; exact a6
      · rw [up_ne (Or.inl (by omega)), up_ne (Or.inr (by omega))]; exact a7
      · rw [up_ne (Or.inl (by omega)), up_ne (f2 := 3 + 6 * i) (Or.inr (by omega)), up_ne (f2 := 3 + 6 * i + 1) (Or.inr (by omega))]; exact a2
      · rw [up_ne (Or.inl (by omega)), up_ne (f2 := 3 + 6 * i) (Or.inr (by omega)), up_ne (f2 := 3 + 6 * i + 1) (Or.inr (by omega))]; exact a3
      · rw [up_ne (Or.inr (by omega))]; exact ak
theorem FR_up7 (ht : t < 3) (h : FR cg t mg k) {p : Int32} (h0 : 0 ≤ p.toInt) (h1 : p.toInt < (mg k 0).toInt) {v w : Int32} (e : v = w) : FR (up cg (8 * t + ix p) 7 v) t (up mg k (3 + 6 * ix p + 5) w) k := by
  subst e
  have hx := h.lt h0 h1
  obtain ⟨e1, e2, e3, e4, e5⟩ := h
  refine ⟨?_, ?_, ?_, ?_, fun i hi => ?_⟩
  · rw [up_ne (Or.inl (by omega)), up_ne (Or.inr (by omega))]; exact e1
  · rw [up_ne (Or.inl (by omega)), up_ne (Or.inr (by omega))]; exact e2
  · rw [up_ne (Or.inl (by omega)), up_ne (Or.inr (by omega))]; exact e3
  · rw [up_ne (Or.inr (by omega))]; exact e4
  · rw [up_ne (Or.inr (by omega))] at hi
    obtain ⟨a0, a1, a4, a5, a6, a7, a2, a3, ak⟩ := e5 i hi
    by_cases hip : i = ix p
    · subst hip
      refine ⟨?_, ?_, ?_, ?_, ?_, ?_, ?_, ?_, ?_⟩
      · rw [up_ne (Or.inr (by decide)), up_ne (Or.inr (by omega))]; exact a0
      · rw [up_ne (Or.inr (by decide)), up_ne (Or.inr (by omega))]; exact a1
      · rw [up_ne (Or.inr (by decide)), up_ne (Or.inr (by omega))]; exact a4
      · rw [up_ne (Or.inr (by decide)), up_ne (Or.inr (by omega))]; exact a5
      · rw [up_ne (Or.inr (by decide)), up_ne (Or.inr (by omega))]; exact a6
      · rw [up_eq, up_eq]
      · rw [up_ne (Or.inr (by decide)), up_ne (f2 := 3 + 6 * ix p) (Or.inr (by omega)), up_ne (f2 := 3 + 6 * ix p + 1) (Or.inr (by omega))]; exact a2
      · rw [up_ne (Or.inr (by decide)), up_ne (f2 := 3 + 6 * ix p) (Or.inr (by omega)), up_ne (f2 := 3 + 6 * ix p + 1) (Or.inr (by omega))]; exact a3
      · rw [up_ne (Or.inr (by omega))]; exact ak
    · refine ⟨?_, ?_, ?_, ?_, ?_, ?_, ?_, ?_, ?_⟩
      · rw [up_ne (Or.inl (by omega)), up_ne (Or.inr (by omega))]; exact a0
      · rw [up_ne (Or.inl (by omega)), up_ne (Or.inr (by omega))]; exact a1
      · rw [up_ne (Or.inl (by omega)), up_ne (Or.inr (by omega))]; exact a4
      · rw [up_ne (Or.inl (by omega)), up_ne (Or.inr (by omega))]; exact a5
      · rw [up_ne (Or.inl (by omega)), up_ne (Or.inr (by omega))]; exact a6
      · rw [up_ne (Or.inl (by omega)), up_ne (Or.inr (by omega))]; exact a7
      · rw [up_ne (Or.inl (by omega)), up_ne (f2 := 3 + 6 * i) (Or.inr (by omega)), up_ne (f2 := 3 + 6 * i + 1) (Or.inr (by omega))]; exact a2
      · rw [up_ne (Or.inl (by omega)), up_ne (f2 := 3 + 6 * i) (Or.inr (by omega)), up_ne (f2 := 3 + 6 * i + 1) (Or.inr (by omega))]; exact a3
      · rw [up_ne (Or.inr (by omega))]; exact ak
theorem FR_upS (ht : t < 3) (h : FR cg t mg k) {v w : Int32} (e : v = w) : FR (up cg (40 + t) 2 v) t (up mg k 1 w) k := by
  subst e
  obtain ⟨e1, e2, e3, e4, e5⟩ := h
  refine ⟨?_, ?_, ?_, ?_, fun i hi => ?_⟩
  · rw [up_ne (Or.inr (by decide)), up_ne (Or.inr (by decide))]; exact e1
  · rw [up_eq, up_eq]
  · rw [up_ne (Or.inr (by decide)), up_ne (Or.inr (by decide))]; exact e3
  · rw [up_ne (Or.inr (by decide))]; exact e4
  · rw [up_ne (Or.inr (by decide))] at hi
    obtain ⟨a0, a1, a4, a5, a6, a7, a2, a3, ak⟩ := e5 i hi
    have hi8 : i < 8 := by omega
    refine ⟨?_, ?_, ?_, ?_, ?_, ?_, ?_, ?_, ?_⟩
    · rw [up_ne (Or.inl (by omega)), up_ne (Or.inr (by omega))]; exact a0
    · rw [up_ne (Or.inl (by omega)), up_ne (Or.inr (by omega))]; exact a1
    · rw [up_ne (Or.inl (by omega)), up_ne (Or.inr (by omega))]; exact a4
    · rw [up_ne (Or.inl (by omega)), up_ne (Or.inr (by omega))]; exact a5
    · rw [up_ne (Or.inl (by omega)), up_ne (Or.inr (by omega))]; exact a6
    · rw [up_ne (Or.inl (by omega)), up_ne (Or.inr (by omega))]; exact a7
    · rw [up_ne (Or.inl (by omega)), up_ne (f2 := 3 + 6 * i) (Or.inr (by omega)), up_ne (f2 := 3 + 6 * i + 1) (Or.inr (by omega))]; exact a2
    · rw [up_ne (Or.inl (by omega)), up_ne (f2 := 3 + 6 * i) (Or.inr (by omega)), up_ne (f2 := 3 + 6 * i + 1) (Or.inr (by omega))]; exact a3
    · rw [up_ne (Or.inr (by omega))]; exact ak
theorem FR_upT (ht : t < 3) (h : FR cg t mg k) {v w : Int32} (e : v = w) : FR (up cg (40 + t) 3 v) t (up mg k 2 w) k := by
  subst e
  obtain ⟨e1, e2, e3, e4, e5⟩ := h
  refine ⟨?_, ?_, ?_, ?_, fun i hi => ?_⟩
  · rw [up_ne (Or.inr (by decide)), up_ne (Or.inr (by decide))]; exact e1
  · rw [up_ne (Or.inr (by decide)), up_ne (Or.inr (by decide))]; exact e2
  · rw [up_eq, up_eq]
  · rw [up_ne (Or.inr (by decide))]; exact e4
  · rw [up_ne (Or.inr (by decide))] at hi
    obtain ⟨a0, a1, a4, a5, a6, a7, a2, a3, ak⟩ := e5 i hi
    have hi8 : i < 8 := by omega
    refine ⟨?_, ?_, ?_, ?_, ?_, ?_, ?_, ?_, ?_⟩
    · rw [up_ne (Or.inl (by omega)), up_ne (Or.inr (by omega))]; exact a0
    · rw [up_ne (Or.inl (by omega)), up_ne (Or.inr (by omega))]; exact a1
    · rw [up_ne (Or.inl (by omega)), up_ne (Or.inr (by omega))]; exact a4
    · rw [up_ne (Or.inl (by omega)), up_ne (Or.inr (by omega))]; exact a5
    · rw [up_ne (Or.inl (by omega)), up_ne (Or.inr (by omega))]; exact a6
    · rw [up_ne (Or.inl (by omega)), up_ne (Or.inr (by omega))]; exact a7
    · rw [up_ne (Or.inl (by omega)), up_ne (f2 := 3 + 6 * i) (Or.inr (by omega)), up_ne (f2 := 3 + 6 * i + 1) (Or.inr (by omega))]; exact a2
    · rw [up_ne (Or.inl (by omega)), up_ne (f2 := 3 + 6 * i) (Or.inr (by omega)), up_ne (f2 := 3 + 6 * i + 1) (Or.inr (by omega))]; exact a3
    · rw [up_ne (Or.inr (by omega))]; exact ak
theorem least99 (x : Int32) : (if (99 : Int32) < x then (99 : Int32) else x) = f_X6_least 99 x := least_eq 99 x
theorem turn_keep {p q : Int32} (hp : vp_in p 9) (hq : vp_in q 9) {c : Int32} (hc : vp_in c 6) {v : Int32} : up mg k (ix (f_X6_of p c)) v k 0 = mg k 0 := up_ne (Or.inr (Ne.symm (of_pos hp hc)))
theorem FR_turn (ht : t < 3) (h : FR cg t mg k) {p q : Int32} (h0 : 0 ≤ p.toInt) (h1 : p.toInt < (mg k 0).toInt) (g0 : 0 ≤ q.toInt) (g1 : q.toInt < (mg k 0).toInt) : FR (f_X0_turn_m6 cg t p q) t (f_X6_turn_m6 mg k p q) k := by
  have hp := (h.at h0 h1).2
  have hq := (h.at g0 g1).2
  have f1 : FR (f_X0_turn_m1 cg t p q) t (f_X6_turn_m1 mg k p q) k := by
    unfold f_X0_turn_m1 f_X6_turn_m1
    rw [of_2 hp]
    exact FR_up4 ht h h0 h1 (by rw [(h.at h0 h1).1.2.2.1, stilledHunger_eq h h0 h1])
  have s1 : f_X6_turn_m1 mg k p q k 0 = mg k 0 := turn_keep hp hq vc2
  rw [← s1] at h1 g1
  have f2 : FR (f_X0_turn_m2 cg t p q) t (f_X6_turn_m2 mg k p q) k := by
    unfold f_X0_turn_m2 f_X6_turn_m2
    rw [of_3 hq]
    exact FR_up5 ht f1 g0 g1 (by rw [(f1.at g0 g1).1.2.2.2.1, stilledWish_eq f1 g0 g1])
  have s2 : f_X6_turn_m2 mg k p q k 0 = f_X6_turn_m1 mg k p q k 0 := turn_keep hq hq vc3
  rw [← s2] at h1 g1
  have f3 : FR (f_X0_turn_m3 cg t p q) t (f_X6_turn_m3 mg k p q) k := by
    unfold f_X0_turn_m3 f_X6_turn_m3
    rw [of_4 hp]
    exact FR_up6 ht f2 h0 h1 (by rw [least99, (f2.at h0 h1).1.2.2.2.2.1])
  have s3 : f_X6_turn_m3 mg k p q k 0 = f_X6_turn_m2 mg k p q k 0 := turn_keep hp hq vc4
  rw [← s3] at h1 g1
  have f4 : FR (f_X0_turn_m4 cg t p q) t (f_X6_turn_m4 mg k p q) k := by
    unfold f_X0_turn_m4 f_X6_turn_m4
    rw [of_5 hq]
    exact FR_up7 ht f3 g0 g1 (by rw [least99, (f3.at g0 g1).1.2.2.2.2.2.1])
  have f5 : FR (f_X0_turn_m5 cg t p q) t (f_X6_turn_m5 mg k p q) k := FR_upS ht f4 (by rw [f4.2.1])
  exact FR_upT ht f5 (by rw [f5.2.2.1])
end FRU
