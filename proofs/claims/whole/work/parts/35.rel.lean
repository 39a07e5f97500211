section FRA
variable {cg mg : Mem} {t k : Nat} {w p1 p2 p3 : Int32}
theorem tk_o {q f : Nat} (hq : q ≠ 8 * t + ix (cg (40 + t) 1)) : f_X0_takeIn_m2 cg t w p1 p2 p3 q f = cg q f := by
  unfold f_X0_takeIn_m2 f_X0_takeIn_m1 f_X3_comeAs f_X3_comeAs_m6 f_X3_comeAs_m5 f_X3_comeAs_m4 f_X3_comeAs_m3 f_X3_comeAs_m2 f_X3_comeAs_m1
  rw [up_ne (Or.inl hq), up_ne (Or.inl hq), up_ne (Or.inl hq), up_ne (Or.inl hq), up_ne (Or.inl hq), up_ne (Or.inl hq), up_ne (Or.inl hq), up_ne (Or.inl hq)]
theorem tk_0 : f_X0_takeIn_m2 cg t w p1 p2 p3 (8 * t + ix (cg (40 + t) 1)) 0 = w := by
  unfold f_X0_takeIn_m2 f_X0_takeIn_m1 f_X3_comeAs f_X3_comeAs_m6 f_X3_comeAs_m5 f_X3_comeAs_m4 f_X3_comeAs_m3 f_X3_comeAs_m2 f_X3_comeAs_m1
  rw [up_ne (Or.inr (by decide)), up_ne (Or.inr (by decide)), up_ne (Or.inr (by decide)), up_ne (Or.inr (by decide)), up_ne (Or.inr (by decide)), up_ne (Or.inr (by decide)), up_ne (Or.inr (by decide)), up_eq]
theorem tk_1 : f_X0_takeIn_m2 cg t w p1 p2 p3 (8 * t + ix (cg (40 + t) 1)) 1 = p1 := by
  unfold f_X0_takeIn_m2 f_X0_takeIn_m1 f_X3_comeAs f_X3_comeAs_m6 f_X3_comeAs_m5 f_X3_comeAs_m4 f_X3_comeAs_m3 f_X3_comeAs_m2 f_X3_comeAs_m1
  rw [up_ne (Or.inr (by decide)), up_ne (Or.inr (by decide)), up_ne (Or.inr (by decide)), up_ne (Or.inr (by decide)), up_ne (Or.inr (by decide)), up_ne (Or.inr (by decide)), up_eq]
theorem tk_2 : f_X0_takeIn_m2 cg t w p1 p2 p3 (8 * t + ix (cg (40 + t) 1)) 2 = f_X1_biteWith w p1 := by
  unfold f_X0_takeIn_m2 f_X0_takeIn_m1 f_X3_comeAs f_X3_comeAs_m6 f_X3_comeAs_m5 f_X3_comeAs_m4 f_X3_comeAs_m3 f_X3_comeAs_m2 f_X3_comeAs_m1
  rw [up_ne (Or.inr (by decide)), up_ne (Or.inr (by decide)), up_ne (Or.inr (by decide)), up_ne (Or.inr (by decide)), up_ne (Or.inr (by decide)), up_eq]
theorem tk_3 : f_X0_takeIn_m2 cg t w p1 p2 p3 (8 * t + ix (cg (40 + t) 1)) 3 = f_X1_gazeWith w p1 := by
  unfold f_X0_takeIn_m2 f_X0_takeIn_m1 f_X3_comeAs f_X3_comeAs_m6 f_X3_comeAs_m5 f_X3_comeAs_m4 f_X3_comeAs_m3 f_X3_comeAs_m2 f_X3_comeAs_m1
  rw [up_ne (Or.inr (by decide)), up_ne (Or.inr (by decide)), up_ne (Or.inr (by decide)), up_ne (Or.inr (by decide)), up_eq]
theorem tk_4 : f_X0_takeIn_m2 cg t w p1 p2 p3 (8 * t + ix (cg (40 + t) 1)) 4 = p2 := by
  unfold f_X0_takeIn_m2 f_X0_takeIn_m1 f_X3_comeAs f_X3_comeAs_m6 f_X3_comeAs_m5 f_X3_comeAs_m4 f_X3_comeAs_m3 f_X3_comeAs_m2 f_X3_comeAs_m1
  rw [up_ne (Or.inr (by decide)), up_eq]
theorem tk_5 : f_X0_takeIn_m2 cg t w p1 p2 p3 (8 * t + ix (cg (40 + t) 1)) 5 = p3 := by
  unfold f_X0_takeIn_m2 f_X0_takeIn_m1 f_X3_comeAs f_X3_comeAs_m6 f_X3_comeAs_m5 f_X3_comeAs_m4 f_X3_comeAs_m3 f_X3_comeAs_m2 f_X3_comeAs_m1
  rw [up_eq]
theorem tk_6 : f_X0_takeIn_m2 cg t w p1 p2 p3 (8 * t + ix (cg (40 + t) 1)) 6 = 0 := by
  unfold f_X0_takeIn_m2 f_X0_takeIn_m1 f_X3_comeAs f_X3_comeAs_m6 f_X3_comeAs_m5 f_X3_comeAs_m4 f_X3_comeAs_m3 f_X3_comeAs_m2 f_X3_comeAs_m1
  rw [up_ne (Or.inr (by decide)), up_ne (Or.inr (by decide)), up_ne (Or.inr (by decide)), up_eq]
theorem tk_7 : f_X0_takeIn_m2 cg t w p1 p2 p3 (8 * t + ix (cg (40 + t) 1)) 7 = 0 := by
  unfold f_X0_takeIn_m2 f_X0_takeIn_m1 f_X3_comeAs f_X3_comeAs_m6 f_X3_comeAs_m5 f_X3_comeAs_m4 f_X3_comeAs_m3 f_X3_comeAs_m2 f_X3_comeAs_m1
  rw [up_ne (Or.inr (by decide)), up_ne (Or.inr (by decide)), up_eq]
theorem ad_o (hp : vp_in (mg k 0) 9) {f : Nat} (hf : f < 3 + 6 * ix (mg k 0) ∨ 3 + 6 * ix (mg k 0) + 5 < f) : f_X6_adds_m6 mg k w p1 p2 p3 k f = mg k f := by
  unfold f_X6_adds_m6 f_X6_adds_m5 f_X6_adds_m4 f_X6_adds_m3 f_X6_adds_m2 f_X6_adds_m1
  rw [of_5 hp, of_4 hp, of_3 hp, of_2 hp, of_1 hp, of_0 hp]
  rw [up_ne (Or.inr (by omega)), up_ne (Or.inr (by omega)), up_ne (Or.inr (by omega)), up_ne (Or.inr (by omega)), up_ne (Or.inr (by omega)), up_ne (Or.inr (by omega))]
theorem ad_0 (hp : vp_in (mg k 0) 9) : f_X6_adds_m6 mg k w p1 p2 p3 k (3 + 6 * ix (mg k 0)) = w := by
  unfold f_X6_adds_m6 f_X6_adds_m5 f_X6_adds_m4 f_X6_adds_m3 f_X6_adds_m2 f_X6_adds_m1
  rw [of_5 hp, of_4 hp, of_3 hp, of_2 hp, of_1 hp, of_0 hp]
  rw [up_ne (Or.inr (by omega)), up_ne (Or.inr (by omega)), up_ne (Or.inr (by omega)), up_ne (Or.inr (by omega)), up_ne (Or.inr (by omega)), up_eq]
theorem ad_1 (hp : vp_in (mg k 0) 9) : f_X6_adds_m6 mg k w p1 p2 p3 k (3 + 6 * ix (mg k 0) + 1) = p1 := by
  unfold f_X6_adds_m6 f_X6_adds_m5 f_X6_adds_m4 f_X6_adds_m3 f_X6_adds_m2 f_X6_adds_m1
  rw [of_5 hp, of_4 hp, of_3 hp, of_2 hp, of_1 hp, of_0 hp]
  rw [up_ne (Or.inr (by omega)), up_ne (Or.inr (by omega)), up_ne (Or.inr (by omega)), up_ne (Or.inr (by omega)), up_eq]
theorem ad_2 (hp : vp_in (mg k 0) 9) : f_X6_adds_m6 mg k w p1 p2 p3 k (3 + 6 * ix (mg k 0) + 2) = p2 := by
  unfold f_X6_adds_m6 f_X6_adds_m5 f_X6_adds_m4 f_X6_adds_m3 f_X6_adds_m2 f_X6_adds_m1
  rw [of_5 hp, of_4 hp, of_3 hp, of_2 hp, of_1 hp, of_0 hp]
  rw [up_ne (Or.inr (by omega)), up_ne (Or.inr (by omega)), up_ne (Or.inr (by omega)), up_eq]
theorem ad_3 (hp : vp_in (mg k 0) 9) : f_X6_adds_m6 mg k w p1 p2 p3 k (3 + 6 * ix (mg k 0) + 3) = p3 := by
  unfold f_X6_adds_m6 f_X6_adds_m5 f_X6_adds_m4 f_X6_adds_m3 f_X6_adds_m2 f_X6_adds_m1
  rw [of_5 hp, of_4 hp, of_3 hp, of_2 hp, of_1 hp, of_0 hp]
  rw [up_ne (Or.inr (by omega)), up_ne (Or.inr (by omega)), up_eq]
theorem ad_4 (hp : vp_in (mg k 0) 9) : f_X6_adds_m6 mg k w p1 p2 p3 k (3 + 6 * ix (mg k 0) + 4) = 0 := by
  unfold f_X6_adds_m6 f_X6_adds_m5 f_X6_adds_m4 f_X6_adds_m3 f_X6_adds_m2 f_X6_adds_m1
  rw [of_5 hp, of_4 hp, of_3 hp, of_2 hp, of_1 hp, of_0 hp]
  rw [up_ne (Or.inr (by omega)), up_eq]
theorem ad_5 (hp : vp_in (mg k 0) 9) : f_X6_adds_m6 mg k w p1 p2 p3 k (3 + 6 * ix (mg k 0) + 5) = 0 := by
  unfold f_X6_adds_m6 f_X6_adds_m5 f_X6_adds_m4 f_X6_adds_m3 f_X6_adds_m2 f_X6_adds_m1
  rw [of_5 hp, of_4 hp, of_3 hp, of_2 hp, of_1 hp, of_0 hp]
  rw [up_eq]
theorem FR_takeIn (ht : t < 3) (h : FR cg t mg k) (c8 : ¬ mg k 0 = 8) (hw : vp_in w 8) : FR (f_X0_takeIn_m3 cg t w p1 p2 p3) t (f_X6_adds mg k w p1 p2 p3) k := by
  have h8 := h.2.2.2.1
  have e8 : (8 : Int32).toInt = 8 := rfl
  have hne := ne_toInt c8
  have hp : vp_in (mg k 0) 9 := vin_of h8.1 (by omega)
  have hs := ix_toInt h8.1
  obtain ⟨e1, e2, e3, e4, e5⟩ := h
  have q0 : 40 + t ≠ 8 * t + ix (cg (40 + t) 1) := by rw [e1]; omega
  have a0 : f_X6_adds_m6 mg k w p1 p2 p3 k 0 = mg k 0 := ad_o hp (Or.inl (by omega))
  have ha : (mg k 0 + 1).toInt = (mg k 0).toInt + 1 := add1_toInt h8.1 (by omega)
  show FR (up (f_X0_takeIn_m2 cg t w p1 p2 p3) (40 + t) 1 (f_X0_takeIn_m2 cg t w p1 p2 p3 (40 + t) 1 + 1)) t (up (f_X6_adds_m6 mg k w p1 p2 p3) k 0 (f_X6_adds_m6 mg k w p1 p2 p3 k 0 + 1)) k
  rw [tk_o q0, a0]
  refine ⟨?_, ?_, ?_, ?_, fun i hi => ?_⟩
  · rw [up_eq, up_eq, e1]
  · rw [up_ne (Or.inr (by decide)), up_ne (Or.inr (by decide)), tk_o q0, ad_o hp (Or.inl (by omega))]; exact e2
  · rw [up_ne (Or.inr (by decide)), up_ne (Or.inr (by decide)), tk_o q0, ad_o hp (Or.inl (by omega))]; exact e3
  · rw [up_eq, ha]; omega
  · rw [up_eq, ha] at hi
    have hc : ∀ f, up (f_X0_takeIn_m2 cg t w p1 p2 p3) (40 + t) 1 (cg (40 + t) 1 + 1) (8 * t + i) f = f_X0_takeIn_m2 cg t w p1 p2 p3 (8 * t + i) f := fun f => up_ne (Or.inl (by omega))
    have hm : ∀ f, f ≠ 0 → up (f_X6_adds_m6 mg k w p1 p2 p3) k 0 (mg k 0 + 1) k f = f_X6_adds_m6 mg k w p1 p2 p3 k f := fun f hf => up_ne (Or.inr hf)
    unfold PR
    rw [hc, hc, hc, hc, hc, hc, hc, hc, hm _ (by omega), hm _ (by omega), hm _ (by omega), hm _ (by omega), hm _ (by omega), hm _ (by omega)]
    by_cases hx : i = ix (mg k 0)
    · subst hx
      have ei : 8 * t + ix (mg k 0) = 8 * t + ix (cg (40 + t) 1) := by rw [e1]
      rw [ei, tk_0, tk_1, tk_2, tk_3, tk_4, tk_5, tk_6, tk_7, ad_0 hp, ad_1 hp, ad_2 hp, ad_3 hp, ad_4 hp, ad_5 hp]
      exact ⟨rfl, rfl, rfl, rfl, rfl, rfl, rfl, rfl, hw⟩
    · have q1 : 8 * t + i ≠ 8 * t + ix (cg (40 + t) 1) := by rw [e1]; omega
      rw [tk_o q1, tk_o q1, tk_o q1, tk_o q1, tk_o q1, tk_o q1, tk_o q1, tk_o q1, ad_o hp (Or.inl (by omega)), ad_o hp (Or.inl (by omega)), ad_o hp (Or.inl (by omega)), ad_o hp (Or.inl (by omega)), ad_o hp (Or.inl (by omega)), ad_o hp (Or.inl (by omega))]
      exact e5 i (by omega)
end FRA
