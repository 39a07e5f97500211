def f_X6_isIn (p0 p1 p2 : Int32) : Int32 := if p0 < p1 then ((0 : Int32)) else (if p2 < p0 then ((0 : Int32)) else ((1 : Int32)))
theorem b01_X6_isIn (p0 p1 p2 : Int32) : f_X6_isIn p0 p1 p2 = 0 ∨ f_X6_isIn p0 p1 p2 = 1 := by
  unfold f_X6_isIn
  repeat' split
  all_goals first | (with_reducible exact Or.inl rfl) | (with_reducible exact Or.inr rfl) | assumption
theorem yk_X6_isIn : yokS yX6_isIn RX6 cX6_isIn 3 (some .boolean) 3 := ⟨w_874, w_873, w_8, by decide +kernel⟩
set_option maxHeartbeats 4000000 in
set_option maxRecDepth 100000 in
theorem c_X6_isIn (l : Launch) (z : ZM) (g : Mem) (p0 p1 p2 : Int32) : ctM l yX6_isIn cX6_isIn 3 (some .boolean) 0 0 z g [.int p0, .int p1, .int p2] (qIM z (f_X6_isIn p0 p1 p2, g)) := by
  refine ct_of (own := RX6) (q := fun r => qIM z (r, g)) (res := f_X6_isIn p0 p1 p2) (lv := [(0, .int p0), (1, .int p1), (2, .int p2)]) enokM rfl (by decide) (Nat.le_of_ble_eq_true rfl) rfl (fun p e s m args below meth c C0 hrt hlk => ?_)
  unfold f_X6_isIn
  refine j_iload_n C0 0 dX6_isIn_0 rfl rfl ?_
  refine j_iload_n C0 1 dX6_isIn_1 rfl rfl ?_
  refine j_icmp_lt C0 14 dX6_isIn_2 (by decide) (fun c_2 => ?_) (fun c_2 => ?_)
  · refine j_iconst C0 (v := 0) dX6_isIn_14 (by decide) ?_
    exact j_zretP C0 hrt hlk (Or.inl rfl) dX6_isIn_15
  · refine j_iload_n C0 0 dX6_isIn_5 rfl rfl ?_
    refine j_iload_n C0 2 dX6_isIn_6 rfl rfl ?_
    refine j_icmp_gt C0 14 dX6_isIn_7 (by decide) (fun c_7 => ?_) (fun c_7 => ?_)
    · refine j_iconst C0 (v := 0) dX6_isIn_14 (by decide) ?_
      exact j_zretP C0 hrt hlk (Or.inl rfl) dX6_isIn_15
    · refine j_iconst C0 (v := 1) dX6_isIn_10 (by decide) ?_
      refine j_goto C0 15 dX6_isIn_11 (by decide) ?_
      exact j_zretP C0 hrt hlk (Or.inr rfl) dX6_isIn_15
theorem isIn_in {a b c : Int32} (h : ¬ f_X6_isIn a b c = 0) : b.toInt ≤ a.toInt ∧ a.toInt ≤ c.toInt := by
  unfold f_X6_isIn at h
  split at h
  · exact absurd rfl h
  · split at h
    · exact absurd rfl h
    · have h1 : ¬ a < b := by assumption
      have h2 : ¬ c < a := by assumption
      exact ⟨Int.not_lt.mp (fun q => h1 (Int32.lt_iff_toInt_lt.mpr q)), Int.not_lt.mp (fun q => h2 (Int32.lt_iff_toInt_lt.mpr q))⟩

def f_X6_least (p0 p1 : Int32) : Int32 := if p1 ≤ p0 then (p1) else (p0)
theorem yk_X6_least : yokS yX6_least RX6 cX6_least 2 (some .int) 2 := ⟨w_927, w_926, w_8, by decide +kernel⟩
set_option maxHeartbeats 4000000 in
set_option maxRecDepth 100000 in
theorem c_X6_least (l : Launch) (z : ZM) (g : Mem) (p0 p1 : Int32) : ctM l yX6_least cX6_least 2 (some .int) 0 0 z g [.int p0, .int p1] (qIM z (f_X6_least p0 p1, g)) := by
  refine ct_of (own := RX6) (q := fun r => qIM z (r, g)) (res := f_X6_least p0 p1) (lv := [(0, .int p0), (1, .int p1)]) enokM rfl (by decide) (Nat.le_of_ble_eq_true rfl) rfl (fun p e s m args below meth c C0 hrt hlk => ?_)
  unfold f_X6_least
  refine j_iload_n C0 0 dX6_least_0 rfl rfl ?_
  refine j_iload_n C0 1 dX6_least_1 rfl rfl ?_
  refine j_icmp_ge C0 9 dX6_least_2 (by decide) (fun c_2 => ?_) (fun c_2 => ?_)
  · refine j_iload_n C0 1 dX6_least_9 rfl rfl ?_
    exact j_iretP C0 hrt hlk dX6_least_10
  · refine j_iload_n C0 0 dX6_least_5 rfl rfl ?_
    refine j_goto C0 10 dX6_least_6 (by decide) ?_
    exact j_iretP C0 hrt hlk dX6_least_10
def f_X6_most (p0 p1 : Int32) : Int32 := if p0 ≤ p1 then (p1) else (p0)
theorem yk_X6_most : yokS yX6_most RX6 cX6_most 2 (some .int) 2 := ⟨w_933, w_932, w_8, by decide +kernel⟩
set_option maxHeartbeats 4000000 in
set_option maxRecDepth 100000 in
theorem c_X6_most (l : Launch) (z : ZM) (g : Mem) (p0 p1 : Int32) : ctM l yX6_most cX6_most 2 (some .int) 0 0 z g [.int p0, .int p1] (qIM z (f_X6_most p0 p1, g)) := by
  refine ct_of (own := RX6) (q := fun r => qIM z (r, g)) (res := f_X6_most p0 p1) (lv := [(0, .int p0), (1, .int p1)]) enokM rfl (by decide) (Nat.le_of_ble_eq_true rfl) rfl (fun p e s m args below meth c C0 hrt hlk => ?_)
  unfold f_X6_most
  refine j_iload_n C0 0 dX6_most_0 rfl rfl ?_
  refine j_iload_n C0 1 dX6_most_1 rfl rfl ?_
  refine j_icmp_le C0 9 dX6_most_2 (by decide) (fun c_2 => ?_) (fun c_2 => ?_)
  · refine j_iload_n C0 1 dX6_most_9 rfl rfl ?_
    exact j_iretP C0 hrt hlk dX6_most_10
  · refine j_iload_n C0 0 dX6_most_5 rfl rfl ?_
    refine j_goto C0 10 dX6_most_6 (by decide) ?_
    exact j_iretP C0 hrt hlk dX6_most_10
def f_X6_of (p0 p1 : Int32) : Int32 := (((3 : Int32) + ((6 : Int32) * p0)) + p1)
theorem yk_X6_of : yokS yX6_of RX6 cX6_of 2 (some .int) 2 := ⟨w_899, w_898, w_8, by decide +kernel⟩
set_option maxHeartbeats 4000000 in
set_option maxRecDepth 100000 in
theorem c_X6_of (l : Launch) (z : ZM) (g : Mem) (p0 p1 : Int32) : ctM l yX6_of cX6_of 2 (some .int) 0 0 z g [.int p0, .int p1] (qIM z (f_X6_of p0 p1, g)) := by
  refine ct_of (own := RX6) (q := fun r => qIM z (r, g)) (res := f_X6_of p0 p1) (lv := [(0, .int p0), (1, .int p1)]) enokM rfl (by decide) (Nat.le_of_ble_eq_true rfl) rfl (fun p e s m args below meth c C0 hrt hlk => ?_)
  unfold f_X6_of
  refine j_iconst C0 (v := 3) dX6_of_0 (by decide) ?_
  refine j_bipush C0 (v := 6) dX6_of_1 (by decide) ?_
  refine j_iload_n C0 0 dX6_of_3 rfl rfl ?_
  refine j_imul C0 dX6_of_4 ?_
  refine j_iadd C0 dX6_of_5 ?_
  refine j_iload_n C0 1 dX6_of_6 rfl rfl ?_
  refine j_iadd C0 dX6_of_7 ?_
  exact j_iretP C0 hrt hlk dX6_of_8
theorem of_toInt {p c : Int32} (hp : vp_in p 9) (hc : vp_in c 6) : (f_X6_of p c).toInt = 3 + 6 * p.toInt + c.toInt := by
  unfold f_X6_of
  have h1 := vp_in_iff.mp hp
  have h2 := vp_in_iff.mp hc
  have e6 : (6 : Int32).toInt = 6 := rfl
  have e3 : (3 : Int32).toInt = 3 := rfl
  have h3 : (6 * p).toInt = 6 * p.toInt := by rw [mul_toInt (by omega) (by omega) (by omega) (by omega), e6]
  have h4 : (3 + 6 * p).toInt = 3 + 6 * p.toInt := by rw [add_toInt (by omega) (by omega) (by omega) (by omega), e3, h3]
  rw [add_toInt (by omega) (by omega) (by omega) (by omega), h4]
theorem of_in {p c : Int32} (hp : vp_in p 9) (hc : vp_in c 6) : vp_in (f_X6_of p c) 57 := by
  have h1 := vp_in_iff.mp hp
  have h2 := vp_in_iff.mp hc
  have h3 := of_toInt hp hc
  exact vin_of (by omega) (by omega)
theorem ix_toInt {x : Int32} (h : 0 ≤ x.toInt) : ((ix x : Nat) : Int) = x.toInt := by
  obtain ⟨j, hj, rfl⟩ := nn_of h
  rw [nI_toInt hj]
  show (((nI j).toNatClampNeg : Nat) : Int) = j
  rw [nI_clamp hj]
theorem ix_of {p c : Int32} (hp : vp_in p 9) (hc : vp_in c 6) : ix (f_X6_of p c) = 3 + 6 * ix p + ix c := by
  have h1 := vp_in_iff.mp hp
  have h2 := vp_in_iff.mp hc
  have h3 := of_toInt hp hc
  have h4 := ix_toInt (x := f_X6_of p c) (by omega)
  have h5 := ix_toInt h1.1
  have h6 := ix_toInt h2.1
  omega
theorem of_in0 {p : Int32} (hp : vp_in p 9) : vp_in (f_X6_of p 0) 57 := of_in hp (by unfold vp_in; decide)
theorem of_in1 {p : Int32} (hp : vp_in p 9) : vp_in (f_X6_of p 1) 57 := of_in hp (by unfold vp_in; decide)
theorem of_in2 {p : Int32} (hp : vp_in p 9) : vp_in (f_X6_of p 2) 57 := of_in hp (by unfold vp_in; decide)
theorem of_in3 {p : Int32} (hp : vp_in p 9) : vp_in (f_X6_of p 3) 57 := of_in hp (by unfold vp_in; decide)
theorem of_in4 {p : Int32} (hp : vp_in p 9) : vp_in (f_X6_of p 4) 57 := of_in hp (by unfold vp_in; decide)
theorem of_in5 {p : Int32} (hp : vp_in p 9) : vp_in (f_X6_of p 5) 57 := of_in hp (by unfold vp_in; decide)

def f_X6_bits_4 (g : Mem) (p0 : Int32) : Nat → Int32 → Int32 → Int32
  | 0, _, _ => 0
  | n0 + 1, a1, a2 => if (10 : Int32) ≤ a2 then (a1) else (f_X6_bits_4 g p0 n0 (a1 + ((p0 >>> (a2 &&& 31)) &&& (1 : Int32))) (a2 + (1 : Int32)))
def f_X6_bits (g : Mem) (p0 : Int32) : Int32 := f_X6_bits_4 g p0 11 (0 : Int32) (0 : Int32)
theorem yk_X6_bits : yokS yX6_bits RX6 cX6_bits 3 (some .int) 1 := ⟨w_1052, w_1051, w_8, by decide +kernel⟩
set_option maxHeartbeats 4000000 in
set_option maxRecDepth 100000 in
theorem c_X6_bits (l : Launch) (z : ZM) (g : Mem) (p0 : Int32) : ctM l yX6_bits cX6_bits 3 (some .int) 0 0 z g [.int p0] (qIM z (f_X6_bits g p0, g)) := by
  refine ct_of (own := RX6) (q := fun r => qIM z (r, g)) (res := f_X6_bits g p0) (lv := [(0, .int p0)]) enokM rfl (by decide) (Nat.le_of_ble_eq_true rfl) rfl (fun p e s m args below meth c C0 hrt hlk => ?_)
  unfold f_X6_bits
  refine j_iconst C0 (v := 0) dX6_bits_0 (by decide) ?_
  refine j_istore_n C0 (lv' := [(1, _), (0, _)]) dX6_bits_1 rfl (by decide) rfl ?_
  refine j_iconst C0 (v := 0) dX6_bits_2 (by decide) ?_
  refine j_istore_n C0 (lv' := [(2, _), (1, _), (0, _)]) dX6_bits_3 rfl (by decide) rfl ?_
  have L4 : ∀ (n0 : Nat) (a1 : Int32) (a2 : Int32), lc a2 10 n0 → jj p l e { frames := 0, cells := 0, slots := 0, locals := 0 } s m args below meth c (yA z) (yD z) 14 (yad z) (celM z) 3 (fun r => MQ below (qIM z (r, g)) args s 0 0 (yA z)) (f_X6_bits_4 g p0 n0 a1 a2) g 4 [(0, .int p0), (1, .int a1), (2, .int a2)] [] := by
    intro n0
    induction n0 with
    | zero => intro a1 a2 hL; exact absurd hL.2 (Nat.not_lt_zero _)
    | succ n0 ih0 =>
      intro a1 a2 hL
      rw [f_X6_bits_4]
      refine j_iload_n C0 2 dX6_bits_4 rfl rfl ?_
      refine j_bipush C0 (v := 10) dX6_bits_5 (by decide) ?_
      refine j_icmp_ge C0 24 dX6_bits_7 (by decide) (fun c_7 => ?_) (fun c_7 => ?_)
      · refine j_iload_n C0 1 dX6_bits_24 rfl rfl ?_
        exact j_iretP C0 hrt hlk dX6_bits_25
      · refine j_iload_n C0 1 dX6_bits_10 rfl rfl ?_
        refine j_iload_n C0 0 dX6_bits_11 rfl rfl ?_
        refine j_iload_n C0 2 dX6_bits_12 rfl rfl ?_
        refine j_ishr C0 dX6_bits_13 ?_
        refine j_iconst C0 (v := 1) dX6_bits_14 (by decide) ?_
        refine j_iand C0 dX6_bits_15 ?_
        refine j_iadd C0 dX6_bits_16 ?_
        refine j_istore_n C0 (lv' := [(1, _), (0, _), (2, _)]) dX6_bits_17 rfl (by decide) rfl ?_
        refine j_iinc C0 (lv' := [(2, _), (1, _), (0, _)]) (v := _ + (1)) 2 dX6_bits_18 rfl (by rfl) (by decide) rfl ?_
        refine j_goto C0 4 dX6_bits_21 (by decide) ?_
        exact j_sub [2, 1, 0] rfl (ih0 _ _ (lc_stepN hL c_7))
  exact j_sub [2, 1, 0] rfl (L4 11 _ _ (lc_0 (by decide) (by decide)))
def f_X6_bite (p0 p1 : Int32) : Int32 := if p0 = 1 then ((5 : Int32)) else (if p0 = 2 then (((3 : Int32) + (p1 / (2 : Int32)))) else (if p0 = 3 then ((1 : Int32)) else (if p0 = 4 then ((3 : Int32)) else (if p0 = 5 then ((2 : Int32)) else (if p0 = 6 then ((2 : Int32)) else (if p0 = 7 then ((9 : Int32)) else ((3 : Int32))))))))
theorem yk_X6_bite : yokS yX6_bite RX6 cX6_bite 2 (some .int) 2 := ⟨w_924, w_923, w_8, by decide +kernel⟩
set_option maxHeartbeats 4000000 in
set_option maxRecDepth 100000 in
theorem c_X6_bite (l : Launch) (z : ZM) (g : Mem) (p0 p1 : Int32) : ctM l yX6_bite cX6_bite 2 (some .int) 0 0 z g [.int p0, .int p1] (qIM z (f_X6_bite p0 p1, g)) := by
  refine ct_of (own := RX6) (q := fun r => qIM z (r, g)) (res := f_X6_bite p0 p1) (lv := [(0, .int p0), (1, .int p1)]) enokM rfl (by decide) (Nat.le_of_ble_eq_true rfl) rfl (fun p e s m args below meth c C0 hrt hlk => ?_)
  unfold f_X6_bite
  refine j_iload_n C0 0 dX6_bite_0 rfl rfl ?_
  refine j_case (cnd := p0 = 1) (fun c_1_1 => ?_) (fun c_1_1 => ?_)
  · have c_1_1x : (p0).toInt = 1 := by rw [c_1_1]; rfl
    refine j_tableIn C0 44 dX6_bite_1 (by omega) (by omega) (by rw [c_1_1x]; rfl) (by decide) ?_
    refine j_iconst C0 (v := 5) dX6_bite_44 (by decide) ?_
    exact j_iretP C0 hrt hlk dX6_bite_45
  · skip
    refine j_case (cnd := p0 = 2) (fun c_1_2 => ?_) (fun c_1_2 => ?_)
    · have c_1_2x : (p0).toInt = 2 := by rw [c_1_2]; rfl
      refine j_tableIn C0 46 dX6_bite_1 (by omega) (by omega) (by rw [c_1_2x]; rfl) (by decide) ?_
      refine j_iconst C0 (v := 3) dX6_bite_46 (by decide) ?_
      refine j_iload_n C0 1 dX6_bite_47 rfl rfl ?_
      refine j_iconst C0 (v := 2) dX6_bite_48 (by decide) ?_
      refine j_idiv C0 dX6_bite_49 (by decide) ?_
      refine j_iadd C0 dX6_bite_50 ?_
      exact j_iretP C0 hrt hlk dX6_bite_51
    · skip
      refine j_case (cnd := p0 = 3) (fun c_1_3 => ?_) (fun c_1_3 => ?_)
      · have c_1_3x : (p0).toInt = 3 := by rw [c_1_3]; rfl
        refine j_tableIn C0 52 dX6_bite_1 (by omega) (by omega) (by rw [c_1_3x]; rfl) (by decide) ?_
        refine j_iconst C0 (v := 1) dX6_bite_52 (by decide) ?_
        exact j_iretP C0 hrt hlk dX6_bite_53
      · skip
        refine j_case (cnd := p0 = 4) (fun c_1_4 => ?_) (fun c_1_4 => ?_)
        · have c_1_4x : (p0).toInt = 4 := by rw [c_1_4]; rfl
          refine j_tableIn C0 59 dX6_bite_1 (by omega) (by omega) (by rw [c_1_4x]; rfl) (by decide) ?_
          refine j_iconst C0 (v := 3) dX6_bite_59 (by decide) ?_
          exact j_iretP C0 hrt hlk dX6_bite_60
        · skip
          refine j_case (cnd := p0 = 5) (fun c_1_5 => ?_) (fun c_1_5 => ?_)
          · have c_1_5x : (p0).toInt = 5 := by rw [c_1_5]; rfl
            refine j_tableIn C0 54 dX6_bite_1 (by omega) (by omega) (by rw [c_1_5x]; rfl) (by decide) ?_
            refine j_iconst C0 (v := 2) dX6_bite_54 (by decide) ?_
            exact j_iretP C0 hrt hlk dX6_bite_55
          · skip
            refine j_case (cnd := p0 = 6) (fun c_1_6 => ?_) (fun c_1_6 => ?_)
            · have c_1_6x : (p0).toInt = 6 := by rw [c_1_6]; rfl
              refine j_tableIn C0 54 dX6_bite_1 (by omega) (by omega) (by rw [c_1_6x]; rfl) (by decide) ?_
              refine j_iconst C0 (v := 2) dX6_bite_54 (by decide) ?_
              exact j_iretP C0 hrt hlk dX6_bite_55
            · skip
              refine j_case (cnd := p0 = 7) (fun c_1_7 => ?_) (fun c_1_7 => ?_)
              · have c_1_7x : (p0).toInt = 7 := by rw [c_1_7]; rfl
                refine j_tableIn C0 56 dX6_bite_1 (by omega) (by omega) (by rw [c_1_7x]; rfl) (by decide) ?_
                refine j_bipush C0 (v := 9) dX6_bite_56 (by decide) ?_
                exact j_iretP C0 hrt hlk dX6_bite_58
              · skip
                refine j_tableOut C0 59 dX6_bite_1 (by have c_1_1x : (p0).toInt ≠ 1 := ne_toInt c_1_1; have c_1_2x : (p0).toInt ≠ 2 := ne_toInt c_1_2; have c_1_3x : (p0).toInt ≠ 3 := ne_toInt c_1_3; have c_1_4x : (p0).toInt ≠ 4 := ne_toInt c_1_4; have c_1_5x : (p0).toInt ≠ 5 := ne_toInt c_1_5; have c_1_6x : (p0).toInt ≠ 6 := ne_toInt c_1_6; have c_1_7x : (p0).toInt ≠ 7 := ne_toInt c_1_7; omega) (by decide) ?_
                refine j_iconst C0 (v := 3) dX6_bite_59 (by decide) ?_
                exact j_iretP C0 hrt hlk dX6_bite_60
def f_X6_gaze (p0 p1 : Int32) : Int32 := if p0 = 1 then ((1 : Int32)) else (if p0 = 2 then ((4 : Int32)) else (if p0 = 3 then (((2 : Int32) + (p1 / (3 : Int32)))) else (if p0 = 4 then ((0 : Int32)) else (if p0 = 5 then (((2 : Int32) * ((2 : Int32) + (p1 / (3 : Int32))))) else (if p0 = 6 then ((1 : Int32)) else (if p0 = 7 then ((0 : Int32)) else ((2 : Int32))))))))
theorem yk_X6_gaze : yokS yX6_gaze RX6 cX6_gaze 2 (some .int) 2 := ⟨w_939, w_938, w_8, by decide +kernel⟩
set_option maxHeartbeats 4000000 in
set_option maxRecDepth 100000 in
theorem c_X6_gaze (l : Launch) (z : ZM) (g : Mem) (p0 p1 : Int32) : ctM l yX6_gaze cX6_gaze 2 (some .int) 0 0 z g [.int p0, .int p1] (qIM z (f_X6_gaze p0 p1, g)) := by
  refine ct_of (own := RX6) (q := fun r => qIM z (r, g)) (res := f_X6_gaze p0 p1) (lv := [(0, .int p0), (1, .int p1)]) enokM rfl (by decide) (Nat.le_of_ble_eq_true rfl) rfl (fun p e s m args below meth c C0 hrt hlk => ?_)
  unfold f_X6_gaze
  refine j_iload_n C0 0 dX6_gaze_0 rfl rfl ?_
  refine j_case (cnd := p0 = 1) (fun c_1_1 => ?_) (fun c_1_1 => ?_)
  · have c_1_1x : (p0).toInt = 1 := by rw [c_1_1]; rfl
    refine j_tableIn C0 44 dX6_gaze_1 (by omega) (by omega) (by rw [c_1_1x]; rfl) (by decide) ?_
    refine j_iconst C0 (v := 1) dX6_gaze_44 (by decide) ?_
    exact j_iretP C0 hrt hlk dX6_gaze_45
  · skip
    refine j_case (cnd := p0 = 2) (fun c_1_2 => ?_) (fun c_1_2 => ?_)
    · have c_1_2x : (p0).toInt = 2 := by rw [c_1_2]; rfl
      refine j_tableIn C0 46 dX6_gaze_1 (by omega) (by omega) (by rw [c_1_2x]; rfl) (by decide) ?_
      refine j_iconst C0 (v := 4) dX6_gaze_46 (by decide) ?_
      exact j_iretP C0 hrt hlk dX6_gaze_47
    · skip
      refine j_case (cnd := p0 = 3) (fun c_1_3 => ?_) (fun c_1_3 => ?_)
      · have c_1_3x : (p0).toInt = 3 := by rw [c_1_3]; rfl
        refine j_tableIn C0 48 dX6_gaze_1 (by omega) (by omega) (by rw [c_1_3x]; rfl) (by decide) ?_
        refine j_iconst C0 (v := 2) dX6_gaze_48 (by decide) ?_
        refine j_iload_n C0 1 dX6_gaze_49 rfl rfl ?_
        refine j_iconst C0 (v := 3) dX6_gaze_50 (by decide) ?_
        refine j_idiv C0 dX6_gaze_51 (by decide) ?_
        refine j_iadd C0 dX6_gaze_52 ?_
        exact j_iretP C0 hrt hlk dX6_gaze_53
      · skip
        refine j_case (cnd := p0 = 4) (fun c_1_4 => ?_) (fun c_1_4 => ?_)
        · have c_1_4x : (p0).toInt = 4 := by rw [c_1_4]; rfl
          refine j_tableIn C0 62 dX6_gaze_1 (by omega) (by omega) (by rw [c_1_4x]; rfl) (by decide) ?_
          refine j_iconst C0 (v := 0) dX6_gaze_62 (by decide) ?_
          exact j_iretP C0 hrt hlk dX6_gaze_63
        · skip
          refine j_case (cnd := p0 = 5) (fun c_1_5 => ?_) (fun c_1_5 => ?_)
          · have c_1_5x : (p0).toInt = 5 := by rw [c_1_5]; rfl
            refine j_tableIn C0 54 dX6_gaze_1 (by omega) (by omega) (by rw [c_1_5x]; rfl) (by decide) ?_
            refine j_iconst C0 (v := 2) dX6_gaze_54 (by decide) ?_
            refine j_iconst C0 (v := 2) dX6_gaze_55 (by decide) ?_
            refine j_iload_n C0 1 dX6_gaze_56 rfl rfl ?_
            refine j_iconst C0 (v := 3) dX6_gaze_57 (by decide) ?_
            refine j_idiv C0 dX6_gaze_58 (by decide) ?_
            refine j_iadd C0 dX6_gaze_59 ?_
            refine j_imul C0 dX6_gaze_60 ?_
            exact j_iretP C0 hrt hlk dX6_gaze_61
          · skip
            refine j_case (cnd := p0 = 6) (fun c_1_6 => ?_) (fun c_1_6 => ?_)
            · have c_1_6x : (p0).toInt = 6 := by rw [c_1_6]; rfl
              refine j_tableIn C0 44 dX6_gaze_1 (by omega) (by omega) (by rw [c_1_6x]; rfl) (by decide) ?_
              refine j_iconst C0 (v := 1) dX6_gaze_44 (by decide) ?_
              exact j_iretP C0 hrt hlk dX6_gaze_45
            · skip
              refine j_case (cnd := p0 = 7) (fun c_1_7 => ?_) (fun c_1_7 => ?_)
              · have c_1_7x : (p0).toInt = 7 := by rw [c_1_7]; rfl
                refine j_tableIn C0 62 dX6_gaze_1 (by omega) (by omega) (by rw [c_1_7x]; rfl) (by decide) ?_
                refine j_iconst C0 (v := 0) dX6_gaze_62 (by decide) ?_
                exact j_iretP C0 hrt hlk dX6_gaze_63
              · skip
                refine j_tableOut C0 64 dX6_gaze_1 (by have c_1_1x : (p0).toInt ≠ 1 := ne_toInt c_1_1; have c_1_2x : (p0).toInt ≠ 2 := ne_toInt c_1_2; have c_1_3x : (p0).toInt ≠ 3 := ne_toInt c_1_3; have c_1_4x : (p0).toInt ≠ 4 := ne_toInt c_1_4; have c_1_5x : (p0).toInt ≠ 5 := ne_toInt c_1_5; have c_1_6x : (p0).toInt ≠ 6 := ne_toInt c_1_6; have c_1_7x : (p0).toInt ≠ 7 := ne_toInt c_1_7; omega) (by decide) ?_
                refine j_iconst C0 (v := 2) dX6_gaze_64 (by decide) ?_
                exact j_iretP C0 hrt hlk dX6_gaze_65
def f_X6_shy (p0 : Int32) : Int32 := if p0 = (6 : Int32) then ((2 : Int32)) else (if p0 = (1 : Int32) then ((1 : Int32)) else (if p0 = (2 : Int32) then ((1 : Int32)) else ((0 : Int32))))
theorem yk_X6_shy : yokS yX6_shy RX6 cX6_shy 1 (some .int) 1 := ⟨w_930, w_929, w_8, by decide +kernel⟩
set_option maxHeartbeats 4000000 in
set_option maxRecDepth 100000 in
theorem c_X6_shy (l : Launch) (z : ZM) (g : Mem) (p0 : Int32) : ctM l yX6_shy cX6_shy 1 (some .int) 0 0 z g [.int p0] (qIM z (f_X6_shy p0, g)) := by
  refine ct_of (own := RX6) (q := fun r => qIM z (r, g)) (res := f_X6_shy p0) (lv := [(0, .int p0)]) enokM rfl (by decide) (Nat.le_of_ble_eq_true rfl) rfl (fun p e s m args below meth c C0 hrt hlk => ?_)
  unfold f_X6_shy
  refine j_iload_n C0 0 dX6_shy_0 rfl rfl ?_
  refine j_bipush C0 (v := 6) dX6_shy_1 (by decide) ?_
  refine j_icmp_ne C0 10 dX6_shy_3 (by decide) (fun c_3 => ?_) (fun c_3 => ?_)
  · refine j_iconst C0 (v := 2) dX6_shy_6 (by decide) ?_
    refine j_goto C0 25 dX6_shy_7 (by decide) ?_
    exact j_iretP C0 hrt hlk dX6_shy_25
  · refine j_iload_n C0 0 dX6_shy_10 rfl rfl ?_
    refine j_iconst C0 (v := 1) dX6_shy_11 (by decide) ?_
    refine j_icmp_eq C0 20 dX6_shy_12 (by decide) (fun c_12 => ?_) (fun c_12 => ?_)
    · refine j_iconst C0 (v := 1) dX6_shy_20 (by decide) ?_
      refine j_goto C0 25 dX6_shy_21 (by decide) ?_
      exact j_iretP C0 hrt hlk dX6_shy_25
    · refine j_iload_n C0 0 dX6_shy_15 rfl rfl ?_
      refine j_iconst C0 (v := 2) dX6_shy_16 (by decide) ?_
      refine j_icmp_ne C0 24 dX6_shy_17 (by decide) (fun c_17 => ?_) (fun c_17 => ?_)
      · refine j_iconst C0 (v := 1) dX6_shy_20 (by decide) ?_
        refine j_goto C0 25 dX6_shy_21 (by decide) ?_
        exact j_iretP C0 hrt hlk dX6_shy_25
      · refine j_iconst C0 (v := 0) dX6_shy_24 (by decide) ?_
        exact j_iretP C0 hrt hlk dX6_shy_25
def f_X6_leastOf (p0 : Int32) : Int32 := if p0 = 0 then ((-128 : Int32)) else (if p0 = (1 : Int32) then ((-32768 : Int32)) else ((-2147483648 : Int32)))
theorem yk_X6_leastOf : yokS yX6_leastOf RX6 cX6_leastOf 1 (some .int) 1 := ⟨w_1102, w_1101, w_8, by decide +kernel⟩
set_option maxHeartbeats 4000000 in
set_option maxRecDepth 100000 in
theorem c_X6_leastOf (l : Launch) (z : ZM) (g : Mem) (p0 : Int32) : ctM l yX6_leastOf cX6_leastOf 1 (some .int) 0 0 z g [.int p0] (qIM z (f_X6_leastOf p0, g)) := by
  refine ct_of (own := RX6) (q := fun r => qIM z (r, g)) (res := f_X6_leastOf p0) (lv := [(0, .int p0)]) enokM rfl (by decide) (Nat.le_of_ble_eq_true rfl) rfl (fun p e s m args below meth c C0 hrt hlk => ?_)
  unfold f_X6_leastOf
  refine j_iload_n C0 0 dX6_leastOf_0 rfl rfl ?_
  refine j_if_ne C0 9 dX6_leastOf_1 (by decide) (fun c_1 => ?_) (fun c_1 => ?_)
  · refine j_bipush C0 (v := (-128)) dX6_leastOf_4 (by decide) ?_
    refine j_goto C0 22 dX6_leastOf_6 (by decide) ?_
    exact j_iretP C0 hrt hlk dX6_leastOf_22
  · refine j_iload_n C0 0 dX6_leastOf_9 rfl rfl ?_
    refine j_iconst C0 (v := 1) dX6_leastOf_10 (by decide) ?_
    refine j_icmp_ne C0 20 dX6_leastOf_11 (by decide) (fun c_11 => ?_) (fun c_11 => ?_)
    · refine j_sipush C0 (v := (-32768)) dX6_leastOf_14 (by decide) ?_
      refine j_goto C0 22 dX6_leastOf_17 (by decide) ?_
      exact j_iretP C0 hrt hlk dX6_leastOf_22
    · refine j_ldc C0 dX6_leastOf_20 w_1103 ?_
      exact j_iretP C0 hrt hlk dX6_leastOf_22
def f_X6_costBy (p0 p1 : Int32) : Int32 := if p0 = 1 then ((3 : Int32)) else (if p0 = 2 then (((4 : Int32) + p1)) else (if p0 = 3 then ((10 : Int32)) else (if p0 = 4 then ((2 : Int32)) else (if p0 = 5 then (((10 : Int32) + p1)) else (if p0 = 6 then ((6 : Int32)) else (if p0 = 7 then ((1 : Int32)) else ((4 : Int32))))))))
theorem yk_X6_costBy : yokS yX6_costBy RX6 cX6_costBy 2 (some .int) 2 := ⟨w_1157, w_1156, w_8, by decide +kernel⟩
set_option maxHeartbeats 4000000 in
set_option maxRecDepth 100000 in
theorem c_X6_costBy (l : Launch) (z : ZM) (g : Mem) (p0 p1 : Int32) : ctM l yX6_costBy cX6_costBy 2 (some .int) 0 0 z g [.int p0, .int p1] (qIM z (f_X6_costBy p0 p1, g)) := by
  refine ct_of (own := RX6) (q := fun r => qIM z (r, g)) (res := f_X6_costBy p0 p1) (lv := [(0, .int p0), (1, .int p1)]) enokM rfl (by decide) (Nat.le_of_ble_eq_true rfl) rfl (fun p e s m args below meth c C0 hrt hlk => ?_)
  unfold f_X6_costBy
  refine j_iload_n C0 0 dX6_costBy_0 rfl rfl ?_
  refine j_case (cnd := p0 = 1) (fun c_1_1 => ?_) (fun c_1_1 => ?_)
  · have c_1_1x : (p0).toInt = 1 := by rw [c_1_1]; rfl
    refine j_tableIn C0 44 dX6_costBy_1 (by omega) (by omega) (by rw [c_1_1x]; rfl) (by decide) ?_
    refine j_iconst C0 (v := 3) dX6_costBy_44 (by decide) ?_
    exact j_iretP C0 hrt hlk dX6_costBy_45
  · skip
    refine j_case (cnd := p0 = 2) (fun c_1_2 => ?_) (fun c_1_2 => ?_)
    · have c_1_2x : (p0).toInt = 2 := by rw [c_1_2]; rfl
      refine j_tableIn C0 46 dX6_costBy_1 (by omega) (by omega) (by rw [c_1_2x]; rfl) (by decide) ?_
      refine j_iconst C0 (v := 4) dX6_costBy_46 (by decide) ?_
      refine j_iload_n C0 1 dX6_costBy_47 rfl rfl ?_
      refine j_iadd C0 dX6_costBy_48 ?_
      exact j_iretP C0 hrt hlk dX6_costBy_49
    · skip
      refine j_case (cnd := p0 = 3) (fun c_1_3 => ?_) (fun c_1_3 => ?_)
      · have c_1_3x : (p0).toInt = 3 := by rw [c_1_3]; rfl
        refine j_tableIn C0 50 dX6_costBy_1 (by omega) (by omega) (by rw [c_1_3x]; rfl) (by decide) ?_
        refine j_bipush C0 (v := 10) dX6_costBy_50 (by decide) ?_
        exact j_iretP C0 hrt hlk dX6_costBy_52
      · skip
        refine j_case (cnd := p0 = 4) (fun c_1_4 => ?_) (fun c_1_4 => ?_)
        · have c_1_4x : (p0).toInt = 4 := by rw [c_1_4]; rfl
          refine j_tableIn C0 53 dX6_costBy_1 (by omega) (by omega) (by rw [c_1_4x]; rfl) (by decide) ?_
          refine j_iconst C0 (v := 2) dX6_costBy_53 (by decide) ?_
          exact j_iretP C0 hrt hlk dX6_costBy_54
        · skip
          refine j_case (cnd := p0 = 5) (fun c_1_5 => ?_) (fun c_1_5 => ?_)
          · have c_1_5x : (p0).toInt = 5 := by rw [c_1_5]; rfl
            refine j_tableIn C0 55 dX6_costBy_1 (by omega) (by omega) (by rw [c_1_5x]; rfl) (by decide) ?_
            refine j_bipush C0 (v := 10) dX6_costBy_55 (by decide) ?_
            refine j_iload_n C0 1 dX6_costBy_57 rfl rfl ?_
            refine j_iadd C0 dX6_costBy_58 ?_
            exact j_iretP C0 hrt hlk dX6_costBy_59
          · skip
            refine j_case (cnd := p0 = 6) (fun c_1_6 => ?_) (fun c_1_6 => ?_)
            · have c_1_6x : (p0).toInt = 6 := by rw [c_1_6]; rfl
              refine j_tableIn C0 60 dX6_costBy_1 (by omega) (by omega) (by rw [c_1_6x]; rfl) (by decide) ?_
              refine j_bipush C0 (v := 6) dX6_costBy_60 (by decide) ?_
              exact j_iretP C0 hrt hlk dX6_costBy_62
            · skip
              refine j_case (cnd := p0 = 7) (fun c_1_7 => ?_) (fun c_1_7 => ?_)
              · have c_1_7x : (p0).toInt = 7 := by rw [c_1_7]; rfl
                refine j_tableIn C0 63 dX6_costBy_1 (by omega) (by omega) (by rw [c_1_7x]; rfl) (by decide) ?_
                refine j_iconst C0 (v := 1) dX6_costBy_63 (by decide) ?_
                exact j_iretP C0 hrt hlk dX6_costBy_64
              · skip
                refine j_tableOut C0 65 dX6_costBy_1 (by have c_1_1x : (p0).toInt ≠ 1 := ne_toInt c_1_1; have c_1_2x : (p0).toInt ≠ 2 := ne_toInt c_1_2; have c_1_3x : (p0).toInt ≠ 3 := ne_toInt c_1_3; have c_1_4x : (p0).toInt ≠ 4 := ne_toInt c_1_4; have c_1_5x : (p0).toInt ≠ 5 := ne_toInt c_1_5; have c_1_6x : (p0).toInt ≠ 6 := ne_toInt c_1_6; have c_1_7x : (p0).toInt ≠ 7 := ne_toInt c_1_7; omega) (by decide) ?_
                refine j_iconst C0 (v := 4) dX6_costBy_65 (by decide) ?_
                exact j_iretP C0 hrt hlk dX6_costBy_66
def f_X6_isShelf (p0 : Int32) : Int32 := (f_X6_isIn p0 (0 : Int32) (7 : Int32))
theorem b01_X6_isShelf (p0 : Int32) : f_X6_isShelf p0 = 0 ∨ f_X6_isShelf p0 = 1 := by
  unfold f_X6_isShelf
  repeat' split
  all_goals first | (with_reducible exact Or.inl rfl) | (with_reducible exact Or.inr rfl) | assumption | (with_reducible exact b01_X6_isIn _ _ _)
theorem yk_X6_isShelf : yokS yX6_isShelf RX6 cX6_isShelf 1 (some .boolean) 1 := ⟨w_871, w_870, w_8, by decide +kernel⟩
set_option maxHeartbeats 4000000 in
set_option maxRecDepth 100000 in
theorem c_X6_isShelf (l : Launch) (z : ZM) (g : Mem) (p0 : Int32) : ctM l yX6_isShelf cX6_isShelf 1 (some .boolean) 1 22 z g [.int p0] (qIM z (f_X6_isShelf p0, g)) := by
  refine ct_of (own := RX6) (q := fun r => qIM z (r, g)) (res := f_X6_isShelf p0) (lv := [(0, .int p0)]) enokM rfl (by decide) (Nat.le_of_ble_eq_true rfl) rfl (fun p e s m args below meth c C0 hrt hlk => ?_)
  unfold f_X6_isShelf
  refine j_iload_n C0 0 dX6_isShelf_0 rfl rfl ?_
  refine j_iconst C0 (v := 0) dX6_isShelf_1 (by decide) ?_
  refine j_bipush C0 (v := 7) dX6_isShelf_2 (by decide) ?_
  refine j_callSi C0 (c_X6_isIn l z _ _ _ _) yk_X6_isIn w_872 ⟨Nat.le_of_ble_eq_true rfl, Nat.le_of_ble_eq_true rfl⟩ rfl rfl (Nat.le_of_ble_eq_true rfl) dX6_isShelf_4 ?_
  exact j_zretP C0 hrt hlk (b01_X6_isIn _ _ _) dX6_isShelf_7
theorem isShelfM_in {a : Int32} (h : ¬ f_X6_isShelf a = 0) : vp_in a 8 := by
  have h1 := isIn_in (b := 0) (c := 7) h
  have e0 : (0 : Int32).toInt = 0 := rfl
  have e7 : (7 : Int32).toInt = 7 := rfl
  exact vin_of (by omega) (by omega)

def f_X6_bites (g : Mem) (k : Nat) (p1 : Int32) : Int32 := (f_X6_least (g k (ix (f_X6_of p1 (2 : Int32)))) (f_X6_bite (g k (ix (f_X6_of p1 (0 : Int32)))) (g k (ix (f_X6_of p1 (1 : Int32))))))
theorem yk_X6_bites : yokS yX6_bites RX6 cX6_bites 2 (some .int) 2 := ⟨w_921, w_920, w_8, by decide +kernel⟩
set_option maxHeartbeats 4000000 in
set_option maxRecDepth 100000 in
theorem c_X6_bites (l : Launch) (z : ZM) (g : Mem) (k : Nat) (hk : rw4 k) (p1 : Int32) (hv1 : vp_in p1 9) : ctM l yX6_bites cX6_bites 2 (some .int) 1 21 z g [.ref (yad z k), .int p1] (qIM z (f_X6_bites g k p1, g)) := by
  refine ct_of (own := RX6) (q := fun r => qIM z (r, g)) (res := f_X6_bites g k p1) (lv := [(0, .ref (yad z k)), (1, .int p1)]) enokM rfl (by decide) (Nat.le_of_ble_eq_true rfl) rfl (fun p e s m args below meth c C0 hrt hlk => ?_)
  unfold f_X6_bites
  refine j_aload_n C0 0 dX6_bites_0 rfl rfl ?_
  refine j_iload_n C0 1 dX6_bites_1 rfl rfl ?_
  refine j_iconst C0 (v := 2) dX6_bites_2 (by decide) ?_
  refine j_callSi C0 (c_X6_of l z _ _ _) yk_X6_of w_897 ⟨Nat.le_of_ble_eq_true rfl, Nat.le_of_ble_eq_true rfl⟩ rfl rfl (Nat.le_of_ble_eq_true rfl) dX6_bites_3 ?_
  refine a_M C0 (rw4_14 hk) (vin4 hk (of_in2 hv1)) dX6_bites_6 ?_
  refine j_aload_n C0 0 dX6_bites_7 rfl rfl ?_
  refine j_iload_n C0 1 dX6_bites_8 rfl rfl ?_
  refine j_iconst C0 (v := 0) dX6_bites_9 (by decide) ?_
  refine j_callSi C0 (c_X6_of l z _ _ _) yk_X6_of w_897 ⟨Nat.le_of_ble_eq_true rfl, Nat.le_of_ble_eq_true rfl⟩ rfl rfl (Nat.le_of_ble_eq_true rfl) dX6_bites_10 ?_
  refine a_M C0 (rw4_14 hk) (vin4 hk (of_in0 hv1)) dX6_bites_13 ?_
  refine j_aload_n C0 0 dX6_bites_14 rfl rfl ?_
  refine j_iload_n C0 1 dX6_bites_15 rfl rfl ?_
  refine j_iconst C0 (v := 1) dX6_bites_16 (by decide) ?_
  refine j_callSi C0 (c_X6_of l z _ _ _) yk_X6_of w_897 ⟨Nat.le_of_ble_eq_true rfl, Nat.le_of_ble_eq_true rfl⟩ rfl rfl (Nat.le_of_ble_eq_true rfl) dX6_bites_17 ?_
  refine a_M C0 (rw4_14 hk) (vin4 hk (of_in1 hv1)) dX6_bites_20 ?_
  refine j_callSi C0 (c_X6_bite l z _ _ _) yk_X6_bite w_922 ⟨Nat.le_of_ble_eq_true rfl, Nat.le_of_ble_eq_true rfl⟩ rfl rfl (Nat.le_of_ble_eq_true rfl) dX6_bites_21 ?_
  refine j_callSi C0 (c_X6_least l z _ _ _) yk_X6_least w_925 ⟨Nat.le_of_ble_eq_true rfl, Nat.le_of_ble_eq_true rfl⟩ rfl rfl (Nat.le_of_ble_eq_true rfl) dX6_bites_24 ?_
  exact j_iretP C0 hrt hlk dX6_bites_27
def f_X6_gazes (g : Mem) (k : Nat) (p1 : Int32) : Int32 := (f_X6_least (g k (ix (f_X6_of p1 (3 : Int32)))) (f_X6_gaze (g k (ix (f_X6_of p1 (0 : Int32)))) (g k (ix (f_X6_of p1 (1 : Int32))))))
theorem yk_X6_gazes : yokS yX6_gazes RX6 cX6_gazes 2 (some .int) 2 := ⟨w_936, w_935, w_8, by decide +kernel⟩
set_option maxHeartbeats 4000000 in
set_option maxRecDepth 100000 in
theorem c_X6_gazes (l : Launch) (z : ZM) (g : Mem) (k : Nat) (hk : rw4 k) (p1 : Int32) (hv1 : vp_in p1 9) : ctM l yX6_gazes cX6_gazes 2 (some .int) 1 21 z g [.ref (yad z k), .int p1] (qIM z (f_X6_gazes g k p1, g)) := by
  refine ct_of (own := RX6) (q := fun r => qIM z (r, g)) (res := f_X6_gazes g k p1) (lv := [(0, .ref (yad z k)), (1, .int p1)]) enokM rfl (by decide) (Nat.le_of_ble_eq_true rfl) rfl (fun p e s m args below meth c C0 hrt hlk => ?_)
  unfold f_X6_gazes
  refine j_aload_n C0 0 dX6_gazes_0 rfl rfl ?_
  refine j_iload_n C0 1 dX6_gazes_1 rfl rfl ?_
  refine j_iconst C0 (v := 3) dX6_gazes_2 (by decide) ?_
  refine j_callSi C0 (c_X6_of l z _ _ _) yk_X6_of w_897 ⟨Nat.le_of_ble_eq_true rfl, Nat.le_of_ble_eq_true rfl⟩ rfl rfl (Nat.le_of_ble_eq_true rfl) dX6_gazes_3 ?_
  refine a_M C0 (rw4_14 hk) (vin4 hk (of_in3 hv1)) dX6_gazes_6 ?_
  refine j_aload_n C0 0 dX6_gazes_7 rfl rfl ?_
  refine j_iload_n C0 1 dX6_gazes_8 rfl rfl ?_
  refine j_iconst C0 (v := 0) dX6_gazes_9 (by decide) ?_
  refine j_callSi C0 (c_X6_of l z _ _ _) yk_X6_of w_897 ⟨Nat.le_of_ble_eq_true rfl, Nat.le_of_ble_eq_true rfl⟩ rfl rfl (Nat.le_of_ble_eq_true rfl) dX6_gazes_10 ?_
  refine a_M C0 (rw4_14 hk) (vin4 hk (of_in0 hv1)) dX6_gazes_13 ?_
  refine j_aload_n C0 0 dX6_gazes_14 rfl rfl ?_
  refine j_iload_n C0 1 dX6_gazes_15 rfl rfl ?_
  refine j_iconst C0 (v := 1) dX6_gazes_16 (by decide) ?_
  refine j_callSi C0 (c_X6_of l z _ _ _) yk_X6_of w_897 ⟨Nat.le_of_ble_eq_true rfl, Nat.le_of_ble_eq_true rfl⟩ rfl rfl (Nat.le_of_ble_eq_true rfl) dX6_gazes_17 ?_
  refine a_M C0 (rw4_14 hk) (vin4 hk (of_in1 hv1)) dX6_gazes_20 ?_
  refine j_callSi C0 (c_X6_gaze l z _ _ _) yk_X6_gaze w_937 ⟨Nat.le_of_ble_eq_true rfl, Nat.le_of_ble_eq_true rfl⟩ rfl rfl (Nat.le_of_ble_eq_true rfl) dX6_gazes_21 ?_
  refine j_callSi C0 (c_X6_least l z _ _ _) yk_X6_least w_925 ⟨Nat.le_of_ble_eq_true rfl, Nat.le_of_ble_eq_true rfl⟩ rfl rfl (Nat.le_of_ble_eq_true rfl) dX6_gazes_24 ?_
  exact j_iretP C0 hrt hlk dX6_gazes_27
def f_X6_canLook (g : Mem) (k : Nat) (p1 : Int32) : Int32 := if (g k (ix (f_X6_of p1 (4 : Int32)))) = 0 then (if (g k (ix (f_X6_of p1 (0 : Int32)))) = (4 : Int32) then ((0 : Int32)) else ((1 : Int32))) else ((0 : Int32))
theorem b01_X6_canLook (g : Mem) (k : Nat) (p1 : Int32) : f_X6_canLook g k p1 = 0 ∨ f_X6_canLook g k p1 = 1 := by
  unfold f_X6_canLook
  repeat' split
  all_goals first | (with_reducible exact Or.inl rfl) | (with_reducible exact Or.inr rfl) | assumption
theorem yk_X6_canLook : yokS yX6_canLook RX6 cX6_canLook 2 (some .boolean) 2 := ⟨w_909, w_908, w_8, by decide +kernel⟩
set_option maxHeartbeats 4000000 in
set_option maxRecDepth 100000 in
theorem c_X6_canLook (l : Launch) (z : ZM) (g : Mem) (k : Nat) (hk : rw4 k) (p1 : Int32) (hv1 : vp_in p1 9) : ctM l yX6_canLook cX6_canLook 2 (some .boolean) 1 21 z g [.ref (yad z k), .int p1] (qIM z (f_X6_canLook g k p1, g)) := by
  refine ct_of (own := RX6) (q := fun r => qIM z (r, g)) (res := f_X6_canLook g k p1) (lv := [(0, .ref (yad z k)), (1, .int p1)]) enokM rfl (by decide) (Nat.le_of_ble_eq_true rfl) rfl (fun p e s m args below meth c C0 hrt hlk => ?_)
  unfold f_X6_canLook
  refine j_aload_n C0 0 dX6_canLook_0 rfl rfl ?_
  refine j_iload_n C0 1 dX6_canLook_1 rfl rfl ?_
  refine j_iconst C0 (v := 4) dX6_canLook_2 (by decide) ?_
  refine j_callSi C0 (c_X6_of l z _ _ _) yk_X6_of w_897 ⟨Nat.le_of_ble_eq_true rfl, Nat.le_of_ble_eq_true rfl⟩ rfl rfl (Nat.le_of_ble_eq_true rfl) dX6_canLook_3 ?_
  refine a_M C0 (rw4_14 hk) (vin4 hk (of_in4 hv1)) dX6_canLook_6 ?_
  refine j_if_ne C0 25 dX6_canLook_7 (by decide) (fun c_7 => ?_) (fun c_7 => ?_)
  · refine j_aload_n C0 0 dX6_canLook_10 rfl rfl ?_
    refine j_iload_n C0 1 dX6_canLook_11 rfl rfl ?_
    refine j_iconst C0 (v := 0) dX6_canLook_12 (by decide) ?_
    refine j_callSi C0 (c_X6_of l z _ _ _) yk_X6_of w_897 ⟨Nat.le_of_ble_eq_true rfl, Nat.le_of_ble_eq_true rfl⟩ rfl rfl (Nat.le_of_ble_eq_true rfl) dX6_canLook_13 ?_
    refine a_M C0 (rw4_14 hk) (vin4 hk (of_in0 hv1)) dX6_canLook_16 ?_
    refine j_iconst C0 (v := 4) dX6_canLook_17 (by decide) ?_
    refine j_icmp_eq C0 25 dX6_canLook_18 (by decide) (fun c_18 => ?_) (fun c_18 => ?_)
    · refine j_iconst C0 (v := 0) dX6_canLook_25 (by decide) ?_
      exact j_zretP C0 hrt hlk (Or.inl rfl) dX6_canLook_26
    · refine j_iconst C0 (v := 1) dX6_canLook_21 (by decide) ?_
      refine j_goto C0 26 dX6_canLook_22 (by decide) ?_
      exact j_zretP C0 hrt hlk (Or.inr rfl) dX6_canLook_26
  · refine j_iconst C0 (v := 0) dX6_canLook_25 (by decide) ?_
    exact j_zretP C0 hrt hlk (Or.inl rfl) dX6_canLook_26
def f_X6_canEat (g : Mem) (k : Nat) (p1 p2 : Int32) : Int32 := if p1 = p2 then ((0 : Int32)) else (if (g k 1) ≤ 0 then ((0 : Int32)) else (if (g k (ix (f_X6_of p1 (2 : Int32)))) ≤ 0 then ((0 : Int32)) else (if (f_X6_canLook g k p2) = 0 then ((0 : Int32)) else ((1 : Int32)))))
theorem b01_X6_canEat (g : Mem) (k : Nat) (p1 p2 : Int32) : f_X6_canEat g k p1 p2 = 0 ∨ f_X6_canEat g k p1 p2 = 1 := by
  unfold f_X6_canEat
  repeat' split
  all_goals first | (with_reducible exact Or.inl rfl) | (with_reducible exact Or.inr rfl) | assumption | (with_reducible exact b01_X6_canLook _ _ _)
theorem yk_X6_canEat : yokS yX6_canEat RX6 cX6_canEat 3 (some .boolean) 3 := ⟨w_906, w_905, w_8, by decide +kernel⟩
set_option maxHeartbeats 4000000 in
set_option maxRecDepth 100000 in
theorem c_X6_canEat (l : Launch) (z : ZM) (g : Mem) (k : Nat) (hk : rw4 k) (p1 p2 : Int32) (hv1 : vp_in p1 9) (hv2 : vp_in p2 9) : ctM l yX6_canEat cX6_canEat 3 (some .boolean) 2 42 z g [.ref (yad z k), .int p1, .int p2] (qIM z (f_X6_canEat g k p1 p2, g)) := by
  refine ct_of (own := RX6) (q := fun r => qIM z (r, g)) (res := f_X6_canEat g k p1 p2) (lv := [(0, .ref (yad z k)), (1, .int p1), (2, .int p2)]) enokM rfl (by decide) (Nat.le_of_ble_eq_true rfl) rfl (fun p e s m args below meth c C0 hrt hlk => ?_)
  unfold f_X6_canEat
  refine j_iload_n C0 1 dX6_canEat_0 rfl rfl ?_
  refine j_iload_n C0 2 dX6_canEat_1 rfl rfl ?_
  refine j_icmp_eq C0 33 dX6_canEat_2 (by decide) (fun c_2 => ?_) (fun c_2 => ?_)
  · refine j_iconst C0 (v := 0) dX6_canEat_33 (by decide) ?_
    exact j_zretP C0 hrt hlk (Or.inl rfl) dX6_canEat_34
  · refine j_aload_n C0 0 dX6_canEat_5 rfl rfl ?_
    refine j_iconst C0 (v := 1) dX6_canEat_6 (by decide) ?_
    refine a_Ml C0 (rw4_14 hk) ixl_1 (vin4 hk vl57_1) dX6_canEat_7 ?_
    refine j_if_le C0 33 dX6_canEat_8 (by decide) (fun c_8 => ?_) (fun c_8 => ?_)
    · refine j_iconst C0 (v := 0) dX6_canEat_33 (by decide) ?_
      exact j_zretP C0 hrt hlk (Or.inl rfl) dX6_canEat_34
    · refine j_aload_n C0 0 dX6_canEat_11 rfl rfl ?_
      refine j_iload_n C0 1 dX6_canEat_12 rfl rfl ?_
      refine j_iconst C0 (v := 2) dX6_canEat_13 (by decide) ?_
      refine j_callSi C0 (c_X6_of l z _ _ _) yk_X6_of w_897 ⟨Nat.le_of_ble_eq_true rfl, Nat.le_of_ble_eq_true rfl⟩ rfl rfl (Nat.le_of_ble_eq_true rfl) dX6_canEat_14 ?_
      refine a_M C0 (rw4_14 hk) (vin4 hk (of_in2 hv1)) dX6_canEat_17 ?_
      refine j_if_le C0 33 dX6_canEat_18 (by decide) (fun c_18 => ?_) (fun c_18 => ?_)
      · refine j_iconst C0 (v := 0) dX6_canEat_33 (by decide) ?_
        exact j_zretP C0 hrt hlk (Or.inl rfl) dX6_canEat_34
      · refine j_aload_n C0 0 dX6_canEat_21 rfl rfl ?_
        refine j_iload_n C0 2 dX6_canEat_22 rfl rfl ?_
        refine j_callSi C0 (c_X6_canLook l z _ k hk _ hv2) yk_X6_canLook w_907 ⟨Nat.le_of_ble_eq_true rfl, Nat.le_of_ble_eq_true rfl⟩ rfl rfl (Nat.le_of_ble_eq_true rfl) dX6_canEat_23 ?_
        refine j_if_eq C0 33 dX6_canEat_26 (by decide) (fun c_26 => ?_) (fun c_26 => ?_)
        · refine j_iconst C0 (v := 0) dX6_canEat_33 (by decide) ?_
          exact j_zretP C0 hrt hlk (Or.inl rfl) dX6_canEat_34
        · refine j_iconst C0 (v := 1) dX6_canEat_29 (by decide) ?_
          refine j_goto C0 34 dX6_canEat_30 (by decide) ?_
          exact j_zretP C0 hrt hlk (Or.inr rfl) dX6_canEat_34
def f_X6_eaterJoy (g : Mem) (k : Nat) (p1 p2 : Int32) : Int32 := (f_X6_most (0 : Int32) ((f_X6_bites g k p1) - ((f_X6_shy (g k (ix (f_X6_of p1 (0 : Int32))))) * (g k (ix (f_X6_of p2 (5 : Int32)))))))
theorem yk_X6_eaterJoy : yokS yX6_eaterJoy RX6 cX6_eaterJoy 3 (some .int) 3 := ⟨w_918, w_917, w_8, by decide +kernel⟩
set_option maxHeartbeats 4000000 in
set_option maxRecDepth 100000 in
theorem c_X6_eaterJoy (l : Launch) (z : ZM) (g : Mem) (k : Nat) (hk : rw4 k) (p1 p2 : Int32) (hv1 : vp_in p1 9) (hv2 : vp_in p2 9) : ctM l yX6_eaterJoy cX6_eaterJoy 3 (some .int) 2 42 z g [.ref (yad z k), .int p1, .int p2] (qIM z (f_X6_eaterJoy g k p1 p2, g)) := by
  refine ct_of (own := RX6) (q := fun r => qIM z (r, g)) (res := f_X6_eaterJoy g k p1 p2) (lv := [(0, .ref (yad z k)), (1, .int p1), (2, .int p2)]) enokM rfl (by decide) (Nat.le_of_ble_eq_true rfl) rfl (fun p e s m args below meth c C0 hrt hlk => ?_)
  unfold f_X6_eaterJoy
  refine j_iconst C0 (v := 0) dX6_eaterJoy_0 (by decide) ?_
  refine j_aload_n C0 0 dX6_eaterJoy_1 rfl rfl ?_
  refine j_iload_n C0 1 dX6_eaterJoy_2 rfl rfl ?_
  refine j_callSi C0 (c_X6_bites l z _ k hk _ hv1) yk_X6_bites w_919 ⟨Nat.le_of_ble_eq_true rfl, Nat.le_of_ble_eq_true rfl⟩ rfl rfl (Nat.le_of_ble_eq_true rfl) dX6_eaterJoy_3 ?_
  refine j_aload_n C0 0 dX6_eaterJoy_6 rfl rfl ?_
  refine j_iload_n C0 1 dX6_eaterJoy_7 rfl rfl ?_
  refine j_iconst C0 (v := 0) dX6_eaterJoy_8 (by decide) ?_
  refine j_callSi C0 (c_X6_of l z _ _ _) yk_X6_of w_897 ⟨Nat.le_of_ble_eq_true rfl, Nat.le_of_ble_eq_true rfl⟩ rfl rfl (Nat.le_of_ble_eq_true rfl) dX6_eaterJoy_9 ?_
  refine a_M C0 (rw4_14 hk) (vin4 hk (of_in0 hv1)) dX6_eaterJoy_12 ?_
  refine j_callSi C0 (c_X6_shy l z _ _) yk_X6_shy w_928 ⟨Nat.le_of_ble_eq_true rfl, Nat.le_of_ble_eq_true rfl⟩ rfl rfl (Nat.le_of_ble_eq_true rfl) dX6_eaterJoy_13 ?_
  refine j_aload_n C0 0 dX6_eaterJoy_16 rfl rfl ?_
  refine j_iload_n C0 2 dX6_eaterJoy_17 rfl rfl ?_
  refine j_iconst C0 (v := 5) dX6_eaterJoy_18 (by decide) ?_
  refine j_callSi C0 (c_X6_of l z _ _ _) yk_X6_of w_897 ⟨Nat.le_of_ble_eq_true rfl, Nat.le_of_ble_eq_true rfl⟩ rfl rfl (Nat.le_of_ble_eq_true rfl) dX6_eaterJoy_19 ?_
  refine a_M C0 (rw4_14 hk) (vin4 hk (of_in5 hv2)) dX6_eaterJoy_22 ?_
  refine j_imul C0 dX6_eaterJoy_23 ?_
  refine j_isub C0 dX6_eaterJoy_24 ?_
  refine j_callSi C0 (c_X6_most l z _ _ _) yk_X6_most w_931 ⟨Nat.le_of_ble_eq_true rfl, Nat.le_of_ble_eq_true rfl⟩ rfl rfl (Nat.le_of_ble_eq_true rfl) dX6_eaterJoy_25 ?_
  exact j_iretP C0 hrt hlk dX6_eaterJoy_28
def f_X6_joysOf (g : Mem) (k : Nat) (p1 p2 : Int32) : Int32 := ((f_X6_eaterJoy g k p1 p2) + (f_X6_gazes g k p2))
theorem yk_X6_joysOf : yokS yX6_joysOf RX6 cX6_joysOf 3 (some .int) 3 := ⟨w_915, w_914, w_8, by decide +kernel⟩
set_option maxHeartbeats 4000000 in
set_option maxRecDepth 100000 in
theorem c_X6_joysOf (l : Launch) (z : ZM) (g : Mem) (k : Nat) (hk : rw4 k) (p1 p2 : Int32) (hv1 : vp_in p1 9) (hv2 : vp_in p2 9) : ctM l yX6_joysOf cX6_joysOf 3 (some .int) 3 64 z g [.ref (yad z k), .int p1, .int p2] (qIM z (f_X6_joysOf g k p1 p2, g)) := by
  refine ct_of (own := RX6) (q := fun r => qIM z (r, g)) (res := f_X6_joysOf g k p1 p2) (lv := [(0, .ref (yad z k)), (1, .int p1), (2, .int p2)]) enokM rfl (by decide) (Nat.le_of_ble_eq_true rfl) rfl (fun p e s m args below meth c C0 hrt hlk => ?_)
  unfold f_X6_joysOf
  refine j_aload_n C0 0 dX6_joysOf_0 rfl rfl ?_
  refine j_iload_n C0 1 dX6_joysOf_1 rfl rfl ?_
  refine j_iload_n C0 2 dX6_joysOf_2 rfl rfl ?_
  refine j_callSi C0 (c_X6_eaterJoy l z _ k hk _ _ hv1 hv2) yk_X6_eaterJoy w_916 ⟨Nat.le_of_ble_eq_true rfl, Nat.le_of_ble_eq_true rfl⟩ rfl rfl (Nat.le_of_ble_eq_true rfl) dX6_joysOf_3 ?_
  refine j_aload_n C0 0 dX6_joysOf_6 rfl rfl ?_
  refine j_iload_n C0 2 dX6_joysOf_7 rfl rfl ?_
  refine j_callSi C0 (c_X6_gazes l z _ k hk _ hv2) yk_X6_gazes w_934 ⟨Nat.le_of_ble_eq_true rfl, Nat.le_of_ble_eq_true rfl⟩ rfl rfl (Nat.le_of_ble_eq_true rfl) dX6_joysOf_8 ?_
  refine j_iadd C0 dX6_joysOf_11 ?_
  exact j_iretP C0 hrt hlk dX6_joysOf_12
def f_X6_turn_m1 (g : Mem) (k : Nat) (p1 p2 : Int32) : Mem := up g k (ix (f_X6_of p1 (2 : Int32))) ((g k (ix (f_X6_of p1 (2 : Int32)))) - (f_X6_bites g k p1))
def f_X6_turn_m2 (g : Mem) (k : Nat) (p1 p2 : Int32) : Mem := up (f_X6_turn_m1 g k p1 p2) k (ix (f_X6_of p2 (3 : Int32))) (((f_X6_turn_m1 g k p1 p2) k (ix (f_X6_of p2 (3 : Int32)))) - (f_X6_gazes (f_X6_turn_m1 g k p1 p2) k p2))
def f_X6_turn_m3 (g : Mem) (k : Nat) (p1 p2 : Int32) : Mem := up (f_X6_turn_m2 g k p1 p2) k (ix (f_X6_of p1 (4 : Int32))) (f_X6_least (99 : Int32) (((f_X6_turn_m2 g k p1 p2) k (ix (f_X6_of p1 (4 : Int32)))) + (1 : Int32)))
def f_X6_turn_m4 (g : Mem) (k : Nat) (p1 p2 : Int32) : Mem := up (f_X6_turn_m3 g k p1 p2) k (ix (f_X6_of p2 (5 : Int32))) (f_X6_least (99 : Int32) (((f_X6_turn_m3 g k p1 p2) k (ix (f_X6_of p2 (5 : Int32)))) + (1 : Int32)))
def f_X6_turn_m5 (g : Mem) (k : Nat) (p1 p2 : Int32) : Mem := up (f_X6_turn_m4 g k p1 p2) k 1 (((f_X6_turn_m4 g k p1 p2) k 1) - (1 : Int32))
def f_X6_turn_m6 (g : Mem) (k : Nat) (p1 p2 : Int32) : Mem := up (f_X6_turn_m5 g k p1 p2) k 2 (((f_X6_turn_m5 g k p1 p2) k 2) + (1 : Int32))
def f_X6_turn (g : Mem) (k : Nat) (p1 p2 : Int32) : Int32 × Mem := ((f_X6_joysOf g k p1 p2), (f_X6_turn_m6 g k p1 p2))
def r_X6_turn (g : Mem) (k : Nat) (p1 p2 : Int32) : Int32 := (f_X6_turn g k p1 p2).1
def m_X6_turn (g : Mem) (k : Nat) (p1 p2 : Int32) : Mem := (f_X6_turn g k p1 p2).2
theorem e_X6_turn (g : Mem) (k : Nat) (p1 p2 : Int32) : (r_X6_turn g k p1 p2, m_X6_turn g k p1 p2) = f_X6_turn g k p1 p2 := by unfold r_X6_turn m_X6_turn; exact pmk_eta _
theorem yk_X6_turn : yokS yX6_turn RX6 cX6_turn 4 (some .int) 3 := ⟨w_912, w_911, w_8, by decide +kernel⟩
set_option maxHeartbeats 4000000 in
set_option maxRecDepth 100000 in
theorem c_X6_turn (l : Launch) (z : ZM) (g : Mem) (k : Nat) (hk : rw4 k) (p1 p2 : Int32) (hv1 : vp_in p1 9) (hv2 : vp_in p2 9) : ctM l yX6_turn cX6_turn 4 (some .int) 4 86 z g [.ref (yad z k), .int p1, .int p2] (qIM z (r_X6_turn g k p1 p2, m_X6_turn g k p1 p2)) := by
  rw [e_X6_turn]
  refine ct_of (own := RX6) (q := fun r => qIM z r) (res := f_X6_turn g k p1 p2) (lv := [(0, .ref (yad z k)), (1, .int p1), (2, .int p2)]) enokM rfl (by decide) (Nat.le_of_ble_eq_true rfl) rfl (fun p e s m args below meth c C0 hrt hlk => ?_)
  unfold f_X6_turn
  refine j_aload_n C0 0 dX6_turn_0 rfl rfl ?_
  refine j_iload_n C0 1 dX6_turn_1 rfl rfl ?_
  refine j_iload_n C0 2 dX6_turn_2 rfl rfl ?_
  refine j_callSi C0 (c_X6_joysOf l z _ k hk _ _ hv1 hv2) yk_X6_joysOf w_913 ⟨Nat.le_of_ble_eq_true rfl, Nat.le_of_ble_eq_true rfl⟩ rfl rfl (Nat.le_of_ble_eq_true rfl) dX6_turn_3 ?_
  refine j_istore_n C0 (lv' := [(3, _), (0, _), (1, _), (2, _)]) dX6_turn_6 rfl (by decide) rfl ?_
  refine j_aload_n C0 1 dX6_turn_7 rfl rfl ?_
  refine j_iload_n C0 2 dX6_turn_8 rfl rfl ?_
  refine j_iconst C0 (v := 2) dX6_turn_9 (by decide) ?_
  refine j_callSi C0 (c_X6_of l z _ _ _) yk_X6_of w_897 ⟨Nat.le_of_ble_eq_true rfl, Nat.le_of_ble_eq_true rfl⟩ rfl rfl (Nat.le_of_ble_eq_true rfl) dX6_turn_10 ?_
  refine j_dup2 C0 dX6_turn_13 rfl rfl ?_
  refine a_M C0 (rw4_14 hk) (vin4 hk (of_in2 hv1)) dX6_turn_14 ?_
  refine j_aload_n C0 1 dX6_turn_15 rfl rfl ?_
  refine j_iload_n C0 2 dX6_turn_16 rfl rfl ?_
  refine j_callSi C0 (c_X6_bites l z _ k hk _ hv1) yk_X6_bites w_919 ⟨Nat.le_of_ble_eq_true rfl, Nat.le_of_ble_eq_true rfl⟩ rfl rfl (Nat.le_of_ble_eq_true rfl) dX6_turn_17 ?_
  refine j_isub C0 dX6_turn_20 ?_
  refine s_M C0 (rw4_14 hk) (vin4 hk (of_in2 hv1)) dX6_turn_21 ?_
  refine j_aload_n C0 1 dX6_turn_22 rfl rfl ?_
  refine j_iload_n C0 3 dX6_turn_23 rfl rfl ?_
  refine j_iconst C0 (v := 3) dX6_turn_24 (by decide) ?_
  refine j_callSi C0 (c_X6_of l z _ _ _) yk_X6_of w_897 ⟨Nat.le_of_ble_eq_true rfl, Nat.le_of_ble_eq_true rfl⟩ rfl rfl (Nat.le_of_ble_eq_true rfl) dX6_turn_25 ?_
  refine j_dup2 C0 dX6_turn_28 rfl rfl ?_
  refine a_M C0 (rw4_14 hk) (vin4 hk (of_in3 hv2)) dX6_turn_29 ?_
  refine j_aload_n C0 1 dX6_turn_30 rfl rfl ?_
  refine j_iload_n C0 3 dX6_turn_31 rfl rfl ?_
  refine j_callSi C0 (c_X6_gazes l z _ k hk _ hv2) yk_X6_gazes w_934 ⟨Nat.le_of_ble_eq_true rfl, Nat.le_of_ble_eq_true rfl⟩ rfl rfl (Nat.le_of_ble_eq_true rfl) dX6_turn_32 ?_
  refine j_isub C0 dX6_turn_35 ?_
  refine s_M C0 (rw4_14 hk) (vin4 hk (of_in3 hv2)) dX6_turn_36 ?_
  refine j_aload_n C0 1 dX6_turn_37 rfl rfl ?_
  refine j_iload_n C0 2 dX6_turn_38 rfl rfl ?_
  refine j_iconst C0 (v := 4) dX6_turn_39 (by decide) ?_
  refine j_callSi C0 (c_X6_of l z _ _ _) yk_X6_of w_897 ⟨Nat.le_of_ble_eq_true rfl, Nat.le_of_ble_eq_true rfl⟩ rfl rfl (Nat.le_of_ble_eq_true rfl) dX6_turn_40 ?_
  refine j_bipush C0 (v := 99) dX6_turn_43 (by decide) ?_
  refine j_aload_n C0 1 dX6_turn_45 rfl rfl ?_
  refine j_iload_n C0 2 dX6_turn_46 rfl rfl ?_
  refine j_iconst C0 (v := 4) dX6_turn_47 (by decide) ?_
  refine j_callSi C0 (c_X6_of l z _ _ _) yk_X6_of w_897 ⟨Nat.le_of_ble_eq_true rfl, Nat.le_of_ble_eq_true rfl⟩ rfl rfl (Nat.le_of_ble_eq_true rfl) dX6_turn_48 ?_
  refine a_M C0 (rw4_14 hk) (vin4 hk (of_in4 hv1)) dX6_turn_51 ?_
  refine j_iconst C0 (v := 1) dX6_turn_52 (by decide) ?_
  refine j_iadd C0 dX6_turn_53 ?_
  refine j_callSi C0 (c_X6_least l z _ _ _) yk_X6_least w_925 ⟨Nat.le_of_ble_eq_true rfl, Nat.le_of_ble_eq_true rfl⟩ rfl rfl (Nat.le_of_ble_eq_true rfl) dX6_turn_54 ?_
  refine s_M C0 (rw4_14 hk) (vin4 hk (of_in4 hv1)) dX6_turn_57 ?_
  refine j_aload_n C0 1 dX6_turn_58 rfl rfl ?_
  refine j_iload_n C0 3 dX6_turn_59 rfl rfl ?_
  refine j_iconst C0 (v := 5) dX6_turn_60 (by decide) ?_
  refine j_callSi C0 (c_X6_of l z _ _ _) yk_X6_of w_897 ⟨Nat.le_of_ble_eq_true rfl, Nat.le_of_ble_eq_true rfl⟩ rfl rfl (Nat.le_of_ble_eq_true rfl) dX6_turn_61 ?_
  refine j_bipush C0 (v := 99) dX6_turn_64 (by decide) ?_
  refine j_aload_n C0 1 dX6_turn_66 rfl rfl ?_
  refine j_iload_n C0 3 dX6_turn_67 rfl rfl ?_
  refine j_iconst C0 (v := 5) dX6_turn_68 (by decide) ?_
  refine j_callSi C0 (c_X6_of l z _ _ _) yk_X6_of w_897 ⟨Nat.le_of_ble_eq_true rfl, Nat.le_of_ble_eq_true rfl⟩ rfl rfl (Nat.le_of_ble_eq_true rfl) dX6_turn_69 ?_
  refine a_M C0 (rw4_14 hk) (vin4 hk (of_in5 hv2)) dX6_turn_72 ?_
  refine j_iconst C0 (v := 1) dX6_turn_73 (by decide) ?_
  refine j_iadd C0 dX6_turn_74 ?_
  refine j_callSi C0 (c_X6_least l z _ _ _) yk_X6_least w_925 ⟨Nat.le_of_ble_eq_true rfl, Nat.le_of_ble_eq_true rfl⟩ rfl rfl (Nat.le_of_ble_eq_true rfl) dX6_turn_75 ?_
  refine s_M C0 (rw4_14 hk) (vin4 hk (of_in5 hv2)) dX6_turn_78 ?_
  refine j_aload_n C0 1 dX6_turn_79 rfl rfl ?_
  refine j_iconst C0 (v := 1) dX6_turn_80 (by decide) ?_
  refine j_dup2 C0 dX6_turn_81 rfl rfl ?_
  refine a_Ml C0 (rw4_14 hk) ixl_1 (vin4 hk vl57_1) dX6_turn_82 ?_
  refine j_iconst C0 (v := 1) dX6_turn_83 (by decide) ?_
  refine j_isub C0 dX6_turn_84 ?_
  refine s_Ml C0 (rw4_14 hk) ixl_1 (vin4 hk vl57_1) dX6_turn_85 ?_
  refine j_aload_n C0 1 dX6_turn_86 rfl rfl ?_
  refine j_iconst C0 (v := 2) dX6_turn_87 (by decide) ?_
  refine j_dup2 C0 dX6_turn_88 rfl rfl ?_
  refine a_Ml C0 (rw4_14 hk) ixl_2 (vin4 hk vl57_2) dX6_turn_89 ?_
  refine j_iconst C0 (v := 1) dX6_turn_90 (by decide) ?_
  refine j_iadd C0 dX6_turn_91 ?_
  refine s_Ml C0 (rw4_14 hk) ixl_2 (vin4 hk vl57_2) dX6_turn_92 ?_
  refine j_iload_n C0 0 dX6_turn_93 rfl rfl ?_
  exact j_iretM C0 hrt hlk dX6_turn_94
theorem of_pos {p c : Int32} (hp : vp_in p 9) (hc : vp_in c 6) : ix (f_X6_of p c) ≠ 0 := by rw [ix_of hp hc]; omega
theorem InM_upI {g : Mem} (h : InM g) {k f : Nat} {v : Int32} (hk : rw4 k) (hf : f ≠ 0) : InM (up g k f v) := InM_up h (by omega) (by omega) (by have := hk.2; omega)
theorem InM_turn {g : Mem} (h : InM g) {k : Nat} (hk : rw4 k) {p0 p1 : Int32} (h0 : vp_in p0 9) (h1 : vp_in p1 9) : InM (m_X6_turn g k p0 p1) :=
  InM_upI (InM_upI (InM_upI (InM_upI (InM_upI (InM_upI h hk (of_pos h0 (by unfold vp_in; decide))) hk (of_pos h1 (by unfold vp_in; decide))) hk (of_pos h0 (by unfold vp_in; decide))) hk (of_pos h1 (by unfold vp_in; decide))) hk (by decide)) hk (by decide)

