def f_X0_takeIn_m1 (g : Mem) (t : Nat) (w p1 p2 p3 : Int32) : Mem := up (f_X3_comeAs g (8 * t + ix (g (40 + t) 1)) w p1) (8 * t + ix (g (40 + t) 1)) 4 p2
def f_X0_takeIn_m2 (g : Mem) (t : Nat) (w p1 p2 p3 : Int32) : Mem := up (f_X0_takeIn_m1 g t w p1 p2 p3) (8 * t + ix (g (40 + t) 1)) 5 p3
def f_X0_takeIn_m3 (g : Mem) (t : Nat) (w p1 p2 p3 : Int32) : Mem := up (f_X0_takeIn_m2 g t w p1 p2 p3) (40 + t) 1 (((f_X0_takeIn_m2 g t w p1 p2 p3) (40 + t) 1) + (1 : Int32))
def f_X0_takeIn (g : Mem) (t : Nat) (w p1 p2 p3 : Int32) : Int32 × Mem := if (g (40 + t) 1) < (8 : Int32) then (((1 : Int32), (f_X0_takeIn_m3 g t w p1 p2 p3))) else (((0 : Int32), g))
def r_X0_takeIn (g : Mem) (t : Nat) (w p1 p2 p3 : Int32) : Int32 := (f_X0_takeIn g t w p1 p2 p3).1
def m_X0_takeIn (g : Mem) (t : Nat) (w p1 p2 p3 : Int32) : Mem := (f_X0_takeIn g t w p1 p2 p3).2
theorem e_X0_takeIn (g : Mem) (t : Nat) (w p1 p2 p3 : Int32) : (r_X0_takeIn g t w p1 p2 p3, m_X0_takeIn g t w p1 p2 p3) = f_X0_takeIn g t w p1 p2 p3 := by unfold r_X0_takeIn m_X0_takeIn; exact pmk_eta _
theorem b01m_X0_takeIn (g : Mem) (t : Nat) (w p1 p2 p3 : Int32) : r_X0_takeIn g t w p1 p2 p3 = 0 ∨ r_X0_takeIn g t w p1 p2 p3 = 1 := by
  unfold r_X0_takeIn f_X0_takeIn
  repeat' split
  all_goals first | (with_reducible exact Or.inl rfl) | (with_reducible exact Or.inr rfl) | assumption
theorem yk_X0_takeIn : yokV yX0_takeIn RX0 cX0_takeIn 6 (some .boolean) 4 := ⟨w_251, w_249, w_250, w_2, by decide +kernel⟩
set_option maxHeartbeats 4000000 in
set_option maxRecDepth 100000 in
theorem c_X0_takeIn (l : Launch) (z : ZC) (g : Mem) (t : Nat) (ht : t < 3) (w p1 p2 p3 : Int32) (hw : vp_in w 8) (hI : In g) : ctC l yX0_takeIn cX0_takeIn 6 (some .boolean) 2 43 z g [.ref (zad z (40 + t)), .ref (zaE z (ix w)), .int p1, .int p2, .int p3] (qIC z (r_X0_takeIn g t w p1 p2 p3, m_X0_takeIn g t w p1 p2 p3)) := by
  rw [e_X0_takeIn]
  refine ct_of (own := RX0) (q := fun r => qIC z r) (res := f_X0_takeIn g t w p1 p2 p3) (lv := [(0, .ref (zad z (40 + t))), (1, .ref (zaE z (ix w))), (2, .int p1), (3, .int p2), (4, .int p3)]) (enokC z) rfl (by decide) (Nat.le_of_ble_eq_true rfl) rfl (fun p e s m args below meth c C0 hrt hlk => ?_)
  unfold f_X0_takeIn
  refine j_aload_n C0 0 dX0_takeIn_0 rfl rfl ?_
  refine g_Fete_size C0 ht w_84 dX0_takeIn_1 ?_
  refine j_bipush C0 (v := 8) dX0_takeIn_4 (by decide) ?_
  refine j_icmp_lt C0 11 dX0_takeIn_6 (by decide) (fun c_6 => ?_) (fun c_6 => ?_)
  · have hvs : vp_in (g (40 + t) 1) 8 := vin_of (In_sz0 hI ht) (by have h1 := Int32.lt_iff_toInt_lt.mp c_6; have h8 : (8 : Int32).toInt = 8 := rfl; omega)
    refine j_aload_n C0 0 dX0_takeIn_11 rfl rfl ?_
    refine g_Fete_people C0 ht w_81 dX0_takeIn_12 ?_
    refine j_aload_n C0 0 dX0_takeIn_15 rfl rfl ?_
    refine g_Fete_size C0 ht w_84 dX0_takeIn_16 ?_
    refine a_people C0 ht hvs dX0_takeIn_19 ?_
    refine j_astore C0 (lv' := [(5, _), (0, _), (1, _), (2, _), (3, _), (4, _)]) dX0_takeIn_20 (by decide) rfl ?_
    refine j_aload C0 0 dX0_takeIn_22 rfl ?_
    refine j_aload_n C0 2 dX0_takeIn_24 rfl rfl ?_
    refine j_iload_n C0 3 dX0_takeIn_25 rfl rfl ?_
    refine j_callVv C0 (c_X3_comeAs l z _ (8 * t + ix (g (40 + t) 1)) (vin_pk ht hvs) _ _ hw hI) yk_X3_comeAs w_252 (fun H locs hP _ => recvW C0 hP _ (Nat.lt_of_lt_of_le (vin_pk ht hvs) (by decide)) (cel_person (vin_pk ht hvs)) rfl) ⟨Nat.le_of_ble_eq_true rfl, Nat.le_of_ble_eq_true rfl⟩ rfl rfl (Nat.le_of_ble_eq_true rfl) dX0_takeIn_26 ?_
    refine j_aload C0 0 dX0_takeIn_29 rfl ?_
    refine j_iload_n C0 4 dX0_takeIn_31 rfl rfl ?_
    refine p_Person_hunger C0 (vin_pk ht hvs) w_54 dX0_takeIn_32 ?_
    refine j_aload C0 0 dX0_takeIn_35 rfl ?_
    refine j_iload C0 5 dX0_takeIn_37 rfl ?_
    refine p_Person_wish C0 (vin_pk ht hvs) w_57 dX0_takeIn_39 ?_
    refine j_aload_n C0 1 dX0_takeIn_42 rfl rfl ?_
    refine j_dup C0 dX0_takeIn_43 rfl ?_
    refine g_Fete_size C0 ht w_84 dX0_takeIn_44 ?_
    refine j_iconst C0 (v := 1) dX0_takeIn_47 (by decide) ?_
    refine j_iadd C0 dX0_takeIn_48 ?_
    refine p_Fete_size C0 ht w_84 dX0_takeIn_49 ?_
    refine j_iconst C0 (v := 1) dX0_takeIn_52 (by decide) ?_
    exact j_zretM C0 hrt hlk (Or.inr rfl) dX0_takeIn_53
  · refine j_iconst C0 (v := 0) dX0_takeIn_9 (by decide) ?_
    exact j_zretM C0 hrt hlk (Or.inl rfl) dX0_takeIn_10
theorem comeAs_hi {g : Mem} {k k2 f : Nat} {w p1 : Int32} (h : k2 ≠ k) : f_X3_comeAs g k w p1 k2 f = g k2 f := by
  exact (up_ne (Or.inl h)).trans ((up_ne (Or.inl h)).trans ((up_ne (Or.inl h)).trans ((up_ne (Or.inl h)).trans ((up_ne (Or.inl h)).trans (up_ne (Or.inl h))))))
theorem In_takeIn {g : Mem} (hI : In g) {t : Nat} (ht : t < 3) {w p1 p2 p3 : Int32} (hw : vp_in w 8) : In (m_X0_takeIn g t w p1 p2 p3) := by
  unfold m_X0_takeIn f_X0_takeIn
  split
  · have hvs : vp_in (g (40 + t) 1) 8 := vin_of (In_sz0 hI ht) (by have h1 := Int32.lt_iff_toInt_lt.mp (by assumption); have h8 : (8 : Int32).toInt = 8 := rfl; omega)
    have k0 := vin_pk ht hvs
    have h1 := In_comeAs (p1 := p1) hI k0 hw
    have h2 : In (up (up (f_X3_comeAs g (8 * t + ix (g (40 + t) 1)) w p1) (8 * t + ix (g (40 + t) 1)) 4 p2) (8 * t + ix (g (40 + t) 1)) 5 p3) := In_upP (In_upP h1 k0 (by decide)) k0 (by decide)
    have e : f_X0_takeIn_m2 g t w p1 p2 p3 (40 + t) 1 = g (40 + t) 1 := (up_ne (by omega)).trans ((up_ne (by omega)).trans (comeAs_hi (by omega)))
    refine In_upFs h2 ht ?_ ?_
    · rw [e]
      have := vp_in_iff.mp hvs
      have h3 : (g (40 + t) 1).toInt < (8 : Int32).toInt := this.2
      rw [inc_toInt this.1 h3]
      omega
    · rw [e]
      have := vp_in_iff.mp hvs
      have h3 : (g (40 + t) 1).toInt < (8 : Int32).toInt := this.2
      rw [inc_toInt this.1 h3]
      omega
  · exact hI
theorem becomesP_hi {g : Mem} {k k2 k3 f : Nat} (h : k3 ≠ k) : f_X3_becomes g k k2 k3 f = g k3 f := by
  exact (up_ne (Or.inl h)).trans ((up_ne (Or.inl h)).trans ((up_ne (Or.inl h)).trans ((up_ne (Or.inl h)).trans ((up_ne (Or.inl h)).trans ((up_ne (Or.inl h)).trans ((up_ne (Or.inl h)).trans (up_ne (Or.inl h))))))))
theorem becomesP_fete {g : Mem} {k k2 t f : Nat} (h : k < 24) : f_X3_becomes g k k2 (40 + t) f = g (40 + t) f := becomesP_hi (by omega)

