def f_X0_bestLookerAt_8 (g : Mem) (t : Nat) (p0 : Int32) : Nat → Int32 → Int32 → Int32 → Int32
  | 0, _, _, _ => 0
  | n0 + 1, a2, a3, a4 => if (g (40 + t) 1) ≤ a4 then (a2) else (if (f_X0_canEat g t p0 a4) = 0 then (f_X0_bestLookerAt_8 g t p0 n0 a2 a3 (a4 + (1 : Int32))) else (if (f_X0_joysOf g t p0 a4) ≤ a3 then (f_X0_bestLookerAt_8 g t p0 n0 a2 a3 (a4 + (1 : Int32))) else (f_X0_bestLookerAt_8 g t p0 n0 a4 (f_X0_joysOf g t p0 a4) (a4 + (1 : Int32)))))
def f_X0_bestLookerAt (g : Mem) (t : Nat) (p0 : Int32) : Int32 := f_X0_bestLookerAt_8 g t p0 9 (-4 : Int32) (-1 : Int32) (0 : Int32)
theorem yk_X0_bestLookerAt : yokV yX0_bestLookerAt RX0 cX0_bestLookerAt 5 (some .int) 1 := ⟨w_388, w_386, w_387, w_2, by decide +kernel⟩
set_option maxHeartbeats 4000000 in
set_option maxRecDepth 100000 in
theorem c_X0_bestLookerAt (l : Launch) (z : ZC) (g : Mem) (t : Nat) (ht : t < 3) (p0 : Int32) (hI : In g) : ctC l yX0_bestLookerAt cX0_bestLookerAt 5 (some .int) 4 78 z g [.ref (zad z (40 + t)), .int p0] (qIC z (f_X0_bestLookerAt g t p0, g)) := by
  refine ct_of (own := RX0) (q := fun r => qIC z (r, g)) (res := f_X0_bestLookerAt g t p0) (lv := [(0, .ref (zad z (40 + t))), (1, .int p0)]) (enokC z) rfl (by decide) (Nat.le_of_ble_eq_true rfl) rfl (fun p e s m args below meth c C0 hrt hlk => ?_)
  unfold f_X0_bestLookerAt
  refine j_bipush C0 (v := (-4)) dX0_bestLookerAt_0 (by decide) ?_
  refine j_istore_n C0 (lv' := [(2, _), (0, _), (1, _)]) dX0_bestLookerAt_2 rfl (by decide) rfl ?_
  refine j_iconst C0 (v := (-1)) dX0_bestLookerAt_3 (by decide) ?_
  refine j_istore_n C0 (lv' := [(3, _), (2, _), (0, _), (1, _)]) dX0_bestLookerAt_4 rfl (by decide) rfl ?_
  refine j_iconst C0 (v := 0) dX0_bestLookerAt_5 (by decide) ?_
  refine j_istore C0 (lv' := [(4, _), (3, _), (2, _), (0, _), (1, _)]) dX0_bestLookerAt_6 (by decide) rfl ?_
  have L8 : ∀ (n0 : Nat) (a2 : Int32) (a3 : Int32) (a4 : Int32), lc a4 (g (40 + t) 1) n0 → jj p l e { frames := 4, cells := 0, slots := 0, locals := 78 } s m args below meth c (zA z) (zD z) 52 (zad z) (celC z) 5 (fun r => MQ below (qIC z (r, g)) args s 0 0 (zA z)) (f_X0_bestLookerAt_8 g t p0 n0 a2 a3 a4) g 8 [(0, .ref (zad z (40 + t))), (1, .int p0), (2, .int a2), (3, .int a3), (4, .int a4)] [] := by
    intro n0
    induction n0 with
    | zero => intro a2 a3 a4 hL; exact absurd hL.2 (Nat.not_lt_zero _)
    | succ n0 ih0 =>
      intro a2 a3 a4 hL
      rw [f_X0_bestLookerAt_8]
      refine j_iload C0 4 dX0_bestLookerAt_8 rfl ?_
      refine j_aload_n C0 0 dX0_bestLookerAt_10 rfl rfl ?_
      refine g_Fete_size C0 ht w_84 dX0_bestLookerAt_11 ?_
      refine j_icmp_ge C0 55 dX0_bestLookerAt_14 (by decide) (fun c_14 => ?_) (fun c_14 => ?_)
      · refine j_iload_n C0 2 dX0_bestLookerAt_55 rfl rfl ?_
        exact j_iretP C0 hrt hlk dX0_bestLookerAt_56
      · refine j_aload_n C0 0 dX0_bestLookerAt_17 rfl rfl ?_
        refine j_iload_n C0 1 dX0_bestLookerAt_18 rfl rfl ?_
        refine j_iload C0 4 dX0_bestLookerAt_19 rfl ?_
        refine j_callVi C0 (c_X0_canEat l z _ t ht _ _ hI) yk_X0_canEat w_278 (fun H locs hP _ => recvW C0 hP _ (by have := ht; omega) (cel_fete ht) rfl) ⟨Nat.le_of_ble_eq_true rfl, Nat.le_of_ble_eq_true rfl⟩ rfl rfl (Nat.le_of_ble_eq_true rfl) dX0_bestLookerAt_21 ?_
        refine j_if_eq C0 49 dX0_bestLookerAt_24 (by decide) (fun c_24 => ?_) (fun c_24 => ?_)
        · refine j_iinc C0 (lv' := [(4, _), (0, _), (1, _), (2, _), (3, _)]) (v := _ + (1)) 4 dX0_bestLookerAt_49 rfl (by rfl) (by decide) rfl ?_
          refine j_goto C0 8 dX0_bestLookerAt_52 (by decide) ?_
          exact j_sub [1, 2, 3, 4, 0] rfl (ih0 _ _ _ (lc_stepN hL c_14))
        · have hv1 := (canEat_in hI ht c_24).1
          have hv2 := (canEat_in hI ht c_24).2
          refine j_aload_n C0 0 dX0_bestLookerAt_27 rfl rfl ?_
          refine j_iload_n C0 1 dX0_bestLookerAt_28 rfl rfl ?_
          refine j_iload C0 4 dX0_bestLookerAt_29 rfl ?_
          refine j_callVi C0 (c_X0_joysOf l z _ t ht _ _ hv1 hv2 hI) yk_X0_joysOf w_300 (fun H locs hP _ => recvW C0 hP _ (by have := ht; omega) (cel_fete ht) rfl) ⟨Nat.le_of_ble_eq_true rfl, Nat.le_of_ble_eq_true rfl⟩ rfl rfl (Nat.le_of_ble_eq_true rfl) dX0_bestLookerAt_31 ?_
          refine j_iload_n C0 3 dX0_bestLookerAt_34 rfl rfl ?_
          refine j_icmp_le C0 49 dX0_bestLookerAt_35 (by decide) (fun c_35 => ?_) (fun c_35 => ?_)
          · refine j_iinc C0 (lv' := [(4, _), (0, _), (1, _), (2, _), (3, _)]) (v := _ + (1)) 4 dX0_bestLookerAt_49 rfl (by rfl) (by decide) rfl ?_
            refine j_goto C0 8 dX0_bestLookerAt_52 (by decide) ?_
            exact j_sub [1, 2, 3, 4, 0] rfl (ih0 _ _ _ (lc_stepN hL c_14))
          · refine j_aload_n C0 0 dX0_bestLookerAt_38 rfl rfl ?_
            refine j_iload_n C0 1 dX0_bestLookerAt_39 rfl rfl ?_
            refine j_iload C0 4 dX0_bestLookerAt_40 rfl ?_
            refine j_callVi C0 (c_X0_joysOf l z _ t ht _ _ hv1 hv2 hI) yk_X0_joysOf w_300 (fun H locs hP _ => recvW C0 hP _ (by have := ht; omega) (cel_fete ht) rfl) ⟨Nat.le_of_ble_eq_true rfl, Nat.le_of_ble_eq_true rfl⟩ rfl rfl (Nat.le_of_ble_eq_true rfl) dX0_bestLookerAt_42 ?_
            refine j_istore_n C0 (lv' := [(3, _), (0, _), (1, _), (2, _), (4, _)]) dX0_bestLookerAt_45 rfl (by decide) rfl ?_
            refine j_iload C0 4 dX0_bestLookerAt_46 rfl ?_
            refine j_istore_n C0 (lv' := [(2, _), (3, _), (0, _), (1, _), (4, _)]) dX0_bestLookerAt_48 rfl (by decide) rfl ?_
            refine j_iinc C0 (lv' := [(4, _), (2, _), (3, _), (0, _), (1, _)]) (v := _ + (1)) 4 dX0_bestLookerAt_49 rfl (by rfl) (by decide) rfl ?_
            refine j_goto C0 8 dX0_bestLookerAt_52 (by decide) ?_
            exact j_sub [3, 4, 1, 2, 0] rfl (ih0 _ _ _ (lc_stepN hL c_14))
  exact j_sub [3, 4, 2, 1, 0] rfl (L8 9 _ _ _ (lc_0 (by have := (In_sz hI ht); omega) (by decide)))
theorem bestLookerAt_inL {g : Mem} (hI : In g) {t : Nat} (ht : t < 3) (p0 : Int32) : ∀ (n : Nat) (a2 a3 a4 : Int32), (a2 < 0 ∨ vp_in a2 8) → (f_X0_bestLookerAt_8 g t p0 n a2 a3 a4 < 0 ∨ vp_in (f_X0_bestLookerAt_8 g t p0 n a2 a3 a4) 8) := by
  intro n
  induction n with
  | zero => intro a2 a3 a4 h; right; exact vin_lit0
  | succ n ih =>
    intro a2 a3 a4 h
    rw [f_X0_bestLookerAt_8]
    split
    · exact h
    · split
      · exact ih _ _ _ h
      · split
        · exact ih _ _ _ h
        · exact ih _ _ _ (Or.inr (canEat_in hI ht (by assumption)).2)
theorem bestLookerAt_in {g : Mem} (hI : In g) {t : Nat} (ht : t < 3) {p0 : Int32} (c : ¬ f_X0_bestLookerAt g t p0 < 0) : vp_in (f_X0_bestLookerAt g t p0) 8 :=
  (bestLookerAt_inL hI ht p0 9 (-4) (-1) 0 (Or.inl (by decide))).resolve_left c

def f_X0_bestTurn_7 (g : Mem) (t : Nat) : Nat → Int32 → Int32 → Int32 → Int32
  | 0, _, _, _ => 0
  | n0 + 1, a1, a2, a3 => if (g (40 + t) 1) ≤ a3 then (a1) else (if (f_X0_bestLookerAt g t a3) < 0 then (f_X0_bestTurn_7 g t n0 a1 a2 (a3 + (1 : Int32))) else (if (f_X0_joysOf g t a3 (f_X0_bestLookerAt g t a3)) ≤ a2 then (f_X0_bestTurn_7 g t n0 a1 a2 (a3 + (1 : Int32))) else (f_X0_bestTurn_7 g t n0 (((10 : Int32) * a3) + (f_X0_bestLookerAt g t a3)) (f_X0_joysOf g t a3 (f_X0_bestLookerAt g t a3)) (a3 + (1 : Int32)))))
def f_X0_bestTurn (g : Mem) (t : Nat) : Int32 := f_X0_bestTurn_7 g t 9 (-4 : Int32) (-1 : Int32) (0 : Int32)
theorem yk_X0_bestTurn : yokV yX0_bestTurn RX0 cX0_bestTurn 5 (some .int) 0 := ⟨w_384, w_382, w_383, w_2, by decide +kernel⟩
set_option maxHeartbeats 4000000 in
set_option maxRecDepth 100000 in
theorem c_X0_bestTurn (l : Launch) (z : ZC) (g : Mem) (t : Nat) (ht : t < 3) (hI : In g) : ctC l yX0_bestTurn cX0_bestTurn 5 (some .int) 5 102 z g [.ref (zad z (40 + t))] (qIC z (f_X0_bestTurn g t, g)) := by
  refine ct_of (own := RX0) (q := fun r => qIC z (r, g)) (res := f_X0_bestTurn g t) (lv := [(0, .ref (zad z (40 + t)))]) (enokC z) rfl (by decide) (Nat.le_of_ble_eq_true rfl) rfl (fun p e s m args below meth c C0 hrt hlk => ?_)
  unfold f_X0_bestTurn
  refine j_bipush C0 (v := (-4)) dX0_bestTurn_0 (by decide) ?_
  refine j_istore_n C0 (lv' := [(1, _), (0, _)]) dX0_bestTurn_2 rfl (by decide) rfl ?_
  refine j_iconst C0 (v := (-1)) dX0_bestTurn_3 (by decide) ?_
  refine j_istore_n C0 (lv' := [(2, _), (1, _), (0, _)]) dX0_bestTurn_4 rfl (by decide) rfl ?_
  refine j_iconst C0 (v := 0) dX0_bestTurn_5 (by decide) ?_
  refine j_istore_n C0 (lv' := [(3, _), (2, _), (1, _), (0, _)]) dX0_bestTurn_6 rfl (by decide) rfl ?_
  have L7 : ∀ (n0 : Nat) (a1 : Int32) (a2 : Int32) (a3 : Int32), lc a3 (g (40 + t) 1) n0 → jj p l e { frames := 5, cells := 0, slots := 0, locals := 102 } s m args below meth c (zA z) (zD z) 52 (zad z) (celC z) 5 (fun r => MQ below (qIC z (r, g)) args s 0 0 (zA z)) (f_X0_bestTurn_7 g t n0 a1 a2 a3) g 7 [(0, .ref (zad z (40 + t))), (1, .int a1), (2, .int a2), (3, .int a3)] [] := by
    intro n0
    induction n0 with
    | zero => intro a1 a2 a3 hL; exact absurd hL.2 (Nat.not_lt_zero _)
    | succ n0 ih0 =>
      intro a1 a2 a3 hL
      rw [f_X0_bestTurn_7]
      refine j_iload_n C0 3 dX0_bestTurn_7 rfl rfl ?_
      refine j_aload_n C0 0 dX0_bestTurn_8 rfl rfl ?_
      refine g_Fete_size C0 ht w_84 dX0_bestTurn_9 ?_
      refine j_icmp_ge C0 60 dX0_bestTurn_12 (by decide) (fun c_12 => ?_) (fun c_12 => ?_)
      · refine j_iload_n C0 1 dX0_bestTurn_60 rfl rfl ?_
        exact j_iretP C0 hrt hlk dX0_bestTurn_61
      · have hv_a3 : vp_in a3 8 := vin_lc hL c_12 (In_sz hI ht)
        refine j_aload_n C0 0 dX0_bestTurn_15 rfl rfl ?_
        refine j_iload_n C0 3 dX0_bestTurn_16 rfl rfl ?_
        refine j_callVi C0 (c_X0_bestLookerAt l z _ t ht _ hI) yk_X0_bestLookerAt w_385 (fun H locs hP _ => recvW C0 hP _ (by have := ht; omega) (cel_fete ht) rfl) ⟨Nat.le_of_ble_eq_true rfl, Nat.le_of_ble_eq_true rfl⟩ rfl rfl (Nat.le_of_ble_eq_true rfl) dX0_bestTurn_17 ?_
        refine j_istore C0 (lv' := [(4, _), (0, _), (1, _), (2, _), (3, _)]) dX0_bestTurn_20 (by decide) rfl ?_
        refine j_iload C0 0 dX0_bestTurn_22 rfl ?_
        refine j_if_lt C0 54 dX0_bestTurn_24 (by decide) (fun c_24 => ?_) (fun c_24 => ?_)
        · refine j_iinc C0 (lv' := [(3, _), (4, _), (0, _), (1, _), (2, _)]) (v := _ + (1)) 4 dX0_bestTurn_54 rfl (by rfl) (by decide) rfl ?_
          refine j_goto C0 7 dX0_bestTurn_57 (by decide) ?_
          exact j_sub [2, 3, 4, 0] rfl (ih0 _ _ _ (lc_stepN hL c_12))
        · have hv_l := bestLookerAt_in hI ht c_24
          refine j_aload_n C0 1 dX0_bestTurn_27 rfl rfl ?_
          refine j_iload_n C0 4 dX0_bestTurn_28 rfl rfl ?_
          refine j_iload C0 0 dX0_bestTurn_29 rfl ?_
          refine j_callVi C0 (c_X0_joysOf l z _ t ht _ _ hv_a3 hv_l hI) yk_X0_joysOf w_300 (fun H locs hP _ => recvW C0 hP _ (by have := ht; omega) (cel_fete ht) rfl) ⟨Nat.le_of_ble_eq_true rfl, Nat.le_of_ble_eq_true rfl⟩ rfl rfl (Nat.le_of_ble_eq_true rfl) dX0_bestTurn_31 ?_
          refine j_iload_n C0 3 dX0_bestTurn_34 rfl rfl ?_
          refine j_icmp_le C0 54 dX0_bestTurn_35 (by decide) (fun c_35 => ?_) (fun c_35 => ?_)
          · refine j_iinc C0 (lv' := [(3, _), (4, _), (0, _), (1, _), (2, _)]) (v := _ + (1)) 4 dX0_bestTurn_54 rfl (by rfl) (by decide) rfl ?_
            refine j_goto C0 7 dX0_bestTurn_57 (by decide) ?_
            exact j_sub [2, 3, 4, 0] rfl (ih0 _ _ _ (lc_stepN hL c_12))
          · refine j_aload_n C0 1 dX0_bestTurn_38 rfl rfl ?_
            refine j_iload_n C0 4 dX0_bestTurn_39 rfl rfl ?_
            refine j_iload C0 0 dX0_bestTurn_40 rfl ?_
            refine j_callVi C0 (c_X0_joysOf l z _ t ht _ _ hv_a3 hv_l hI) yk_X0_joysOf w_300 (fun H locs hP _ => recvW C0 hP _ (by have := ht; omega) (cel_fete ht) rfl) ⟨Nat.le_of_ble_eq_true rfl, Nat.le_of_ble_eq_true rfl⟩ rfl rfl (Nat.le_of_ble_eq_true rfl) dX0_bestTurn_42 ?_
            refine j_istore_n C0 (lv' := [(2, _), (4, _), (0, _), (1, _), (3, _)]) dX0_bestTurn_45 rfl (by decide) rfl ?_
            refine j_bipush C0 (v := 10) dX0_bestTurn_46 (by decide) ?_
            refine j_iload_n C0 4 dX0_bestTurn_48 rfl rfl ?_
            refine j_imul C0 dX0_bestTurn_49 ?_
            refine j_iload C0 1 dX0_bestTurn_50 rfl ?_
            refine j_iadd C0 dX0_bestTurn_52 ?_
            refine j_istore_n C0 (lv' := [(1, _), (2, _), (4, _), (0, _), (3, _)]) dX0_bestTurn_53 rfl (by decide) rfl ?_
            refine j_iinc C0 (lv' := [(3, _), (1, _), (2, _), (4, _), (0, _)]) (v := _ + (1)) 4 dX0_bestTurn_54 rfl (by rfl) (by decide) rfl ?_
            refine j_goto C0 7 dX0_bestTurn_57 (by decide) ?_
            exact j_sub [4, 1, 2, 0] rfl (ih0 _ _ _ (lc_stepN hL c_12))
  exact j_sub [3, 2, 1, 0] rfl (L7 9 _ _ _ (lc_0 (by have := (In_sz hI ht); omega) (by decide)))
def f_X0_becomes_m1 (g : Mem) (t t2 : Nat) (g_2 : Mem) : Mem := up g_2 (40 + t) 1 (g_2 (40 + t2) 1)
def f_X0_becomes_m2 (g : Mem) (t t2 : Nat) (g_2 : Mem) : Mem := up (f_X0_becomes_m1 g t t2 g_2) (40 + t) 2 ((f_X0_becomes_m1 g t t2 g_2) (40 + t2) 2)
def f_X0_becomes_m3 (g : Mem) (t t2 : Nat) (g_2 : Mem) : Mem := up (f_X0_becomes_m2 g t t2 g_2) (40 + t) 3 ((f_X0_becomes_m2 g t t2 g_2) (40 + t2) 3)
def f_X0_becomes_2 (g : Mem) (t t2 : Nat) : Nat → Int32 → Mem → Mem
  | 0, _, _ => g
  | n0 + 1, a2, g_2 => if (g_2 (40 + t2) 1) ≤ a2 then ((f_X0_becomes_m3 g t t2 g_2)) else (f_X0_becomes_2 g t t2 n0 (a2 + (1 : Int32)) (f_X3_becomes g_2 (8 * t + ix a2) (8 * t2 + ix a2)))
def f_X0_becomes (g : Mem) (t t2 : Nat) : Mem := f_X0_becomes_2 g t t2 9 (0 : Int32) g
theorem yk_X0_becomes : yokV yX0_becomes RX0 cX0_becomes 3 none 1 := ⟨w_214, w_212, w_213, w_2, by decide +kernel⟩
set_option maxHeartbeats 4000000 in
set_option maxRecDepth 100000 in
theorem c_X0_becomes (l : Launch) (z : ZC) (g : Mem) (t : Nat) (ht : t < 3) (t2 : Nat) (ht2 : t2 < 3) (hI : In g) : ctC l yX0_becomes cX0_becomes 3 none 1 21 z g [.ref (zad z (40 + t)), .ref (zad z (40 + t2))] (qVC z (f_X0_becomes g t t2)) := by
  refine ct_of (own := RX0) (q := fun r => qVC z r) (res := f_X0_becomes g t t2) (lv := [(0, .ref (zad z (40 + t))), (1, .ref (zad z (40 + t2)))]) (enokC z) rfl (by decide) (Nat.le_of_ble_eq_true rfl) rfl (fun p e s m args below meth c C0 hrt hlk => ?_)
  unfold f_X0_becomes
  refine j_iconst C0 (v := 0) dX0_becomes_0 (by decide) ?_
  refine j_istore_n C0 (lv' := [(2, _), (0, _), (1, _)]) dX0_becomes_1 rfl (by decide) rfl ?_
  have L2 : ∀ (n0 : Nat) (a2 : Int32) (g_2 : Mem), lc a2 (g (40 + t2) 1) n0 → In g_2 → g_2 (40 + t2) 1 = g (40 + t2) 1 → jj p l e { frames := 1, cells := 0, slots := 0, locals := 21 } s m args below meth c (zA z) (zD z) 52 (zad z) (celC z) 3 (fun r => MQ below (qVC z r) args s 0 0 (zA z)) (f_X0_becomes_2 g t t2 n0 a2 g_2) g_2 2 [(0, .ref (zad z (40 + t))), (1, .ref (zad z (40 + t2))), (2, .int a2)] [] := by
    intro n0
    induction n0 with
    | zero => intro a2 g_2 hL hI2 hs; exact absurd hL.2 (Nat.not_lt_zero _)
    | succ n0 ih0 =>
      intro a2 g_2 hL hI2 hs
      rw [f_X0_becomes_2]
      refine j_iload_n C0 2 dX0_becomes_2 rfl rfl ?_
      refine j_aload_n C0 1 dX0_becomes_3 rfl rfl ?_
      refine g_Fete_size C0 ht2 w_84 dX0_becomes_4 ?_
      refine j_icmp_ge C0 31 dX0_becomes_7 (by decide) (fun c_7 => ?_) (fun c_7 => ?_)
      · refine j_aload_n C0 0 dX0_becomes_31 rfl rfl ?_
        refine j_aload_n C0 1 dX0_becomes_32 rfl rfl ?_
        refine g_Fete_size C0 ht2 w_84 dX0_becomes_33 ?_
        refine p_Fete_size C0 ht w_84 dX0_becomes_36 ?_
        refine j_aload_n C0 0 dX0_becomes_39 rfl rfl ?_
        refine j_aload_n C0 1 dX0_becomes_40 rfl rfl ?_
        refine g_Fete_slicesLeft C0 ht2 w_87 dX0_becomes_41 ?_
        refine p_Fete_slicesLeft C0 ht w_87 dX0_becomes_44 ?_
        refine j_aload_n C0 0 dX0_becomes_47 rfl rfl ?_
        refine j_aload_n C0 1 dX0_becomes_48 rfl rfl ?_
        refine g_Fete_step C0 ht2 w_89 dX0_becomes_49 ?_
        refine p_Fete_step C0 ht w_89 dX0_becomes_52 ?_
        exact j_vret C0 hrt hlk dX0_becomes_55
      · have hv_a2 : vp_in a2 8 := vin_lc hL (hs ▸ c_7) (In_sz hI ht2)
        refine j_aload_n C0 0 dX0_becomes_10 rfl rfl ?_
        refine g_Fete_people C0 ht w_81 dX0_becomes_11 ?_
        refine j_iload_n C0 2 dX0_becomes_14 rfl rfl ?_
        refine a_people C0 ht hv_a2 dX0_becomes_15 ?_
        refine j_aload_n C0 1 dX0_becomes_16 rfl rfl ?_
        refine g_Fete_people C0 ht2 w_81 dX0_becomes_17 ?_
        refine j_iload_n C0 2 dX0_becomes_20 rfl rfl ?_
        refine a_people C0 ht2 hv_a2 dX0_becomes_21 ?_
        refine j_callVv C0 (c_X3_becomes l z _ (8 * t + ix a2) (vin_pk ht hv_a2) (8 * t2 + ix a2) (vin_pk ht2 hv_a2) hI2) yk_X3_becomes w_215 (fun H locs hP _ => recvW C0 hP _ (Nat.lt_of_lt_of_le (vin_pk ht hv_a2) (by decide)) (cel_person (vin_pk ht hv_a2)) rfl) ⟨Nat.le_of_ble_eq_true rfl, Nat.le_of_ble_eq_true rfl⟩ rfl rfl (Nat.le_of_ble_eq_true rfl) dX0_becomes_22 ?_
        refine j_iinc C0 (lv' := [(2, _), (0, _), (1, _)]) (v := _ + (1)) 2 dX0_becomes_25 rfl (by rfl) (by decide) rfl ?_
        refine j_goto C0 2 dX0_becomes_28 (by decide) ?_
        exact j_sub [1, 2, 0] rfl (ih0 _ _ (lc_stepN hL (hs ▸ c_7)) (In_becomesP hI2 (vin_pk ht hv_a2) (vin_pk ht2 hv_a2)) ((becomesP_fete (vin_pk ht hv_a2)).trans hs))
  exact j_sub [1, 2, 0] rfl (L2 9 _ _ (lc_0 (by have := In_sz hI ht2; omega) (by decide)) hI rfl)
theorem becomesF_inL {g : Mem} (hI : In g) {t t2 : Nat} (ht : t < 3) (ht2 : t2 < 3) : ∀ (n : Nat) (a2 : Int32) (g2 : Mem), In g2 → lc a2 (g (40 + t2) 1) n → g2 (40 + t2) 1 = g (40 + t2) 1 → In (f_X0_becomes_2 g t t2 n a2 g2) := by
  intro n
  induction n with
  | zero => intro a2 g2 h hL; exact absurd hL.2 (Nat.not_lt_zero _)
  | succ n ih =>
    intro a2 g2 h hL hs
    rw [f_X0_becomes_2]
    split
    · refine In_upF (In_upF (In_upFs h ht ?_ ?_) ht (by decide)) ht (by decide)
      · exact In_sz0 h ht2
      · exact In_sz h ht2
    · have c := by assumption
      have hv : vp_in a2 8 := vin_lc hL (hs ▸ c) (In_sz hI ht2)
      exact ih _ _ (In_becomesP h (vin_pk ht hv) (vin_pk ht2 hv)) (lc_stepN hL (hs ▸ c)) ((becomesP_fete (vin_pk ht hv)).trans hs)
theorem In_becomesF {g : Mem} (hI : In g) {t t2 : Nat} (ht : t < 3) (ht2 : t2 < 3) : In (f_X0_becomes g t t2) :=
  becomesF_inL hI ht ht2 9 0 g hI (lc_0 (by have := In_sz hI ht2; omega) (by decide)) rfl

