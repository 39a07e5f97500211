/-- what the search of pairs leaves alone -/
def NQ (g g' : Mem) : Prop := ∀ k f, k ≠ 0 → k ≠ 6 → k ≠ 7 → g' k f = g k f
theorem NQ_rf {g : Mem} : NQ g g := fun _ _ _ _ _ => rfl
theorem NQ_tr {a b c : Mem} (h : NQ a b) (k : NQ b c) : NQ a c := fun i f h1 h2 h3 => (k i f h1 h2 h3).trans (h i f h1 h2 h3)
theorem NQ_up {a b : Mem} (h : NQ a b) {k f : Nat} {v : Int32} (hk : k = 0 ∨ k = 6 ∨ k = 7) : NQ a (up b k f v) := fun i j h1 h2 h3 => (up_ne (by omega)).trans (h i j h1 h2 h3)
theorem InM_NQ {g b : Mem} (r : NQ g b) (h : InM g) : InM b := by
  refine ⟨?_, ?_, fun d hd => ?_⟩
  · rw [r 1 0 (by decide) (by decide) (by decide)]; exact h.1
  · rw [r 3 0 (by decide) (by decide) (by decide)]; exact h.2.1
  · rw [r 12 d (by decide) (by decide) (by decide)]; exact h.2.2 d hd
/-- how deep the search is yet to go -/
def DP (n : Nat) (g : Mem) (a : Int32) : Prop := 0 ≤ a.toInt ∧ a.toInt ≤ (g 1 0).toInt ∧ (g 1 0).toInt - a.toInt < n
theorem dp_up {n : Nat} {g X : Mem} {a : Int32} (h : DP (n + 1) g a) (c : ¬ a = g 1 0) (r : NQ g X) (hI : InM g) : DP n X (a + 1) := by
  obtain ⟨h1, h2, h3⟩ := h
  have h8 := InM_s hI
  have hne := ne_toInt c
  have e := add1_toInt h1 (by omega)
  unfold DP
  rw [r 1 0 (by decide) (by decide) (by decide), e]
  omega
theorem dp_vin {n : Nat} {g : Mem} {a : Int32} (h : DP n g a) (c : ¬ a = g 1 0) (hI : InM g) : vp_in a 8 := by
  obtain ⟨h1, h2, h3⟩ := h
  have h8 := InM_s hI
  have hne := ne_toInt c
  exact vin_of h1 (by omega)
theorem dp_0 {g : Mem} (hI : InM g) : DP 9 g 0 := by
  have h8 := InM_s hI
  have h0 := InM_s0 hI
  have e : (0 : Int32).toInt = 0 := rfl
  unfold DP
  omega
theorem pf_lc {n : Nat} {g : Mem} {a : Int32} (h : DP n g a) (c : ¬ a = g 1 0) (hI : InM g) : lc (a + 1) (g 1 0) 9 := by
  obtain ⟨h1, h2, h3⟩ := h
  have h8 := InM_s hI
  have hne := ne_toInt c
  have e := add1_toInt h1 (by omega)
  exact lc_from (by omega) (by omega) (by decide)
theorem pf_vin {n : Nat} {g : Mem} {a : Int32} (h : lc a (g 1 0) n) (c : ¬ g 1 0 ≤ a) (hI : InM g) : vp_in a 8 := by
  have c2 := lt_of_nle c
  have h8 := InM_s hI
  exact vin_of h.1 (by omega)
def fb_X6_pairsFrom_m1 (g : Mem) (F : Mem → Int32 → Int32 → Int32 → Int32 → Mem) (p0 p1 p2 p3 : Int32) : Mem := up g 0 11 (f_X6_most (g 0 11) p3)
def fb_X6_pairsFrom_m2 (g : Mem) (F : Mem → Int32 → Int32 → Int32 → Int32 → Mem) (p0 p1 p2 p3 : Int32) (g_22 : Mem) : Mem := up g_22 0 11 (f_X6_most (g_22 0 11) p3)
def fb_X6_pairsFrom_m3 (g : Mem) (F : Mem → Int32 → Int32 → Int32 → Int32 → Mem) (p0 p1 p2 p3 : Int32) (c5 : Int32) (g_22 : Mem) : Mem := up g_22 7 (ix c5) (g_22 6 (ix c5))
def fb_X6_pairsFrom_22 (g : Mem) (F : Mem → Int32 → Int32 → Int32 → Int32 → Mem) (p0 p1 p2 p3 : Int32) : Nat → Int32 → Mem → Mem
  | 0, _, _ => g
  | n0 + 1, c5, g_22 => if (8 : Int32) ≤ c5 then ((fb_X6_pairsFrom_m2 g F p0 p1 p2 p3 g_22)) else (fb_X6_pairsFrom_22 g F p0 p1 p2 p3 n0 (c5 + (1 : Int32)) (fb_X6_pairsFrom_m3 g F p0 p1 p2 p3 c5 g_22))
def fb_X6_pairsFrom_m4 (g : Mem) (F : Mem → Int32 → Int32 → Int32 → Int32 → Mem) (p0 p1 p2 p3 : Int32) (a6 : Int32) (g_102 : Mem) : Mem := up g_102 6 (ix p0) a6
def fb_X6_pairsFrom_m5 (g : Mem) (F : Mem → Int32 → Int32 → Int32 → Int32 → Mem) (p0 p1 p2 p3 : Int32) (a6 : Int32) (g_102 : Mem) : Mem := up (F (fb_X6_pairsFrom_m4 g F p0 p1 p2 p3 a6 g_102) (p0 + (1 : Int32)) ((p1 ||| ((1 : Int32) <<< (p0 &&& 31))) ||| ((1 : Int32) <<< (a6 &&& 31))) (p2 - (1 : Int32)) (p3 + (f_X6_joysOf (fb_X6_pairsFrom_m4 g F p0 p1 p2 p3 a6 g_102) 1 p0 a6))) 6 (ix p0) (9 : Int32)
def fb_X6_pairsFrom_m6 (g : Mem) (F : Mem → Int32 → Int32 → Int32 → Int32 → Mem) (p0 p1 p2 p3 : Int32) (g_102 : Mem) : Mem := up g_102 6 (ix p0) p0
def fb_X6_pairsFrom_m7 (g : Mem) (F : Mem → Int32 → Int32 → Int32 → Int32 → Mem) (p0 p1 p2 p3 : Int32) (a6 : Int32) (g_102 : Mem) : Mem := up (F (fb_X6_pairsFrom_m6 g F p0 p1 p2 p3 g_102) (p0 + (1 : Int32)) ((p1 ||| ((1 : Int32) <<< (p0 &&& 31))) ||| ((1 : Int32) <<< (a6 &&& 31))) (p2 - (1 : Int32)) (p3 + (f_X6_joysOf (fb_X6_pairsFrom_m6 g F p0 p1 p2 p3 g_102) 1 p0 p0))) 6 (ix p0) (9 : Int32)
def fb_X6_pairsFrom_m8 (g : Mem) (F : Mem → Int32 → Int32 → Int32 → Int32 → Mem) (p0 p1 p2 p3 : Int32) (a6 : Int32) (g_102 : Mem) : Mem := up g_102 6 (ix a6) a6
def fb_X6_pairsFrom_m9 (g : Mem) (F : Mem → Int32 → Int32 → Int32 → Int32 → Mem) (p0 p1 p2 p3 : Int32) (a6 : Int32) (g_102 : Mem) : Mem := up (F (fb_X6_pairsFrom_m8 g F p0 p1 p2 p3 a6 g_102) (p0 + (1 : Int32)) ((p1 ||| ((1 : Int32) <<< (p0 &&& 31))) ||| ((1 : Int32) <<< (a6 &&& 31))) (p2 - (1 : Int32)) (p3 + (f_X6_joysOf (fb_X6_pairsFrom_m8 g F p0 p1 p2 p3 a6 g_102) 1 a6 a6))) 6 (ix a6) (9 : Int32)
def fb_X6_pairsFrom_m10 (g : Mem) (F : Mem → Int32 → Int32 → Int32 → Int32 → Mem) (p0 p1 p2 p3 : Int32) (a6 : Int32) (g_102 : Mem) : Mem := up g_102 6 (ix a6) p0
def fb_X6_pairsFrom_m11 (g : Mem) (F : Mem → Int32 → Int32 → Int32 → Int32 → Mem) (p0 p1 p2 p3 : Int32) (a6 : Int32) (g_102 : Mem) : Mem := up (F (fb_X6_pairsFrom_m10 g F p0 p1 p2 p3 a6 g_102) (p0 + (1 : Int32)) ((p1 ||| ((1 : Int32) <<< (p0 &&& 31))) ||| ((1 : Int32) <<< (a6 &&& 31))) (p2 - (1 : Int32)) (p3 + (f_X6_joysOf (fb_X6_pairsFrom_m10 g F p0 p1 p2 p3 a6 g_102) 1 a6 p0))) 6 (ix a6) (9 : Int32)
def fb_X6_pairsFrom_102 (g : Mem) (F : Mem → Int32 → Int32 → Int32 → Int32 → Mem) (p0 p1 p2 p3 : Int32) (K0 : Int32 → Mem → Mem) (a5 : Int32) (g_87 : Mem) : Nat → Int32 → Mem → Mem
  | 0, _, _ => g
  | n1 + 1, a6, g_102 => if (g_102 1 0) ≤ a6 then (K0 (a5 + (1 : Int32)) g_102) else (if a5 = 0 then (if a5 = 0 then (if ((p1 >>> (a6 &&& 31)) &&& (1 : Int32)) = (1 : Int32) then (fb_X6_pairsFrom_102 g F p0 p1 p2 p3 K0 a5 g_87 n1 (a6 + (1 : Int32)) g_102) else (if (f_X6_canEat g_102 1 p0 a6) = 0 then (fb_X6_pairsFrom_102 g F p0 p1 p2 p3 K0 a5 g_87 n1 (a6 + (1 : Int32)) g_102) else (fb_X6_pairsFrom_102 g F p0 p1 p2 p3 K0 a5 g_87 n1 (a6 + (1 : Int32)) (fb_X6_pairsFrom_m5 g F p0 p1 p2 p3 a6 g_102)))) else (if ((p1 >>> (a6 &&& 31)) &&& (1 : Int32)) = (1 : Int32) then (fb_X6_pairsFrom_102 g F p0 p1 p2 p3 K0 a5 g_87 n1 (a6 + (1 : Int32)) g_102) else (if (f_X6_canEat g_102 1 p0 p0) = 0 then (fb_X6_pairsFrom_102 g F p0 p1 p2 p3 K0 a5 g_87 n1 (a6 + (1 : Int32)) g_102) else (fb_X6_pairsFrom_102 g F p0 p1 p2 p3 K0 a5 g_87 n1 (a6 + (1 : Int32)) (fb_X6_pairsFrom_m7 g F p0 p1 p2 p3 a6 g_102))))) else (if a5 = 0 then (if ((p1 >>> (a6 &&& 31)) &&& (1 : Int32)) = (1 : Int32) then (fb_X6_pairsFrom_102 g F p0 p1 p2 p3 K0 a5 g_87 n1 (a6 + (1 : Int32)) g_102) else (if (f_X6_canEat g_102 1 a6 a6) = 0 then (fb_X6_pairsFrom_102 g F p0 p1 p2 p3 K0 a5 g_87 n1 (a6 + (1 : Int32)) g_102) else (fb_X6_pairsFrom_102 g F p0 p1 p2 p3 K0 a5 g_87 n1 (a6 + (1 : Int32)) (fb_X6_pairsFrom_m9 g F p0 p1 p2 p3 a6 g_102)))) else (if ((p1 >>> (a6 &&& 31)) &&& (1 : Int32)) = (1 : Int32) then (fb_X6_pairsFrom_102 g F p0 p1 p2 p3 K0 a5 g_87 n1 (a6 + (1 : Int32)) g_102) else (if (f_X6_canEat g_102 1 a6 p0) = 0 then (fb_X6_pairsFrom_102 g F p0 p1 p2 p3 K0 a5 g_87 n1 (a6 + (1 : Int32)) g_102) else (fb_X6_pairsFrom_102 g F p0 p1 p2 p3 K0 a5 g_87 n1 (a6 + (1 : Int32)) (fb_X6_pairsFrom_m11 g F p0 p1 p2 p3 a6 g_102))))))
def fb_X6_pairsFrom_87 (g : Mem) (F : Mem → Int32 → Int32 → Int32 → Int32 → Mem) (p0 p1 p2 p3 : Int32) : Nat → Int32 → Mem → Mem
  | 0, _, _ => g
  | n0 + 1, a5, g_87 => if (2 : Int32) ≤ a5 then ((F g_87 (p0 + (1 : Int32)) p1 p2 p3)) else (if p2 ≤ 0 then ((F g_87 (p0 + (1 : Int32)) p1 p2 p3)) else (fb_X6_pairsFrom_102 g F p0 p1 p2 p3 (fun a5' g_87' => fb_X6_pairsFrom_87 g F p0 p1 p2 p3 n0 a5' g_87') a5 g_87 9 (p0 + (1 : Int32)) g_87))
def fb_X6_pairsFrom (g : Mem) (F : Mem → Int32 → Int32 → Int32 → Int32 → Mem) (p0 p1 p2 p3 : Int32) : Mem := if p0 = (g 1 0) then (if p3 ≤ (g 0 11) then ((fb_X6_pairsFrom_m1 g F p0 p1 p2 p3)) else (fb_X6_pairsFrom_22 g F p0 p1 p2 p3 9 (0 : Int32) g)) else (if ((p1 >>> (p0 &&& 31)) &&& (1 : Int32)) = (1 : Int32) then ((F g (p0 + (1 : Int32)) p1 p2 p3)) else (fb_X6_pairsFrom_87 g F p0 p1 p2 p3 3 (0 : Int32) g))
theorem yk_X6_pairsFrom : yokV yX6_pairsFrom RX6 cX6_pairsFrom 9 none 4 := ⟨w_1001, w_1000, wp_34, w_8, by decide +kernel⟩
set_option maxHeartbeats 4000000 in
set_option maxRecDepth 100000 in
theorem cb_X6_pairsFrom (l : Launch) (z : ZM) (g : Mem) (n : Nat) (F : Mem → Int32 → Int32 → Int32 → Int32 → Mem) (hFN : ∀ (g : Mem) (a b c d : Int32), NQ g (F g a b c d)) (hF : ∀ (g : Mem) (a b c d : Int32), DP n g a → InM g → ctM l yX6_pairsFrom cX6_pairsFrom 9 none (n + 4) (28 * n + 86) z g [.ref (yad z 0), .int a, .int b, .int c, .int d] (qVM z (F g a b c d))) (p0 p1 p2 p3 : Int32) (hD : DP (n + 1) g p0) (hI : InM g) : ctM l yX6_pairsFrom cX6_pairsFrom 9 none (n + 1 + 4) (28 * (n + 1) + 86) z g [.ref (yad z 0), .int p0, .int p1, .int p2, .int p3] (qVM z (fb_X6_pairsFrom g F p0 p1 p2 p3)) := by
  refine ct_of (own := RX6) (q := fun r => qVM z r) (res := fb_X6_pairsFrom g F p0 p1 p2 p3) (lv := [(0, .ref (yad z 0)), (1, .int p0), (2, .int p1), (3, .int p2), (4, .int p3)]) enokM rfl (by decide) (Nat.le_of_ble_eq_true rfl) rfl (fun p e s m args below meth c C0 hrt hlk => ?_)
  unfold fb_X6_pairsFrom
  refine j_iload_n C0 1 dX6_pairsFrom_0 rfl rfl ?_
  refine j_aload_n C0 0 dX6_pairsFrom_1 rfl rfl ?_
  refine g_Model_s C0 w_800 dX6_pairsFrom_2 ?_
  refine j_iconst C0 (v := 0) dX6_pairsFrom_5 (by decide) ?_
  refine a_Ml C0 (by decide) ixl_0 vl57_0 dX6_pairsFrom_6 ?_
  refine j_icmp_ne C0 63 dX6_pairsFrom_7 (by decide) (fun c_7 => ?_) (fun c_7 => ?_)
  · refine j_iload C0 4 dX6_pairsFrom_10 rfl ?_
    refine j_aload_n C0 0 dX6_pairsFrom_12 rfl rfl ?_
    refine g_Model_bestOfPairs C0 w_811 dX6_pairsFrom_13 ?_
    refine j_icmp_le C0 49 dX6_pairsFrom_16 (by decide) (fun c_16 => ?_) (fun c_16 => ?_)
    · refine j_aload_n C0 0 dX6_pairsFrom_49 rfl rfl ?_
      refine j_aload_n C0 0 dX6_pairsFrom_50 rfl rfl ?_
      refine g_Model_bestOfPairs C0 w_811 dX6_pairsFrom_51 ?_
      refine j_iload C0 4 dX6_pairsFrom_54 rfl ?_
      refine j_callSi C0 (c_X6_most l z _ _ _) yk_X6_most w_931 ⟨by first | omega | (dsimp only; omega), by first | omega | (dsimp only; omega)⟩ rfl rfl (Nat.le_of_ble_eq_true rfl) dX6_pairsFrom_56 ?_
      refine p_Model_bestOfPairs C0 w_811 dX6_pairsFrom_59 ?_
      exact j_vret C0 hrt hlk dX6_pairsFrom_62
    · refine j_iconst C0 (v := 0) dX6_pairsFrom_19 (by decide) ?_
      refine j_istore C0 (lv' := [(5, _), (0, _), (1, _), (2, _), (3, _), (4, _)]) dX6_pairsFrom_20 (by decide) rfl ?_
      have L22 : ∀ (n0 : Nat) (c5 : Int32) (g_22 : Mem), lc c5 8 n0 → NQ g g_22 → jj p l e { frames := (n + 1 + 4), cells := 0, slots := 0, locals := (28 * (n + 1) + 86) } s m args below meth c (yA z) (yD z) 14 (yad z) (celM z) 9 (fun r => MQ below (qVM z r) args s 0 0 (yA z)) (fb_X6_pairsFrom_22 g F p0 p1 p2 p3 n0 c5 g_22) g_22 22 [(0, .ref (yad z 0)), (1, .int p0), (2, .int p1), (3, .int p2), (4, .int p3), (5, .int c5)] [] := by
        intro n0
        induction n0 with
        | zero => intro c5 g_22 hL2 hN2; exact absurd hL2.2 (Nat.not_lt_zero _)
        | succ n0 ih0 =>
          intro c5 g_22 hL2 hN2
          rw [fb_X6_pairsFrom_22]
          refine j_iload C0 5 dX6_pairsFrom_22 rfl ?_
          refine j_bipush C0 (v := 8) dX6_pairsFrom_24 (by decide) ?_
          refine j_icmp_ge C0 49 dX6_pairsFrom_26 (by decide) (fun c_26 => ?_) (fun c_26 => ?_)
          · refine j_aload_n C0 0 dX6_pairsFrom_49 rfl rfl ?_
            refine j_aload_n C0 0 dX6_pairsFrom_50 rfl rfl ?_
            refine g_Model_bestOfPairs C0 w_811 dX6_pairsFrom_51 ?_
            refine j_iload C0 4 dX6_pairsFrom_54 rfl ?_
            refine j_callSi C0 (c_X6_most l z _ _ _) yk_X6_most w_931 ⟨by first | omega | (dsimp only; omega), by first | omega | (dsimp only; omega)⟩ rfl rfl (Nat.le_of_ble_eq_true rfl) dX6_pairsFrom_56 ?_
            refine p_Model_bestOfPairs C0 w_811 dX6_pairsFrom_59 ?_
            exact j_vret C0 hrt hlk dX6_pairsFrom_62
          · have hx : vp_in c5 8 := vin_lc hL2 c_26 (by decide)
            refine j_aload_n C0 0 dX6_pairsFrom_29 rfl rfl ?_
            refine g_Model_bestBy C0 w_810 dX6_pairsFrom_30 ?_
            refine j_iload C0 5 dX6_pairsFrom_33 rfl ?_
            refine j_aload_n C0 0 dX6_pairsFrom_35 rfl rfl ?_
            refine g_Model_watchedBy C0 w_809 dX6_pairsFrom_36 ?_
            refine j_iload C0 5 dX6_pairsFrom_39 rfl ?_
            refine a_M C0 (by decide) hx dX6_pairsFrom_41 ?_
            refine s_M C0 (by decide) hx dX6_pairsFrom_42 ?_
            refine j_iinc C0 (lv' := [(5, _), (0, _), (1, _), (2, _), (3, _), (4, _)]) (v := _ + (1)) 5 dX6_pairsFrom_43 rfl (by rfl) (by decide) rfl ?_
            refine j_goto C0 22 dX6_pairsFrom_46 (by decide) ?_
            exact j_sub [1, 2, 3, 4, 5, 0] rfl (ih0 _ _ (lc_stepN hL2 c_26) (NQ_up hN2 (by decide)))
      exact j_sub [1, 2, 3, 4, 5, 0] rfl (L22 9 _ _ (lc_0 (by decide) (by decide)) NQ_rf)
  · have hv0 := dp_vin hD c_7 hI
    refine j_iload_n C0 2 dX6_pairsFrom_63 rfl rfl ?_
    refine j_iload_n C0 1 dX6_pairsFrom_64 rfl rfl ?_
    refine j_ishr C0 dX6_pairsFrom_65 ?_
    refine j_iconst C0 (v := 1) dX6_pairsFrom_66 (by decide) ?_
    refine j_iand C0 dX6_pairsFrom_67 ?_
    refine j_iconst C0 (v := 1) dX6_pairsFrom_68 (by decide) ?_
    refine j_icmp_ne C0 84 dX6_pairsFrom_69 (by decide) (fun c_69 => ?_) (fun c_69 => ?_)
    · refine j_aload_n C0 0 dX6_pairsFrom_72 rfl rfl ?_
      refine j_iload_n C0 1 dX6_pairsFrom_73 rfl rfl ?_
      refine j_iconst C0 (v := 1) dX6_pairsFrom_74 (by decide) ?_
      refine j_iadd C0 dX6_pairsFrom_75 ?_
      refine j_iload_n C0 2 dX6_pairsFrom_76 rfl rfl ?_
      refine j_iload_n C0 3 dX6_pairsFrom_77 rfl rfl ?_
      refine j_iload C0 4 dX6_pairsFrom_78 rfl ?_
      refine j_callVv C0 (hF _ _ _ _ _ (dp_up hD c_7 NQ_rf hI) hI) yk_X6_pairsFrom w_998 (fun H locs hP _ => recvW C0 hP 0 (by decide) celM_0 rfl) ⟨by first | omega | (dsimp only; omega), by first | omega | (dsimp only; omega)⟩ rfl rfl (Nat.le_of_ble_eq_true rfl) dX6_pairsFrom_80 ?_
      exact j_vret C0 hrt hlk dX6_pairsFrom_83
    · refine j_iconst C0 (v := 0) dX6_pairsFrom_84 (by decide) ?_
      refine j_istore C0 (lv' := [(5, _), (0, _), (1, _), (2, _), (3, _), (4, _)]) dX6_pairsFrom_85 (by decide) rfl ?_
      have L87 : ∀ (n0 : Nat) (a5 : Int32) (g_87 : Mem), lc a5 2 n0 → NQ g g_87 → jj p l e { frames := (n + 1 + 4), cells := 0, slots := 0, locals := (28 * (n + 1) + 86) } s m args below meth c (yA z) (yD z) 14 (yad z) (celM z) 9 (fun r => MQ below (qVM z r) args s 0 0 (yA z)) (fb_X6_pairsFrom_87 g F p0 p1 p2 p3 n0 a5 g_87) g_87 87 [(0, .ref (yad z 0)), (1, .int p0), (2, .int p1), (3, .int p2), (4, .int p3), (5, .int a5)] [] := by
        intro n0
        induction n0 with
        | zero => intro a5 g_87 hL0 hN0; exact absurd hL0.2 (Nat.not_lt_zero _)
        | succ n0 ih0 =>
          intro a5 g_87 hL0 hN0
          rw [fb_X6_pairsFrom_87]
          refine j_iload C0 5 dX6_pairsFrom_87 rfl ?_
          refine j_iconst C0 (v := 2) dX6_pairsFrom_89 (by decide) ?_
          refine j_icmp_ge C0 230 dX6_pairsFrom_90 (by decide) (fun c_90 => ?_) (fun c_90 => ?_)
          · refine j_aload_n C0 0 dX6_pairsFrom_230 rfl rfl ?_
            refine j_iload_n C0 1 dX6_pairsFrom_231 rfl rfl ?_
            refine j_iconst C0 (v := 1) dX6_pairsFrom_232 (by decide) ?_
            refine j_iadd C0 dX6_pairsFrom_233 ?_
            refine j_iload_n C0 2 dX6_pairsFrom_234 rfl rfl ?_
            refine j_iload_n C0 3 dX6_pairsFrom_235 rfl rfl ?_
            refine j_iload C0 4 dX6_pairsFrom_236 rfl ?_
            refine j_callVv C0 (hF _ _ _ _ _ (dp_up hD c_7 hN0 hI) (InM_NQ hN0 hI)) yk_X6_pairsFrom w_998 (fun H locs hP _ => recvW C0 hP 0 (by decide) celM_0 rfl) ⟨by first | omega | (dsimp only; omega), by first | omega | (dsimp only; omega)⟩ rfl rfl (Nat.le_of_ble_eq_true rfl) dX6_pairsFrom_238 ?_
            exact j_vret C0 hrt hlk dX6_pairsFrom_241
          · refine j_iload_n C0 3 dX6_pairsFrom_93 rfl rfl ?_
            refine j_if_le C0 230 dX6_pairsFrom_94 (by decide) (fun c_94 => ?_) (fun c_94 => ?_)
            · refine j_aload_n C0 0 dX6_pairsFrom_230 rfl rfl ?_
              refine j_iload_n C0 1 dX6_pairsFrom_231 rfl rfl ?_
              refine j_iconst C0 (v := 1) dX6_pairsFrom_232 (by decide) ?_
              refine j_iadd C0 dX6_pairsFrom_233 ?_
              refine j_iload_n C0 2 dX6_pairsFrom_234 rfl rfl ?_
              refine j_iload_n C0 3 dX6_pairsFrom_235 rfl rfl ?_
              refine j_iload C0 4 dX6_pairsFrom_236 rfl ?_
              refine j_callVv C0 (hF _ _ _ _ _ (dp_up hD c_7 hN0 hI) (InM_NQ hN0 hI)) yk_X6_pairsFrom w_998 (fun H locs hP _ => recvW C0 hP 0 (by decide) celM_0 rfl) ⟨by first | omega | (dsimp only; omega), by first | omega | (dsimp only; omega)⟩ rfl rfl (Nat.le_of_ble_eq_true rfl) dX6_pairsFrom_238 ?_
              exact j_vret C0 hrt hlk dX6_pairsFrom_241
            · refine j_iload_n C0 1 dX6_pairsFrom_97 rfl rfl ?_
              refine j_iconst C0 (v := 1) dX6_pairsFrom_98 (by decide) ?_
              refine j_iadd C0 dX6_pairsFrom_99 ?_
              refine j_istore C0 (lv' := [(6, _), (0, _), (1, _), (2, _), (3, _), (4, _), (5, _)]) dX6_pairsFrom_100 (by decide) rfl ?_
              have L102 : ∀ (n1 : Nat) (a6 : Int32) (g_102 : Mem), lc a6 (g 1 0) n1 → NQ g g_102 → jj p l e { frames := (n + 1 + 4), cells := 0, slots := 0, locals := (28 * (n + 1) + 86) } s m args below meth c (yA z) (yD z) 14 (yad z) (celM z) 9 (fun r => MQ below (qVM z r) args s 0 0 (yA z)) (fb_X6_pairsFrom_102 g F p0 p1 p2 p3 (fun a5' g_87' => fb_X6_pairsFrom_87 g F p0 p1 p2 p3 n0 a5' g_87') a5 g_87 n1 a6 g_102) g_102 102 [(0, .ref (yad z 0)), (1, .int p0), (2, .int p1), (3, .int p2), (4, .int p3), (5, .int a5), (6, .int a6)] [] := by
                intro n1
                induction n1 with
                | zero => intro a6 g_102 hL1 hN1; exact absurd hL1.2 (Nat.not_lt_zero _)
                | succ n1 ih1 =>
                  intro a6 g_102 hL1 hN1
                  rw [fb_X6_pairsFrom_102]
                  refine j_iload C0 6 dX6_pairsFrom_102 rfl ?_
                  refine j_aload_n C0 0 dX6_pairsFrom_104 rfl rfl ?_
                  refine g_Model_s C0 w_800 dX6_pairsFrom_105 ?_
                  refine j_iconst C0 (v := 0) dX6_pairsFrom_108 (by decide) ?_
                  refine a_Ml C0 (by decide) ixl_0 vl57_0 dX6_pairsFrom_109 ?_
                  refine j_icmp_ge C0 224 dX6_pairsFrom_110 (by decide) (fun c_110 => ?_) (fun c_110 => ?_)
                  · refine j_iinc C0 (lv' := [(5, _), (0, _), (1, _), (2, _), (3, _), (4, _), (6, _)]) (v := _ + (1)) 5 dX6_pairsFrom_224 rfl (by rfl) (by decide) rfl ?_
                    refine j_goto C0 87 dX6_pairsFrom_227 (by decide) ?_
                    exact j_sub [1, 2, 3, 4, 5, 0] rfl (ih0 _ _ (lc_stepN hL0 c_90) hN1)
                  · have hx := pf_vin hL1 (hN1 1 0 (by decide) (by decide) (by decide) ▸ c_110) hI
                    refine j_iload C0 5 dX6_pairsFrom_113 rfl ?_
                    refine j_if_ne C0 122 dX6_pairsFrom_115 (by decide) (fun c_115 => ?_) (fun c_115 => ?_)
                    · refine j_iload_n C0 1 dX6_pairsFrom_118 rfl rfl ?_
                      refine j_goto C0 124 dX6_pairsFrom_119 (by decide) ?_
                      refine j_istore C0 (lv' := [(7, _), (0, _), (1, _), (2, _), (3, _), (4, _), (5, _), (6, _)]) dX6_pairsFrom_124 (by decide) rfl ?_
                      refine j_iload C0 6 dX6_pairsFrom_126 rfl ?_
                      refine j_if_ne C0 136 dX6_pairsFrom_128 (by decide) (fun c_128 => ?_) (fun c_128 => ?_)
                      · refine j_iload C0 7 dX6_pairsFrom_131 rfl ?_
                        refine j_goto C0 137 dX6_pairsFrom_133 (by decide) ?_
                        refine j_istore C0 (lv' := [(8, _), (7, _), (0, _), (1, _), (2, _), (3, _), (4, _), (5, _), (6, _)]) dX6_pairsFrom_137 (by decide) rfl ?_
                        refine j_iload_n C0 4 dX6_pairsFrom_139 rfl rfl ?_
                        refine j_iload C0 8 dX6_pairsFrom_140 rfl ?_
                        refine j_ishr C0 dX6_pairsFrom_142 ?_
                        refine j_iconst C0 (v := 1) dX6_pairsFrom_143 (by decide) ?_
                        refine j_iand C0 dX6_pairsFrom_144 ?_
                        refine j_iconst C0 (v := 1) dX6_pairsFrom_145 (by decide) ?_
                        refine j_icmp_eq C0 218 dX6_pairsFrom_146 (by decide) (fun c_146 => ?_) (fun c_146 => ?_)
                        · refine j_iinc C0 (lv' := [(6, _), (8, _), (7, _), (0, _), (1, _), (2, _), (3, _), (4, _), (5, _)]) (v := _ + (1)) 8 dX6_pairsFrom_218 rfl (by rfl) (by decide) rfl ?_
                          refine j_goto C0 102 dX6_pairsFrom_221 (by decide) ?_
                          exact j_sub [3, 4, 5, 6, 7, 8, 0] rfl (ih1 _ _ (lc_stepN hL1 (hN1 1 0 (by decide) (by decide) (by decide) ▸ c_110)) (by first | with_reducible exact hN1 | exact NQ_up (NQ_tr (NQ_up hN1 (by decide)) (hFN _ _ _ _ _)) (by decide)))
                        · refine j_aload_n C0 2 dX6_pairsFrom_149 rfl rfl ?_
                          refine g_Model_s C0 w_800 dX6_pairsFrom_150 ?_
                          refine j_iload C0 1 dX6_pairsFrom_153 rfl ?_
                          refine j_iload C0 0 dX6_pairsFrom_155 rfl ?_
                          refine j_callSi C0 (c_X6_canEat l z _ 1 rw4_1 _ _ (vin9 hv0) (vin9 hx)) yk_X6_canEat w_904 ⟨by first | omega | (dsimp only; omega), by first | omega | (dsimp only; omega)⟩ rfl rfl (Nat.le_of_ble_eq_true rfl) dX6_pairsFrom_157 ?_
                          refine j_if_ne C0 166 dX6_pairsFrom_160 (by decide) (fun c_160 => ?_) (fun c_160 => ?_)
                          · refine j_goto C0 218 dX6_pairsFrom_163 (by decide) ?_
                            refine j_iinc C0 (lv' := [(6, _), (8, _), (7, _), (0, _), (1, _), (2, _), (3, _), (4, _), (5, _)]) (v := _ + (1)) 8 dX6_pairsFrom_218 rfl (by rfl) (by decide) rfl ?_
                            refine j_goto C0 102 dX6_pairsFrom_221 (by decide) ?_
                            exact j_sub [3, 4, 5, 6, 7, 8, 0] rfl (ih1 _ _ (lc_stepN hL1 (hN1 1 0 (by decide) (by decide) (by decide) ▸ c_110)) (by first | with_reducible exact hN1 | exact NQ_up (NQ_tr (NQ_up hN1 (by decide)) (hFN _ _ _ _ _)) (by decide)))
                          · refine j_aload_n C0 2 dX6_pairsFrom_166 rfl rfl ?_
                            refine g_Model_watchedBy C0 w_809 dX6_pairsFrom_167 ?_
                            refine j_iload C0 1 dX6_pairsFrom_170 rfl ?_
                            refine j_iload C0 0 dX6_pairsFrom_172 rfl ?_
                            refine s_M C0 (by decide) hv0 dX6_pairsFrom_174 ?_
                            refine j_aload_n C0 2 dX6_pairsFrom_175 rfl rfl ?_
                            refine j_iload_n C0 3 dX6_pairsFrom_176 rfl rfl ?_
                            refine j_iconst C0 (v := 1) dX6_pairsFrom_177 (by decide) ?_
                            refine j_iadd C0 dX6_pairsFrom_178 ?_
                            refine j_iload_n C0 4 dX6_pairsFrom_179 rfl rfl ?_
                            refine j_iconst C0 (v := 1) dX6_pairsFrom_180 (by decide) ?_
                            refine j_iload_n C0 3 dX6_pairsFrom_181 rfl rfl ?_
                            refine j_ishl C0 dX6_pairsFrom_182 ?_
                            refine j_ior C0 dX6_pairsFrom_183 ?_
                            refine j_iconst C0 (v := 1) dX6_pairsFrom_184 (by decide) ?_
                            refine j_iload C0 8 dX6_pairsFrom_185 rfl ?_
                            refine j_ishl C0 dX6_pairsFrom_187 ?_
                            refine j_ior C0 dX6_pairsFrom_188 ?_
                            refine j_iload_n C0 5 dX6_pairsFrom_189 rfl rfl ?_
                            refine j_iconst C0 (v := 1) dX6_pairsFrom_190 (by decide) ?_
                            refine j_isub C0 dX6_pairsFrom_191 ?_
                            refine j_iload C0 6 dX6_pairsFrom_192 rfl ?_
                            refine j_aload_n C0 2 dX6_pairsFrom_194 rfl rfl ?_
                            refine g_Model_s C0 w_800 dX6_pairsFrom_195 ?_
                            refine j_iload C0 1 dX6_pairsFrom_198 rfl ?_
                            refine j_iload C0 0 dX6_pairsFrom_200 rfl ?_
                            refine j_callSi C0 (c_X6_joysOf l z _ 1 rw4_1 _ _ (vin9 hv0) (vin9 hx)) yk_X6_joysOf w_913 ⟨by first | omega | (dsimp only; omega), by first | omega | (dsimp only; omega)⟩ rfl rfl (Nat.le_of_ble_eq_true rfl) dX6_pairsFrom_202 ?_
                            refine j_iadd C0 dX6_pairsFrom_205 ?_
                            refine j_callVv C0 (hF _ _ _ _ _ (dp_up hD c_7 (NQ_up hN1 (by decide)) hI) (InM_up (InM_NQ hN1 hI) (by omega) (by omega) (by decide))) yk_X6_pairsFrom w_998 (fun H locs hP _ => recvW C0 hP 0 (by decide) celM_0 rfl) ⟨by first | omega | (dsimp only; omega), by first | omega | (dsimp only; omega)⟩ rfl rfl (Nat.le_of_ble_eq_true rfl) dX6_pairsFrom_206 ?_
                            refine j_aload_n C0 2 dX6_pairsFrom_209 rfl rfl ?_
                            refine g_Model_watchedBy C0 w_809 dX6_pairsFrom_210 ?_
                            refine j_iload C0 1 dX6_pairsFrom_213 rfl ?_
                            refine j_bipush C0 (v := 9) dX6_pairsFrom_215 (by decide) ?_
                            refine s_M C0 (by decide) hv0 dX6_pairsFrom_217 ?_
                            refine j_iinc C0 (lv' := [(6, _), (8, _), (7, _), (0, _), (1, _), (2, _), (3, _), (4, _), (5, _)]) (v := _ + (1)) 8 dX6_pairsFrom_218 rfl (by rfl) (by decide) rfl ?_
                            refine j_goto C0 102 dX6_pairsFrom_221 (by decide) ?_
                            exact j_sub [3, 4, 5, 6, 7, 8, 0] rfl (ih1 _ _ (lc_stepN hL1 (hN1 1 0 (by decide) (by decide) (by decide) ▸ c_110)) (by first | with_reducible exact hN1 | exact NQ_up (NQ_tr (NQ_up hN1 (by decide)) (hFN _ _ _ _ _)) (by decide)))
                      · refine j_iload_n C0 2 dX6_pairsFrom_136 rfl rfl ?_
                        refine j_istore C0 (lv' := [(8, _), (7, _), (0, _), (1, _), (2, _), (3, _), (4, _), (5, _), (6, _)]) dX6_pairsFrom_137 (by decide) rfl ?_
                        refine j_iload_n C0 4 dX6_pairsFrom_139 rfl rfl ?_
                        refine j_iload C0 8 dX6_pairsFrom_140 rfl ?_
                        refine j_ishr C0 dX6_pairsFrom_142 ?_
                        refine j_iconst C0 (v := 1) dX6_pairsFrom_143 (by decide) ?_
                        refine j_iand C0 dX6_pairsFrom_144 ?_
                        refine j_iconst C0 (v := 1) dX6_pairsFrom_145 (by decide) ?_
                        refine j_icmp_eq C0 218 dX6_pairsFrom_146 (by decide) (fun c_146 => ?_) (fun c_146 => ?_)
                        · refine j_iinc C0 (lv' := [(6, _), (8, _), (7, _), (0, _), (1, _), (2, _), (3, _), (4, _), (5, _)]) (v := _ + (1)) 8 dX6_pairsFrom_218 rfl (by rfl) (by decide) rfl ?_
                          refine j_goto C0 102 dX6_pairsFrom_221 (by decide) ?_
                          exact j_sub [3, 4, 5, 6, 7, 8, 0] rfl (ih1 _ _ (lc_stepN hL1 (hN1 1 0 (by decide) (by decide) (by decide) ▸ c_110)) (by first | with_reducible exact hN1 | exact NQ_up (NQ_tr (NQ_up hN1 (by decide)) (hFN _ _ _ _ _)) (by decide)))
                        · refine j_aload_n C0 2 dX6_pairsFrom_149 rfl rfl ?_
                          refine g_Model_s C0 w_800 dX6_pairsFrom_150 ?_
                          refine j_iload C0 1 dX6_pairsFrom_153 rfl ?_
                          refine j_iload C0 0 dX6_pairsFrom_155 rfl ?_
                          refine j_callSi C0 (c_X6_canEat l z _ 1 rw4_1 _ _ (vin9 hv0) (vin9 hv0)) yk_X6_canEat w_904 ⟨by first | omega | (dsimp only; omega), by first | omega | (dsimp only; omega)⟩ rfl rfl (Nat.le_of_ble_eq_true rfl) dX6_pairsFrom_157 ?_
                          refine j_if_ne C0 166 dX6_pairsFrom_160 (by decide) (fun c_160 => ?_) (fun c_160 => ?_)
                          · refine j_goto C0 218 dX6_pairsFrom_163 (by decide) ?_
                            refine j_iinc C0 (lv' := [(6, _), (8, _), (7, _), (0, _), (1, _), (2, _), (3, _), (4, _), (5, _)]) (v := _ + (1)) 8 dX6_pairsFrom_218 rfl (by rfl) (by decide) rfl ?_
                            refine j_goto C0 102 dX6_pairsFrom_221 (by decide) ?_
                            exact j_sub [3, 4, 5, 6, 7, 8, 0] rfl (ih1 _ _ (lc_stepN hL1 (hN1 1 0 (by decide) (by decide) (by decide) ▸ c_110)) (by first | with_reducible exact hN1 | exact NQ_up (NQ_tr (NQ_up hN1 (by decide)) (hFN _ _ _ _ _)) (by decide)))
                          · refine j_aload_n C0 2 dX6_pairsFrom_166 rfl rfl ?_
                            refine g_Model_watchedBy C0 w_809 dX6_pairsFrom_167 ?_
                            refine j_iload C0 1 dX6_pairsFrom_170 rfl ?_
                            refine j_iload C0 0 dX6_pairsFrom_172 rfl ?_
                            refine s_M C0 (by decide) hv0 dX6_pairsFrom_174 ?_
                            refine j_aload_n C0 2 dX6_pairsFrom_175 rfl rfl ?_
                            refine j_iload_n C0 3 dX6_pairsFrom_176 rfl rfl ?_
                            refine j_iconst C0 (v := 1) dX6_pairsFrom_177 (by decide) ?_
                            refine j_iadd C0 dX6_pairsFrom_178 ?_
                            refine j_iload_n C0 4 dX6_pairsFrom_179 rfl rfl ?_
                            refine j_iconst C0 (v := 1) dX6_pairsFrom_180 (by decide) ?_
                            refine j_iload_n C0 3 dX6_pairsFrom_181 rfl rfl ?_
                            refine j_ishl C0 dX6_pairsFrom_182 ?_
                            refine j_ior C0 dX6_pairsFrom_183 ?_
                            refine j_iconst C0 (v := 1) dX6_pairsFrom_184 (by decide) ?_
                            refine j_iload C0 8 dX6_pairsFrom_185 rfl ?_
                            refine j_ishl C0 dX6_pairsFrom_187 ?_
                            refine j_ior C0 dX6_pairsFrom_188 ?_
                            refine j_iload_n C0 5 dX6_pairsFrom_189 rfl rfl ?_
                            refine j_iconst C0 (v := 1) dX6_pairsFrom_190 (by decide) ?_
                            refine j_isub C0 dX6_pairsFrom_191 ?_
                            refine j_iload C0 6 dX6_pairsFrom_192 rfl ?_
                            refine j_aload_n C0 2 dX6_pairsFrom_194 rfl rfl ?_
                            refine g_Model_s C0 w_800 dX6_pairsFrom_195 ?_
                            refine j_iload C0 1 dX6_pairsFrom_198 rfl ?_
                            refine j_iload C0 0 dX6_pairsFrom_200 rfl ?_
                            refine j_callSi C0 (c_X6_joysOf l z _ 1 rw4_1 _ _ (vin9 hv0) (vin9 hv0)) yk_X6_joysOf w_913 ⟨by first | omega | (dsimp only; omega), by first | omega | (dsimp only; omega)⟩ rfl rfl (Nat.le_of_ble_eq_true rfl) dX6_pairsFrom_202 ?_
                            refine j_iadd C0 dX6_pairsFrom_205 ?_
                            refine j_callVv C0 (hF _ _ _ _ _ (dp_up hD c_7 (NQ_up hN1 (by decide)) hI) (InM_up (InM_NQ hN1 hI) (by omega) (by omega) (by decide))) yk_X6_pairsFrom w_998 (fun H locs hP _ => recvW C0 hP 0 (by decide) celM_0 rfl) ⟨by first | omega | (dsimp only; omega), by first | omega | (dsimp only; omega)⟩ rfl rfl (Nat.le_of_ble_eq_true rfl) dX6_pairsFrom_206 ?_
                            refine j_aload_n C0 2 dX6_pairsFrom_209 rfl rfl ?_
                            refine g_Model_watchedBy C0 w_809 dX6_pairsFrom_210 ?_
                            refine j_iload C0 1 dX6_pairsFrom_213 rfl ?_
                            refine j_bipush C0 (v := 9) dX6_pairsFrom_215 (by decide) ?_
                            refine s_M C0 (by decide) hv0 dX6_pairsFrom_217 ?_
                            refine j_iinc C0 (lv' := [(6, _), (8, _), (7, _), (0, _), (1, _), (2, _), (3, _), (4, _), (5, _)]) (v := _ + (1)) 8 dX6_pairsFrom_218 rfl (by rfl) (by decide) rfl ?_
                            refine j_goto C0 102 dX6_pairsFrom_221 (by decide) ?_
                            exact j_sub [3, 4, 5, 6, 7, 8, 0] rfl (ih1 _ _ (lc_stepN hL1 (hN1 1 0 (by decide) (by decide) (by decide) ▸ c_110)) (by first | with_reducible exact hN1 | exact NQ_up (NQ_tr (NQ_up hN1 (by decide)) (hFN _ _ _ _ _)) (by decide)))
                    · refine j_iload C0 6 dX6_pairsFrom_122 rfl ?_
                      refine j_istore C0 (lv' := [(7, _), (0, _), (1, _), (2, _), (3, _), (4, _), (5, _), (6, _)]) dX6_pairsFrom_124 (by decide) rfl ?_
                      refine j_iload C0 6 dX6_pairsFrom_126 rfl ?_
                      refine j_if_ne C0 136 dX6_pairsFrom_128 (by decide) (fun c_128 => ?_) (fun c_128 => ?_)
                      · refine j_iload C0 7 dX6_pairsFrom_131 rfl ?_
                        refine j_goto C0 137 dX6_pairsFrom_133 (by decide) ?_
                        refine j_istore C0 (lv' := [(8, _), (7, _), (0, _), (1, _), (2, _), (3, _), (4, _), (5, _), (6, _)]) dX6_pairsFrom_137 (by decide) rfl ?_
                        refine j_iload_n C0 4 dX6_pairsFrom_139 rfl rfl ?_
                        refine j_iload C0 8 dX6_pairsFrom_140 rfl ?_
                        refine j_ishr C0 dX6_pairsFrom_142 ?_
                        refine j_iconst C0 (v := 1) dX6_pairsFrom_143 (by decide) ?_
                        refine j_iand C0 dX6_pairsFrom_144 ?_
                        refine j_iconst C0 (v := 1) dX6_pairsFrom_145 (by decide) ?_
                        refine j_icmp_eq C0 218 dX6_pairsFrom_146 (by decide) (fun c_146 => ?_) (fun c_146 => ?_)
                        · refine j_iinc C0 (lv' := [(6, _), (8, _), (7, _), (0, _), (1, _), (2, _), (3, _), (4, _), (5, _)]) (v := _ + (1)) 8 dX6_pairsFrom_218 rfl (by rfl) (by decide) rfl ?_
                          refine j_goto C0 102 dX6_pairsFrom_221 (by decide) ?_
                          exact j_sub [3, 4, 5, 6, 7, 8, 0] rfl (ih1 _ _ (lc_stepN hL1 (hN1 1 0 (by decide) (by decide) (by decide) ▸ c_110)) (by first | with_reducible exact hN1 | exact NQ_up (NQ_tr (NQ_up hN1 (by decide)) (hFN _ _ _ _ _)) (by decide)))
                        · refine j_aload_n C0 2 dX6_pairsFrom_149 rfl rfl ?_
                          refine g_Model_s C0 w_800 dX6_pairsFrom_150 ?_
                          refine j_iload C0 1 dX6_pairsFrom_153 rfl ?_
                          refine j_iload C0 0 dX6_pairsFrom_155 rfl ?_
                          refine j_callSi C0 (c_X6_canEat l z _ 1 rw4_1 _ _ (vin9 hx) (vin9 hx)) yk_X6_canEat w_904 ⟨by first | omega | (dsimp only; omega), by first | omega | (dsimp only; omega)⟩ rfl rfl (Nat.le_of_ble_eq_true rfl) dX6_pairsFrom_157 ?_
                          refine j_if_ne C0 166 dX6_pairsFrom_160 (by decide) (fun c_160 => ?_) (fun c_160 => ?_)
                          · refine j_goto C0 218 dX6_pairsFrom_163 (by decide) ?_
                            refine j_iinc C0 (lv' := [(6, _), (8, _), (7, _), (0, _), (1, _), (2, _), (3, _), (4, _), (5, _)]) (v := _ + (1)) 8 dX6_pairsFrom_218 rfl (by rfl) (by decide) rfl ?_
                            refine j_goto C0 102 dX6_pairsFrom_221 (by decide) ?_
                            exact j_sub [3, 4, 5, 6, 7, 8, 0] rfl (ih1 _ _ (lc_stepN hL1 (hN1 1 0 (by decide) (by decide) (by decide) ▸ c_110)) (by first | with_reducible exact hN1 | exact NQ_up (NQ_tr (NQ_up hN1 (by decide)) (hFN _ _ _ _ _)) (by decide)))
                          · refine j_aload_n C0 2 dX6_pairsFrom_166 rfl rfl ?_
                            refine g_Model_watchedBy C0 w_809 dX6_pairsFrom_167 ?_
                            refine j_iload C0 1 dX6_pairsFrom_170 rfl ?_
                            refine j_iload C0 0 dX6_pairsFrom_172 rfl ?_
                            refine s_M C0 (by decide) hx dX6_pairsFrom_174 ?_
                            refine j_aload_n C0 2 dX6_pairsFrom_175 rfl rfl ?_
                            refine j_iload_n C0 3 dX6_pairsFrom_176 rfl rfl ?_
                            refine j_iconst C0 (v := 1) dX6_pairsFrom_177 (by decide) ?_
                            refine j_iadd C0 dX6_pairsFrom_178 ?_
                            refine j_iload_n C0 4 dX6_pairsFrom_179 rfl rfl ?_
                            refine j_iconst C0 (v := 1) dX6_pairsFrom_180 (by decide) ?_
                            refine j_iload_n C0 3 dX6_pairsFrom_181 rfl rfl ?_
                            refine j_ishl C0 dX6_pairsFrom_182 ?_
                            refine j_ior C0 dX6_pairsFrom_183 ?_
                            refine j_iconst C0 (v := 1) dX6_pairsFrom_184 (by decide) ?_
                            refine j_iload C0 8 dX6_pairsFrom_185 rfl ?_
                            refine j_ishl C0 dX6_pairsFrom_187 ?_
                            refine j_ior C0 dX6_pairsFrom_188 ?_
                            refine j_iload_n C0 5 dX6_pairsFrom_189 rfl rfl ?_
                            refine j_iconst C0 (v := 1) dX6_pairsFrom_190 (by decide) ?_
                            refine j_isub C0 dX6_pairsFrom_191 ?_
                            refine j_iload C0 6 dX6_pairsFrom_192 rfl ?_
                            refine j_aload_n C0 2 dX6_pairsFrom_194 rfl rfl ?_
                            refine g_Model_s C0 w_800 dX6_pairsFrom_195 ?_
                            refine j_iload C0 1 dX6_pairsFrom_198 rfl ?_
                            refine j_iload C0 0 dX6_pairsFrom_200 rfl ?_
                            refine j_callSi C0 (c_X6_joysOf l z _ 1 rw4_1 _ _ (vin9 hx) (vin9 hx)) yk_X6_joysOf w_913 ⟨by first | omega | (dsimp only; omega), by first | omega | (dsimp only; omega)⟩ rfl rfl (Nat.le_of_ble_eq_true rfl) dX6_pairsFrom_202 ?_
                            refine j_iadd C0 dX6_pairsFrom_205 ?_
                            refine j_callVv C0 (hF _ _ _ _ _ (dp_up hD c_7 (NQ_up hN1 (by decide)) hI) (InM_up (InM_NQ hN1 hI) (by omega) (by omega) (by decide))) yk_X6_pairsFrom w_998 (fun H locs hP _ => recvW C0 hP 0 (by decide) celM_0 rfl) ⟨by first | omega | (dsimp only; omega), by first | omega | (dsimp only; omega)⟩ rfl rfl (Nat.le_of_ble_eq_true rfl) dX6_pairsFrom_206 ?_
                            refine j_aload_n C0 2 dX6_pairsFrom_209 rfl rfl ?_
                            refine g_Model_watchedBy C0 w_809 dX6_pairsFrom_210 ?_
                            refine j_iload C0 1 dX6_pairsFrom_213 rfl ?_
                            refine j_bipush C0 (v := 9) dX6_pairsFrom_215 (by decide) ?_
                            refine s_M C0 (by decide) hx dX6_pairsFrom_217 ?_
                            refine j_iinc C0 (lv' := [(6, _), (8, _), (7, _), (0, _), (1, _), (2, _), (3, _), (4, _), (5, _)]) (v := _ + (1)) 8 dX6_pairsFrom_218 rfl (by rfl) (by decide) rfl ?_
                            refine j_goto C0 102 dX6_pairsFrom_221 (by decide) ?_
                            exact j_sub [3, 4, 5, 6, 7, 8, 0] rfl (ih1 _ _ (lc_stepN hL1 (hN1 1 0 (by decide) (by decide) (by decide) ▸ c_110)) (by first | with_reducible exact hN1 | exact NQ_up (NQ_tr (NQ_up hN1 (by decide)) (hFN _ _ _ _ _)) (by decide)))
                      · refine j_iload_n C0 2 dX6_pairsFrom_136 rfl rfl ?_
                        refine j_istore C0 (lv' := [(8, _), (7, _), (0, _), (1, _), (2, _), (3, _), (4, _), (5, _), (6, _)]) dX6_pairsFrom_137 (by decide) rfl ?_
                        refine j_iload_n C0 4 dX6_pairsFrom_139 rfl rfl ?_
                        refine j_iload C0 8 dX6_pairsFrom_140 rfl ?_
                        refine j_ishr C0 dX6_pairsFrom_142 ?_
                        refine j_iconst C0 (v := 1) dX6_pairsFrom_143 (by decide) ?_
                        refine j_iand C0 dX6_pairsFrom_144 ?_
                        refine j_iconst C0 (v := 1) dX6_pairsFrom_145 (by decide) ?_
                        refine j_icmp_eq C0 218 dX6_pairsFrom_146 (by decide) (fun c_146 => ?_) (fun c_146 => ?_)
                        · refine j_iinc C0 (lv' := [(6, _), (8, _), (7, _), (0, _), (1, _), (2, _), (3, _), (4, _), (5, _)]) (v := _ + (1)) 8 dX6_pairsFrom_218 rfl (by rfl) (by decide) rfl ?_
                          refine j_goto C0 102 dX6_pairsFrom_221 (by decide) ?_
                          exact j_sub [3, 4, 5, 6, 7, 8, 0] rfl (ih1 _ _ (lc_stepN hL1 (hN1 1 0 (by decide) (by decide) (by decide) ▸ c_110)) (by first | with_reducible exact hN1 | exact NQ_up (NQ_tr (NQ_up hN1 (by decide)) (hFN _ _ _ _ _)) (by decide)))
                        · refine j_aload_n C0 2 dX6_pairsFrom_149 rfl rfl ?_
                          refine g_Model_s C0 w_800 dX6_pairsFrom_150 ?_
                          refine j_iload C0 1 dX6_pairsFrom_153 rfl ?_
                          refine j_iload C0 0 dX6_pairsFrom_155 rfl ?_
                          refine j_callSi C0 (c_X6_canEat l z _ 1 rw4_1 _ _ (vin9 hx) (vin9 hv0)) yk_X6_canEat w_904 ⟨by first | omega | (dsimp only; omega), by first | omega | (dsimp only; omega)⟩ rfl rfl (Nat.le_of_ble_eq_true rfl) dX6_pairsFrom_157 ?_
                          refine j_if_ne C0 166 dX6_pairsFrom_160 (by decide) (fun c_160 => ?_) (fun c_160 => ?_)
                          · refine j_goto C0 218 dX6_pairsFrom_163 (by decide) ?_
                            refine j_iinc C0 (lv' := [(6, _), (8, _), (7, _), (0, _), (1, _), (2, _), (3, _), (4, _), (5, _)]) (v := _ + (1)) 8 dX6_pairsFrom_218 rfl (by rfl) (by decide) rfl ?_
                            refine j_goto C0 102 dX6_pairsFrom_221 (by decide) ?_
                            exact j_sub [3, 4, 5, 6, 7, 8, 0] rfl (ih1 _ _ (lc_stepN hL1 (hN1 1 0 (by decide) (by decide) (by decide) ▸ c_110)) (by first | with_reducible exact hN1 | exact NQ_up (NQ_tr (NQ_up hN1 (by decide)) (hFN _ _ _ _ _)) (by decide)))
                          · refine j_aload_n C0 2 dX6_pairsFrom_166 rfl rfl ?_
                            refine g_Model_watchedBy C0 w_809 dX6_pairsFrom_167 ?_
                            refine j_iload C0 1 dX6_pairsFrom_170 rfl ?_
                            refine j_iload C0 0 dX6_pairsFrom_172 rfl ?_
                            refine s_M C0 (by decide) hx dX6_pairsFrom_174 ?_
                            refine j_aload_n C0 2 dX6_pairsFrom_175 rfl rfl ?_
                            refine j_iload_n C0 3 dX6_pairsFrom_176 rfl rfl ?_
                            refine j_iconst C0 (v := 1) dX6_pairsFrom_177 (by decide) ?_
                            refine j_iadd C0 dX6_pairsFrom_178 ?_
                            refine j_iload_n C0 4 dX6_pairsFrom_179 rfl rfl ?_
                            refine j_iconst C0 (v := 1) dX6_pairsFrom_180 (by decide) ?_
                            refine j_iload_n C0 3 dX6_pairsFrom_181 rfl rfl ?_
                            refine j_ishl C0 dX6_pairsFrom_182 ?_
                            refine j_ior C0 dX6_pairsFrom_183 ?_
                            refine j_iconst C0 (v := 1) dX6_pairsFrom_184 (by decide) ?_
                            refine j_iload C0 8 dX6_pairsFrom_185 rfl ?_
                            refine j_ishl C0 dX6_pairsFrom_187 ?_
                            refine j_ior C0 dX6_pairsFrom_188 ?_
                            refine j_iload_n C0 5 dX6_pairsFrom_189 rfl rfl ?_
                            refine j_iconst C0 (v := 1) dX6_pairsFrom_190 (by decide) ?_
                            refine j_isub C0 dX6_pairsFrom_191 ?_
                            refine j_iload C0 6 dX6_pairsFrom_192 rfl ?_
                            refine j_aload_n C0 2 dX6_pairsFrom_194 rfl rfl ?_
                            refine g_Model_s C0 w_800 dX6_pairsFrom_195 ?_
                            refine j_iload C0 1 dX6_pairsFrom_198 rfl ?_
                            refine j_iload C0 0 dX6_pairsFrom_200 rfl ?_
                            refine j_callSi C0 (c_X6_joysOf l z _ 1 rw4_1 _ _ (vin9 hx) (vin9 hv0)) yk_X6_joysOf w_913 ⟨by first | omega | (dsimp only; omega), by first | omega | (dsimp only; omega)⟩ rfl rfl (Nat.le_of_ble_eq_true rfl) dX6_pairsFrom_202 ?_
                            refine j_iadd C0 dX6_pairsFrom_205 ?_
                            refine j_callVv C0 (hF _ _ _ _ _ (dp_up hD c_7 (NQ_up hN1 (by decide)) hI) (InM_up (InM_NQ hN1 hI) (by omega) (by omega) (by decide))) yk_X6_pairsFrom w_998 (fun H locs hP _ => recvW C0 hP 0 (by decide) celM_0 rfl) ⟨by first | omega | (dsimp only; omega), by first | omega | (dsimp only; omega)⟩ rfl rfl (Nat.le_of_ble_eq_true rfl) dX6_pairsFrom_206 ?_
                            refine j_aload_n C0 2 dX6_pairsFrom_209 rfl rfl ?_
                            refine g_Model_watchedBy C0 w_809 dX6_pairsFrom_210 ?_
                            refine j_iload C0 1 dX6_pairsFrom_213 rfl ?_
                            refine j_bipush C0 (v := 9) dX6_pairsFrom_215 (by decide) ?_
                            refine s_M C0 (by decide) hx dX6_pairsFrom_217 ?_
                            refine j_iinc C0 (lv' := [(6, _), (8, _), (7, _), (0, _), (1, _), (2, _), (3, _), (4, _), (5, _)]) (v := _ + (1)) 8 dX6_pairsFrom_218 rfl (by rfl) (by decide) rfl ?_
                            refine j_goto C0 102 dX6_pairsFrom_221 (by decide) ?_
                            exact j_sub [3, 4, 5, 6, 7, 8, 0] rfl (ih1 _ _ (lc_stepN hL1 (hN1 1 0 (by decide) (by decide) (by decide) ▸ c_110)) (by first | with_reducible exact hN1 | exact NQ_up (NQ_tr (NQ_up hN1 (by decide)) (hFN _ _ _ _ _)) (by decide)))
              exact j_sub [1, 2, 3, 4, 5, 6, 0] rfl (L102 9 _ _ (pf_lc hD c_7 hI) hN0)
      exact j_sub [1, 2, 3, 4, 5, 0] rfl (L87 3 _ _ (lc_0 (by decide) (by decide)) NQ_rf)
theorem fb22_NQ {g : Mem} {F : Mem → Int32 → Int32 → Int32 → Int32 → Mem} {p0 p1 p2 p3 : Int32} {q : Mem} (h0 : NQ q g) : ∀ (n : Nat) (c5 : Int32) (a : Mem), NQ q a → NQ q (fb_X6_pairsFrom_22 g F p0 p1 p2 p3 n c5 a) := by
  intro n
  induction n with
  | zero => intro c5 a h; exact h0
  | succ n ih =>
    intro c5 a h
    rw [fb_X6_pairsFrom_22]
    split
    · exact NQ_up h (by decide)
    · exact ih _ _ (NQ_up h (by decide))
theorem fb102_NQ {g : Mem} {F : Mem → Int32 → Int32 → Int32 → Int32 → Mem} (hFN : ∀ (g : Mem) (a b c d : Int32), NQ g (F g a b c d)) {p0 p1 p2 p3 : Int32} {K : Int32 → Mem → Mem} (hK : ∀ x y, NQ g y → NQ g (K x y)) {a5 : Int32} {g0 : Mem} : ∀ (n : Nat) (a6 : Int32) (a : Mem), NQ g a → NQ g (fb_X6_pairsFrom_102 g F p0 p1 p2 p3 K a5 g0 n a6 a) := by
  intro n
  induction n with
  | zero => intro a6 a h; exact NQ_rf
  | succ n ih =>
    intro a6 a h
    rw [fb_X6_pairsFrom_102]
    repeat' split
    all_goals first | (with_reducible exact hK _ _ h) | (with_reducible exact ih _ _ h) | exact ih _ _ (NQ_up (NQ_tr (NQ_up h (by decide)) (hFN _ _ _ _ _)) (by decide))
theorem fb87_NQ {g : Mem} {F : Mem → Int32 → Int32 → Int32 → Int32 → Mem} (hFN : ∀ (g : Mem) (a b c d : Int32), NQ g (F g a b c d)) {p0 p1 p2 p3 : Int32} : ∀ (n : Nat) (a5 : Int32) (a : Mem), NQ g a → NQ g (fb_X6_pairsFrom_87 g F p0 p1 p2 p3 n a5 a) := by
  intro n
  induction n with
  | zero => intro a5 a h; exact NQ_rf
  | succ n ih =>
    intro a5 a h
    rw [fb_X6_pairsFrom_87]
    repeat' split
    all_goals first | exact NQ_tr h (hFN _ _ _ _ _) | exact fb102_NQ hFN (fun x y hy => ih x y hy) _ _ _ h
theorem fb_NQ {F : Mem → Int32 → Int32 → Int32 → Int32 → Mem} (hFN : ∀ (g : Mem) (a b c d : Int32), NQ g (F g a b c d)) (g : Mem) (p0 p1 p2 p3 : Int32) : NQ g (fb_X6_pairsFrom g F p0 p1 p2 p3) := by
  unfold fb_X6_pairsFrom
  repeat' split
  all_goals first | exact NQ_up NQ_rf (by decide) | exact fb22_NQ NQ_rf _ _ _ NQ_rf | exact hFN _ _ _ _ _ | exact fb87_NQ hFN _ _ _ NQ_rf
/-- the search, so deep -/
def fr_X6_pairsFrom : Nat → Mem → Int32 → Int32 → Int32 → Int32 → Mem
  | 0 => fun g _ _ _ _ => g
  | n + 1 => fun g a b c d => fb_X6_pairsFrom g (fr_X6_pairsFrom n) a b c d
theorem fr_NQ : ∀ (n : Nat) (g : Mem) (a b c d : Int32), NQ g (fr_X6_pairsFrom n g a b c d)
  | 0, _, _, _, _, _ => NQ_rf
  | n + 1, g, a, b, c, d => fb_NQ (fr_NQ n) g a b c d
theorem cn_X6_pairsFrom (l : Launch) (z : ZM) : ∀ (n : Nat) (g : Mem) (a b c d : Int32), DP n g a → InM g → ctM l yX6_pairsFrom cX6_pairsFrom 9 none (n + 4) (28 * n + 86) z g [.ref (yad z 0), .int a, .int b, .int c, .int d] (qVM z (fr_X6_pairsFrom n g a b c d)) := by
  intro n
  induction n with
  | zero =>
    intro g a b c d h _
    obtain ⟨h1, h2, h3⟩ := h
    exact absurd h3 (by omega)
  | succ n ih => intro g a b c d h hI; exact cb_X6_pairsFrom l z g n (fr_X6_pairsFrom n) (fr_NQ n) ih a b c d h hI
def f_X6_pairsFrom (g : Mem) (a b c d : Int32) : Mem := fr_X6_pairsFrom 9 g a b c d
theorem c_X6_pairsFrom (l : Launch) (z : ZM) (g : Mem) (a b c d : Int32) (h : DP 9 g a) (hI : InM g) : ctM l yX6_pairsFrom cX6_pairsFrom 9 none 13 338 z g [.ref (yad z 0), .int a, .int b, .int c, .int d] (qVM z (f_X6_pairsFrom g a b c d)) := cn_X6_pairsFrom l z 9 g a b c d h hI
theorem InM_pf {g : Mem} (h : InM g) {a b c d : Int32} : InM (f_X6_pairsFrom g a b c d) := InM_NQ (fr_NQ 9 g a b c d) h
