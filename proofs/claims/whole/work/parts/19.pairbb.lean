def f_X2_readJoys_12 (g : Mem) (t : Nat) (K0 : Int32 → Mem → Mem) (a2 : Int32) (g_2 : Mem) : Nat → Int32 → Mem → Mem
  | 0, _, _ => g
  | n1 + 1, b3, g_12 => if (g_12 48 4) ≤ b3 then (K0 (a2 + (1 : Int32)) g_12) else (if (f_X0_canEat g_12 t a2 b3) = 0 then (f_X2_readJoys_12 g t K0 a2 g_2 n1 (b3 + (1 : Int32)) (up g_12 50 (ix ((a2 * (8 : Int32)) + b3)) (-4 : Int32))) else (f_X2_readJoys_12 g t K0 a2 g_2 n1 (b3 + (1 : Int32)) (up g_12 50 (ix ((a2 * (8 : Int32)) + b3)) (f_X0_joysOf g_12 t a2 b3))))
def f_X2_readJoys_2 (g : Mem) (t : Nat) : Nat → Int32 → Mem → Mem
  | 0, _, _ => g
  | n0 + 1, a2, g_2 => if (g_2 48 4) ≤ a2 then (g_2) else (f_X2_readJoys_12 g t (fun a2' g_2' => f_X2_readJoys_2 g t n0 a2' g_2') a2 g_2 9 (0 : Int32) g_2)
def f_X2_readJoys (g : Mem) (t : Nat) : Mem := f_X2_readJoys_2 g t 9 (0 : Int32) g
theorem yk_X2_readJoys : yokV yX2_readJoys RX2 cX2_readJoys 5 none 1 := ⟨w_413, w_412, wp_10, w_6, by decide +kernel⟩
set_option maxHeartbeats 4000000 in
set_option maxRecDepth 100000 in
theorem c_X2_readJoys (l : Launch) (z : ZC) (g : Mem) (t : Nat) (ht : t < 3) (hI : In g) (hz : (g 48 4).toInt ≤ 8) : ctC l yX2_readJoys cX2_readJoys 5 none 4 78 z g [.ref (zad z 48), .ref (zad z (40 + t))] (qVC z (f_X2_readJoys g t)) := by
  refine ct_of (own := RX2) (q := fun r => qVC z r) (res := f_X2_readJoys g t) (lv := [(0, .ref (zad z 48)), (1, .ref (zad z (40 + t)))]) (enokC z) rfl (by decide) (Nat.le_of_ble_eq_true rfl) rfl (fun p e s m args below meth c C0 hrt hlk => ?_)
  unfold f_X2_readJoys
  refine j_iconst C0 (v := 0) dX2_readJoys_0 (by decide) ?_
  refine j_istore_n C0 (lv' := [(2, _), (0, _), (1, _)]) dX2_readJoys_1 rfl (by decide) rfl ?_
  have L2 : ∀ (n0 : Nat) (a2 : Int32) (g_2 : Mem), lc a2 (g 48 4) n0 → NK 50 g g_2 → In g_2 → jj p l e { frames := 4, cells := 0, slots := 0, locals := 78 } s m args below meth c (zA z) (zD z) 52 (zad z) (celC z) 5 (fun r => MQ below (qVC z r) args s 0 0 (zA z)) (f_X2_readJoys_2 g t n0 a2 g_2) g_2 2 [(0, .ref (zad z 48)), (1, .ref (zad z (40 + t))), (2, .int a2)] [] := by
    intro n0
    induction n0 with
    | zero => intro a2 g_2 hL0 hN0 hI0; exact absurd hL0.2 (Nat.not_lt_zero _)
    | succ n0 ih0 =>
      intro a2 g_2 hL0 hN0 hI0
      rw [f_X2_readJoys_2]
      refine j_iload_n C0 2 dX2_readJoys_2 rfl rfl ?_
      refine j_aload_n C0 0 dX2_readJoys_3 rfl rfl ?_
      refine g_Pairing_size C0 w_112 dX2_readJoys_4 ?_
      refine j_icmp_ge C0 67 dX2_readJoys_7 (by decide) (fun c_7 => ?_) (fun c_7 => ?_)
      · exact j_vret C0 hrt hlk dX2_readJoys_67
      · refine j_iconst C0 (v := 0) dX2_readJoys_10 (by decide) ?_
        refine j_istore_n C0 (lv' := [(3, _), (0, _), (1, _), (2, _)]) dX2_readJoys_11 rfl (by decide) rfl ?_
        have L12 : ∀ (n1 : Nat) (b3 : Int32) (g_12 : Mem), lc b3 (g 48 4) n1 → NK 50 g g_12 → In g_12 → jj p l e { frames := 4, cells := 0, slots := 0, locals := 78 } s m args below meth c (zA z) (zD z) 52 (zad z) (celC z) 5 (fun r => MQ below (qVC z r) args s 0 0 (zA z)) (f_X2_readJoys_12 g t (fun a2' g_2' => f_X2_readJoys_2 g t n0 a2' g_2') a2 g_2 n1 b3 g_12) g_12 12 [(0, .ref (zad z 48)), (1, .ref (zad z (40 + t))), (2, .int a2), (3, .int b3)] [] := by
          intro n1
          induction n1 with
          | zero => intro b3 g_12 hL1 hN1 hI1; exact absurd hL1.2 (Nat.not_lt_zero _)
          | succ n1 ih1 =>
            intro b3 g_12 hL1 hN1 hI1
            rw [f_X2_readJoys_12]
            refine j_iload_n C0 3 dX2_readJoys_12 rfl rfl ?_
            refine j_aload_n C0 0 dX2_readJoys_13 rfl rfl ?_
            refine g_Pairing_size C0 w_112 dX2_readJoys_14 ?_
            refine j_icmp_ge C0 61 dX2_readJoys_17 (by decide) (fun c_17 => ?_) (fun c_17 => ?_)
            · refine j_iinc C0 (lv' := [(2, _), (0, _), (1, _), (3, _)]) (v := _ + (1)) 2 dX2_readJoys_61 rfl (by rfl) (by decide) rfl ?_
              refine j_goto C0 2 dX2_readJoys_64 (by decide) ?_
              exact j_sub [1, 2, 0] rfl (ih0 _ _ (lc_stepN hL0 (hN0 48 4 (by decide) ▸ c_7)) hN1 hI1)
            · refine j_aload_n C0 1 dX2_readJoys_20 rfl rfl ?_
              refine j_iload_n C0 2 dX2_readJoys_21 rfl rfl ?_
              refine j_iload_n C0 3 dX2_readJoys_22 rfl rfl ?_
              refine j_callVi C0 (c_X0_canEat l z _ t ht _ _ hI1) yk_X0_canEat w_414 (fun H locs hP _ => recvW C0 hP _ (by have := ht; omega) (cel_fete ht) rfl) ⟨Nat.le_of_ble_eq_true rfl, Nat.le_of_ble_eq_true rfl⟩ rfl rfl (Nat.le_of_ble_eq_true rfl) dX2_readJoys_23 ?_
              refine j_if_eq C0 38 dX2_readJoys_26 (by decide) (fun c_26 => ?_) (fun c_26 => ?_)
              · refine j_bipush C0 (v := (-4)) dX2_readJoys_38 (by decide) ?_
                refine j_istore C0 (lv' := [(4, _), (0, _), (1, _), (2, _), (3, _)]) dX2_readJoys_40 (by decide) rfl ?_
                refine j_aload_n C0 1 dX2_readJoys_42 rfl rfl ?_
                refine g_Pairing_joysOfTwo C0 w_110 dX2_readJoys_43 ?_
                refine j_iload_n C0 3 dX2_readJoys_46 rfl rfl ?_
                refine j_bipush C0 (v := 8) dX2_readJoys_47 (by decide) ?_
                refine j_imul C0 dX2_readJoys_49 ?_
                refine j_iload_n C0 4 dX2_readJoys_50 rfl rfl ?_
                refine j_iadd C0 dX2_readJoys_51 ?_
                refine j_iload C0 0 dX2_readJoys_52 rfl ?_
                refine s_joysOfTwo C0 (idx_joys (vin_lc hL0 (hN0 48 4 (by decide) ▸ c_7) hz) (vin_lc hL1 (hN1 48 4 (by decide) ▸ c_17) hz)) dX2_readJoys_54 ?_
                refine j_iinc C0 (lv' := [(3, _), (4, _), (0, _), (1, _), (2, _)]) (v := _ + (1)) 4 dX2_readJoys_55 rfl (by rfl) (by decide) rfl ?_
                refine j_goto C0 12 dX2_readJoys_58 (by decide) ?_
                exact j_sub [2, 3, 4, 0] rfl (ih1 _ _ (lc_stepN hL1 (hN1 48 4 (by decide) ▸ c_17)) (NK_up hN1) (In_up_hi hI1 (by decide)))
              · have hv1 := canEat_in hI1 ht c_26
                refine j_aload_n C0 1 dX2_readJoys_29 rfl rfl ?_
                refine j_iload_n C0 2 dX2_readJoys_30 rfl rfl ?_
                refine j_iload_n C0 3 dX2_readJoys_31 rfl rfl ?_
                refine j_callVi C0 (c_X0_joysOf l z _ t ht _ _ hv1.1 hv1.2 hI1) yk_X0_joysOf w_415 (fun H locs hP _ => recvW C0 hP _ (by have := ht; omega) (cel_fete ht) rfl) ⟨Nat.le_of_ble_eq_true rfl, Nat.le_of_ble_eq_true rfl⟩ rfl rfl (Nat.le_of_ble_eq_true rfl) dX2_readJoys_32 ?_
                refine j_goto C0 40 dX2_readJoys_35 (by decide) ?_
                refine j_istore C0 (lv' := [(4, _), (0, _), (1, _), (2, _), (3, _)]) dX2_readJoys_40 (by decide) rfl ?_
                refine j_aload_n C0 1 dX2_readJoys_42 rfl rfl ?_
                refine g_Pairing_joysOfTwo C0 w_110 dX2_readJoys_43 ?_
                refine j_iload_n C0 3 dX2_readJoys_46 rfl rfl ?_
                refine j_bipush C0 (v := 8) dX2_readJoys_47 (by decide) ?_
                refine j_imul C0 dX2_readJoys_49 ?_
                refine j_iload_n C0 4 dX2_readJoys_50 rfl rfl ?_
                refine j_iadd C0 dX2_readJoys_51 ?_
                refine j_iload C0 0 dX2_readJoys_52 rfl ?_
                refine s_joysOfTwo C0 (idx_joys (vin_lc hL0 (hN0 48 4 (by decide) ▸ c_7) hz) (vin_lc hL1 (hN1 48 4 (by decide) ▸ c_17) hz)) dX2_readJoys_54 ?_
                refine j_iinc C0 (lv' := [(3, _), (4, _), (0, _), (1, _), (2, _)]) (v := _ + (1)) 4 dX2_readJoys_55 rfl (by rfl) (by decide) rfl ?_
                refine j_goto C0 12 dX2_readJoys_58 (by decide) ?_
                exact j_sub [2, 3, 4, 0] rfl (ih1 _ _ (lc_stepN hL1 (hN1 48 4 (by decide) ▸ c_17)) (NK_up hN1) (In_up_hi hI1 (by decide)))
        exact j_sub [1, 2, 3, 0] rfl (L12 9 _ _ (lc_0 (by omega) (by decide)) hN0 hI0)
  exact j_sub [1, 2, 0] rfl (L2 9 _ _ (lc_0 (by omega) (by decide)) NK.rf hI)
theorem rj_L1 {P : Mem → Prop} (hP : ∀ (g2 : Mem) (f : Nat) (v : Int32), P g2 → P (up g2 50 f v)) {g : Mem} {t : Nat} {K : Int32 → Mem → Mem} {a2 : Int32} {gg : Mem} (hK : ∀ a g2, P g2 → P (K a g2)) : ∀ (n : Nat) (b3 : Int32) (g2 : Mem), P g2 → P g → P (f_X2_readJoys_12 g t K a2 gg n b3 g2) := by
  intro n
  induction n with
  | zero => intro b3 g2 h hg; exact hg
  | succ n ih =>
    intro b3 g2 h hg
    rw [f_X2_readJoys_12]
    split
    · exact hK _ _ h
    · split
      · exact ih _ _ (hP _ _ _ h) hg
      · exact ih _ _ (hP _ _ _ h) hg
theorem rj_L0 {P : Mem → Prop} (hP : ∀ (g2 : Mem) (f : Nat) (v : Int32), P g2 → P (up g2 50 f v)) {g : Mem} {t : Nat} : ∀ (n : Nat) (a2 : Int32) (g2 : Mem), P g2 → P g → P (f_X2_readJoys_2 g t n a2 g2) := by
  intro n
  induction n with
  | zero => intro a2 g2 h hg; exact hg
  | succ n ih =>
    intro a2 g2 h hg
    rw [f_X2_readJoys_2]
    split
    · exact h
    · exact rj_L1 hP (fun a g3 h3 => ih a g3 h3 hg) 9 0 g2 h hg
theorem In_readJoys {g : Mem} (hI : In g) {t : Nat} : In (f_X2_readJoys g t) := rj_L0 (P := In) (fun _ _ _ h => In_up_hi h (by decide)) 9 0 g hI hI
theorem NK_readJoys {g : Mem} {t : Nat} : NK 50 g (f_X2_readJoys g t) := rj_L0 (P := NK 50 g) (fun _ _ _ h => NK_up h) 9 0 g NK.rf NK.rf

def f_X2_choose_m1 (g : Mem) (p0 p1 : Int32) (b3 : Int32) (b4 : Int32) (b5 : Int32) (g_35 : Mem) : Mem := up g_35 49 (ix (f_X2_firstOther g_35 b5 b3 b4 (0 : Int32))) b5
def f_X2_choose_m2 (g : Mem) (p0 p1 : Int32) (b3 : Int32) (b4 : Int32) (b5 : Int32) (g_35 : Mem) : Mem := up g_35 49 (ix b5) (f_X2_firstOther g_35 b5 b3 b4 (1 : Int32))
def f_X2_choose_m3 (g : Mem) (p0 p1 : Int32) (b3 : Int32) (b4 : Int32) (b5 : Int32) (g_35 : Mem) : Mem := up g_35 49 (ix b5) (f_X2_firstOther g_35 b5 b3 b4 (1 : Int32))
def f_X2_choose_35 (g : Mem) (p0 p1 : Int32) : Nat → Int32 → Int32 → Int32 → Mem → Mem
  | 0, _, _, _, _ => g
  | n0s + 1, b3, b4, b5, g_35 => if (g_35 48 4) ≤ b5 then (g_35) else (if ((b3 >>> (b5 &&& 31)) &&& (1 : Int32)) = 0 then (f_X2_choose_35 g p0 p1 n0s b3 b4 (b5 + (1 : Int32)) g_35) else (if (f_X2_firstOther g_35 b5 b3 b4 (1 : Int32)) < 0 then (if (f_X2_firstOther g_35 b5 b3 b4 (1 : Int32)) < 0 then (if (f_X2_firstOther g_35 b5 b3 b4 (0 : Int32)) < 0 then (f_X2_choose_35 g p0 p1 n0s (b3 &&& (((1 : Int32) <<< (b5 &&& 31)) ^^^ (-1 : Int32))) b4 (b5 + (1 : Int32)) g_35) else (f_X2_choose_35 g p0 p1 n0s ((b3 &&& (((1 : Int32) <<< (b5 &&& 31)) ^^^ (-1 : Int32))) &&& (((1 : Int32) <<< ((f_X2_firstOther g_35 b5 b3 b4 (0 : Int32)) &&& 31)) ^^^ (-1 : Int32))) (b4 + (-1 : Int32)) (b5 + (1 : Int32)) (f_X2_choose_m1 g p0 p1 b3 b4 b5 g_35))) else (f_X2_choose_35 g p0 p1 n0s ((b3 &&& (((1 : Int32) <<< (b5 &&& 31)) ^^^ (-1 : Int32))) &&& (((1 : Int32) <<< ((f_X2_firstOther g_35 b5 b3 b4 (1 : Int32)) &&& 31)) ^^^ (-1 : Int32))) (b4 + (-1 : Int32)) (b5 + (1 : Int32)) (f_X2_choose_m2 g p0 p1 b3 b4 b5 g_35))) else (if (f_X2_firstOther g_35 b5 b3 b4 (1 : Int32)) < 0 then (f_X2_choose_35 g p0 p1 n0s (b3 &&& (((1 : Int32) <<< (b5 &&& 31)) ^^^ (-1 : Int32))) b4 (b5 + (1 : Int32)) g_35) else (f_X2_choose_35 g p0 p1 n0s ((b3 &&& (((1 : Int32) <<< (b5 &&& 31)) ^^^ (-1 : Int32))) &&& (((1 : Int32) <<< ((f_X2_firstOther g_35 b5 b3 b4 (1 : Int32)) &&& 31)) ^^^ (-1 : Int32))) (b4 + (-1 : Int32)) (b5 + (1 : Int32)) (f_X2_choose_m3 g p0 p1 b3 b4 b5 g_35)))))
def f_X2_choose_m4 (g : Mem) (p0 p1 : Int32) (a5 : Int32) (g_8 : Mem) : Mem := up g_8 49 (ix a5) (9 : Int32)
def f_X2_choose_8 (g : Mem) (p0 p1 : Int32) : Nat → Int32 → Mem → Mem
  | 0, _, _ => g
  | n0 + 1, a5, g_8 => if (g_8 48 4) ≤ a5 then (f_X2_choose_35 g p0 p1 9 p1 p0 (0 : Int32) g_8) else (f_X2_choose_8 g p0 p1 n0 (a5 + (1 : Int32)) (f_X2_choose_m4 g p0 p1 a5 g_8))
def f_X2_choose (g : Mem) (p0 p1 : Int32) : Mem := f_X2_choose_8 g p0 p1 9 (0 : Int32) g
theorem yk_X2_choose : yokV yX2_choose RX2 cX2_choose 8 none 2 := ⟨w_433, w_432, wp_14, w_6, by decide +kernel⟩
set_option maxHeartbeats 4000000 in
set_option maxRecDepth 100000 in
theorem c_X2_choose (l : Launch) (z : ZC) (g : Mem) (p0 p1 : Int32) (hs0 : vp_in p0 5) (hf0 : vp_in p1 256) (hI : In g) (hz : (g 48 4).toInt ≤ 8) : ctC l yX2_choose cX2_choose 8 none 2 54 z g [.ref (zad z 48), .int p0, .int p1] (qVC z (f_X2_choose g p0 p1)) := by
  refine ct_of (own := RX2) (q := fun r => qVC z r) (res := f_X2_choose g p0 p1) (lv := [(0, .ref (zad z 48)), (1, .int p0), (2, .int p1)]) (enokC z) rfl (by decide) (Nat.le_of_ble_eq_true rfl) rfl (fun p e s m args below meth c C0 hrt hlk => ?_)
  unfold f_X2_choose
  refine j_iload_n C0 2 dX2_choose_0 rfl rfl ?_
  refine j_istore_n C0 (lv' := [(3, _), (0, _), (1, _), (2, _)]) dX2_choose_1 rfl (by decide) rfl ?_
  refine j_iload_n C0 2 dX2_choose_2 rfl rfl ?_
  refine j_istore C0 (lv' := [(4, _), (3, _), (0, _), (1, _), (2, _)]) dX2_choose_3 (by decide) rfl ?_
  refine j_iconst C0 (v := 0) dX2_choose_5 (by decide) ?_
  refine j_istore C0 (lv' := [(5, _), (4, _), (3, _), (0, _), (1, _), (2, _)]) dX2_choose_6 (by decide) rfl ?_
  have L8 : ∀ (n0 : Nat) (a5 : Int32) (g_8 : Mem), lc a5 (g 48 4) n0 → NK 49 g g_8 → In g_8 → jj p l e { frames := 2, cells := 0, slots := 0, locals := 54 } s m args below meth c (zA z) (zD z) 52 (zad z) (celC z) 8 (fun r => MQ below (qVC z r) args s 0 0 (zA z)) (f_X2_choose_8 g p0 p1 n0 a5 g_8) g_8 8 [(0, .ref (zad z 48)), (1, .int p0), (2, .int p1), (3, .int p1), (4, .int p0), (5, .int a5)] [] := by
    intro n0
    induction n0 with
    | zero => intro a5 g_8 hL0 hN0 hI0; exact absurd hL0.2 (Nat.not_lt_zero _)
    | succ n0 ih0 =>
      intro a5 g_8 hL0 hN0 hI0
      rw [f_X2_choose_8]
      refine j_iload C0 5 dX2_choose_8 rfl ?_
      refine j_aload_n C0 0 dX2_choose_10 rfl rfl ?_
      refine g_Pairing_size C0 w_112 dX2_choose_11 ?_
      refine j_icmp_ge C0 32 dX2_choose_14 (by decide) (fun c_14 => ?_) (fun c_14 => ?_)
      · refine j_iconst C0 (v := 0) dX2_choose_32 (by decide) ?_
        refine j_istore C0 (lv' := [(5, _), (0, _), (1, _), (2, _), (3, _), (4, _)]) dX2_choose_33 (by decide) rfl ?_
        have L35 : ∀ (n0s : Nat) (b3 : Int32) (b4 : Int32) (b5 : Int32) (g_35 : Mem), lc b5 (g 48 4) n0s → NK 49 g g_35 → In g_35 → vp_in b3 256 → vp_in b4 5 → jj p l e { frames := 2, cells := 0, slots := 0, locals := 54 } s m args below meth c (zA z) (zD z) 52 (zad z) (celC z) 8 (fun r => MQ below (qVC z r) args s 0 0 (zA z)) (f_X2_choose_35 g p0 p1 n0s b3 b4 b5 g_35) g_35 35 [(0, .ref (zad z 48)), (1, .int p0), (2, .int p1), (3, .int b3), (4, .int b4), (5, .int b5)] [] := by
          intro n0s
          induction n0s with
          | zero => intro b3 b4 b5 g_35 hL1 hN1 hI1 hf hs; exact absurd hL1.2 (Nat.not_lt_zero _)
          | succ n0s ih0s =>
            intro b3 b4 b5 g_35 hL1 hN1 hI1 hf hs
            rw [f_X2_choose_35]
            refine j_iload C0 5 dX2_choose_35 rfl ?_
            refine j_aload_n C0 0 dX2_choose_37 rfl rfl ?_
            refine g_Pairing_size C0 w_112 dX2_choose_38 ?_
            refine j_icmp_ge C0 160 dX2_choose_41 (by decide) (fun c_41 => ?_) (fun c_41 => ?_)
            · exact j_vret C0 hrt hlk dX2_choose_160
            · have hv_b5 : vp_in b5 8 := vin_lc hL1 (hN1 48 4 (by decide) ▸ c_41) hz
              refine j_iload_n C0 3 dX2_choose_44 rfl rfl ?_
              refine j_iload C0 5 dX2_choose_45 rfl ?_
              refine j_ishr C0 dX2_choose_47 ?_
              refine j_iconst C0 (v := 1) dX2_choose_48 (by decide) ?_
              refine j_iand C0 dX2_choose_49 ?_
              refine j_if_ne C0 56 dX2_choose_50 (by decide) (fun c_50 => ?_) (fun c_50 => ?_)
              · refine j_goto C0 154 dX2_choose_53 (by decide) ?_
                refine j_iinc C0 (lv' := [(5, _), (0, _), (1, _), (2, _), (3, _), (4, _)]) (v := _ + (1)) 5 dX2_choose_154 rfl (by rfl) (by decide) rfl ?_
                refine j_goto C0 35 dX2_choose_157 (by decide) ?_
                exact j_sub [1, 2, 3, 4, 5, 0] rfl (ih0s _ _ _ _ (lc_stepN hL1 (hN1 48 4 (by decide) ▸ c_41)) (by first | with_reducible exact hN1 | exact NK_up hN1) hI1 (by first | with_reducible exact hf | with_reducible exact and_in hf | with_reducible exact and_in (and_in hf)) (by first | with_reducible exact hs | with_reducible exact dec_in hs (left_ge hs hfo.2)))
              · refine j_aload_n C0 0 dX2_choose_56 rfl rfl ?_
                refine j_iload C0 5 dX2_choose_57 rfl ?_
                refine j_iload_n C0 3 dX2_choose_59 rfl rfl ?_
                refine j_iload C0 4 dX2_choose_60 rfl ?_
                refine j_iconst C0 (v := 1) dX2_choose_62 (by decide) ?_
                refine j_callVi C0 (c_X2_firstOther l z _ _ _ _ _ hv_b5 hf hs (hz_at hN1 (by decide) hz)) yk_X2_firstOther w_434 (fun H locs hP _ => recvW C0 hP _ (by decide) cel_pairing rfl) ⟨Nat.le_of_ble_eq_true rfl, Nat.le_of_ble_eq_true rfl⟩ rfl rfl (Nat.le_of_ble_eq_true rfl) dX2_choose_63 ?_
                refine j_istore C0 (lv' := [(6, _), (0, _), (1, _), (2, _), (3, _), (4, _), (5, _)]) dX2_choose_66 (by decide) rfl ?_
                refine j_iload C0 0 dX2_choose_68 rfl ?_
                refine j_if_lt C0 78 dX2_choose_70 (by decide) (fun c_70 => ?_) (fun c_70 => ?_)
                · refine j_aload_n C0 1 dX2_choose_78 rfl rfl ?_
                  refine j_iload C0 6 dX2_choose_79 rfl ?_
                  refine j_iload_n C0 4 dX2_choose_81 rfl rfl ?_
                  refine j_iload C0 5 dX2_choose_82 rfl ?_
                  refine j_iconst C0 (v := 0) dX2_choose_84 (by decide) ?_
                  refine j_callVi C0 (c_X2_firstOther l z _ _ _ _ _ hv_b5 hf hs (hz_at hN1 (by decide) hz)) yk_X2_firstOther w_434 (fun H locs hP _ => recvW C0 hP _ (by decide) cel_pairing rfl) ⟨Nat.le_of_ble_eq_true rfl, Nat.le_of_ble_eq_true rfl⟩ rfl rfl (Nat.le_of_ble_eq_true rfl) dX2_choose_85 ?_
                  refine j_istore C0 (lv' := [(7, _), (6, _), (0, _), (1, _), (2, _), (3, _), (4, _), (5, _)]) dX2_choose_88 (by decide) rfl ?_
                  refine j_iload_n C0 5 dX2_choose_90 rfl rfl ?_
                  refine j_iconst C0 (v := 1) dX2_choose_91 (by decide) ?_
                  refine j_iload C0 7 dX2_choose_92 rfl ?_
                  refine j_ishl C0 dX2_choose_94 ?_
                  refine j_iconst C0 (v := (-1)) dX2_choose_95 (by decide) ?_
                  refine j_ixor C0 dX2_choose_96 ?_
                  refine j_iand C0 dX2_choose_97 ?_
                  refine j_istore_n C0 (lv' := [(3, _), (7, _), (6, _), (0, _), (1, _), (2, _), (4, _), (5, _)]) dX2_choose_98 rfl (by decide) rfl ?_
                  refine j_iload C0 2 dX2_choose_99 rfl ?_
                  refine j_if_lt C0 128 dX2_choose_101 (by decide) (fun c_101 => ?_) (fun c_101 => ?_)
                  · refine j_iload C0 1 dX2_choose_128 rfl ?_
                    refine j_if_lt C0 154 dX2_choose_130 (by decide) (fun c_130 => ?_) (fun c_130 => ?_)
                    · refine j_iinc C0 (lv' := [(5, _), (3, _), (7, _), (6, _), (0, _), (1, _), (2, _), (4, _)]) (v := _ + (1)) 7 dX2_choose_154 rfl (by rfl) (by decide) rfl ?_
                      refine j_goto C0 35 dX2_choose_157 (by decide) ?_
                      exact j_sub [4, 5, 6, 1, 7, 0] rfl (ih0s _ _ _ _ (lc_stepN hL1 (hN1 48 4 (by decide) ▸ c_41)) (by first | with_reducible exact hN1 | exact NK_up hN1) hI1 (by first | with_reducible exact hf | with_reducible exact and_in hf | with_reducible exact and_in (and_in hf)) (by first | with_reducible exact hs | with_reducible exact dec_in hs (left_ge hs hfo.2)))
                    · have hfo := firstOther_in hI1 (hz_at hN1 (by decide) hz) hv_b5 c_130
                      refine j_aload_n C0 3 dX2_choose_133 rfl rfl ?_
                      refine g_Pairing_lookers C0 w_106 dX2_choose_134 ?_
                      refine j_iload C0 1 dX2_choose_137 rfl ?_
                      refine j_iload C0 7 dX2_choose_139 rfl ?_
                      refine s_lookers C0 hfo.1 dX2_choose_141 ?_
                      refine j_iload_n C0 0 dX2_choose_142 rfl rfl ?_
                      refine j_iconst C0 (v := 1) dX2_choose_143 (by decide) ?_
                      refine j_iload C0 1 dX2_choose_144 rfl ?_
                      refine j_ishl C0 dX2_choose_146 ?_
                      refine j_iconst C0 (v := (-1)) dX2_choose_147 (by decide) ?_
                      refine j_ixor C0 dX2_choose_148 ?_
                      refine j_iand C0 dX2_choose_149 ?_
                      refine j_istore_n C0 (lv' := [(3, _), (7, _), (6, _), (0, _), (1, _), (2, _), (4, _), (5, _)]) dX2_choose_150 rfl (by decide) rfl ?_
                      refine j_iinc C0 (lv' := [(4, _), (3, _), (7, _), (6, _), (0, _), (1, _), (2, _), (5, _)]) (v := _ + (-1)) 6 dX2_choose_151 rfl (by rfl) (by decide) rfl ?_
                      refine j_iinc C0 (lv' := [(5, _), (4, _), (3, _), (7, _), (6, _), (0, _), (1, _), (2, _)]) (v := _ + (1)) 7 dX2_choose_154 rfl (by rfl) (by decide) rfl ?_
                      refine j_goto C0 35 dX2_choose_157 (by decide) ?_
                      exact j_sub [5, 6, 7, 2, 1, 0] rfl (ih0s _ _ _ _ (lc_stepN hL1 (hN1 48 4 (by decide) ▸ c_41)) (by first | with_reducible exact hN1 | exact NK_up hN1) (In_up_hi hI1 (by decide)) (by first | with_reducible exact hf | with_reducible exact and_in hf | with_reducible exact and_in (and_in hf)) (by first | with_reducible exact hs | with_reducible exact dec_in hs (left_ge hs hfo.2)))
                  · have hfo := firstOther_in hI1 (hz_at hN1 (by decide) hz) hv_b5 c_101
                    refine j_aload_n C0 3 dX2_choose_104 rfl rfl ?_
                    refine g_Pairing_lookers C0 w_106 dX2_choose_105 ?_
                    refine j_iload C0 7 dX2_choose_108 rfl ?_
                    refine j_iload C0 2 dX2_choose_110 rfl ?_
                    refine s_lookers C0 hv_b5 dX2_choose_112 ?_
                    refine j_iload_n C0 0 dX2_choose_113 rfl rfl ?_
                    refine j_iconst C0 (v := 1) dX2_choose_114 (by decide) ?_
                    refine j_iload C0 2 dX2_choose_115 rfl ?_
                    refine j_ishl C0 dX2_choose_117 ?_
                    refine j_iconst C0 (v := (-1)) dX2_choose_118 (by decide) ?_
                    refine j_ixor C0 dX2_choose_119 ?_
                    refine j_iand C0 dX2_choose_120 ?_
                    refine j_istore_n C0 (lv' := [(3, _), (7, _), (6, _), (0, _), (1, _), (2, _), (4, _), (5, _)]) dX2_choose_121 rfl (by decide) rfl ?_
                    refine j_iinc C0 (lv' := [(4, _), (3, _), (7, _), (6, _), (0, _), (1, _), (2, _), (5, _)]) (v := _ + (-1)) 6 dX2_choose_122 rfl (by rfl) (by decide) rfl ?_
                    refine j_goto C0 154 dX2_choose_125 (by decide) ?_
                    refine j_iinc C0 (lv' := [(5, _), (4, _), (3, _), (7, _), (6, _), (0, _), (1, _), (2, _)]) (v := _ + (1)) 7 dX2_choose_154 rfl (by rfl) (by decide) rfl ?_
                    refine j_goto C0 35 dX2_choose_157 (by decide) ?_
                    exact j_sub [5, 6, 7, 2, 1, 0] rfl (ih0s _ _ _ _ (lc_stepN hL1 (hN1 48 4 (by decide) ▸ c_41)) (by first | with_reducible exact hN1 | exact NK_up hN1) (In_up_hi hI1 (by decide)) (by first | with_reducible exact hf | with_reducible exact and_in hf | with_reducible exact and_in (and_in hf)) (by first | with_reducible exact hs | with_reducible exact dec_in hs (left_ge hs hfo.2)))
                · refine j_bipush C0 (v := (-4)) dX2_choose_73 (by decide) ?_
                  refine j_goto C0 88 dX2_choose_75 (by decide) ?_
                  refine j_istore C0 (lv' := [(7, _), (6, _), (0, _), (1, _), (2, _), (3, _), (4, _), (5, _)]) dX2_choose_88 (by decide) rfl ?_
                  refine j_iload_n C0 5 dX2_choose_90 rfl rfl ?_
                  refine j_iconst C0 (v := 1) dX2_choose_91 (by decide) ?_
                  refine j_iload C0 7 dX2_choose_92 rfl ?_
                  refine j_ishl C0 dX2_choose_94 ?_
                  refine j_iconst C0 (v := (-1)) dX2_choose_95 (by decide) ?_
                  refine j_ixor C0 dX2_choose_96 ?_
                  refine j_iand C0 dX2_choose_97 ?_
                  refine j_istore_n C0 (lv' := [(3, _), (7, _), (6, _), (0, _), (1, _), (2, _), (4, _), (5, _)]) dX2_choose_98 rfl (by decide) rfl ?_
                  refine j_iload C0 2 dX2_choose_99 rfl ?_
                  refine j_if_lt C0 128 dX2_choose_101 (by decide) (fun c_101 => ?_) (fun c_101 => ?_)
                  · refine j_iload C0 1 dX2_choose_128 rfl ?_
                    refine j_if_ltT C0 154 dX2_choose_130 (by decide) (by decide) ?_
                    refine j_iinc C0 (lv' := [(5, _), (3, _), (7, _), (6, _), (0, _), (1, _), (2, _), (4, _)]) (v := _ + (1)) 7 dX2_choose_154 rfl (by rfl) (by decide) rfl ?_
                    refine j_goto C0 35 dX2_choose_157 (by decide) ?_
                    exact j_sub [4, 5, 6, 1, 7, 0] rfl (ih0s _ _ _ _ (lc_stepN hL1 (hN1 48 4 (by decide) ▸ c_41)) (by first | with_reducible exact hN1 | exact NK_up hN1) hI1 (by first | with_reducible exact hf | with_reducible exact and_in hf | with_reducible exact and_in (and_in hf)) (by first | with_reducible exact hs | with_reducible exact dec_in hs (left_ge hs hfo.2)))
                  · have hfo := firstOther_in hI1 (hz_at hN1 (by decide) hz) hv_b5 c_101
                    refine j_aload_n C0 3 dX2_choose_104 rfl rfl ?_
                    refine g_Pairing_lookers C0 w_106 dX2_choose_105 ?_
                    refine j_iload C0 7 dX2_choose_108 rfl ?_
                    refine j_iload C0 2 dX2_choose_110 rfl ?_
                    refine s_lookers C0 hv_b5 dX2_choose_112 ?_
                    refine j_iload_n C0 0 dX2_choose_113 rfl rfl ?_
                    refine j_iconst C0 (v := 1) dX2_choose_114 (by decide) ?_
                    refine j_iload C0 2 dX2_choose_115 rfl ?_
                    refine j_ishl C0 dX2_choose_117 ?_
                    refine j_iconst C0 (v := (-1)) dX2_choose_118 (by decide) ?_
                    refine j_ixor C0 dX2_choose_119 ?_
                    refine j_iand C0 dX2_choose_120 ?_
                    refine j_istore_n C0 (lv' := [(3, _), (7, _), (6, _), (0, _), (1, _), (2, _), (4, _), (5, _)]) dX2_choose_121 rfl (by decide) rfl ?_
                    refine j_iinc C0 (lv' := [(4, _), (3, _), (7, _), (6, _), (0, _), (1, _), (2, _), (5, _)]) (v := _ + (-1)) 6 dX2_choose_122 rfl (by rfl) (by decide) rfl ?_
                    refine j_goto C0 154 dX2_choose_125 (by decide) ?_
                    refine j_iinc C0 (lv' := [(5, _), (4, _), (3, _), (7, _), (6, _), (0, _), (1, _), (2, _)]) (v := _ + (1)) 7 dX2_choose_154 rfl (by rfl) (by decide) rfl ?_
                    refine j_goto C0 35 dX2_choose_157 (by decide) ?_
                    exact j_sub [5, 6, 7, 2, 1, 0] rfl (ih0s _ _ _ _ (lc_stepN hL1 (hN1 48 4 (by decide) ▸ c_41)) (by first | with_reducible exact hN1 | exact NK_up hN1) (In_up_hi hI1 (by decide)) (by first | with_reducible exact hf | with_reducible exact and_in hf | with_reducible exact and_in (and_in hf)) (by first | with_reducible exact hs | with_reducible exact dec_in hs (left_ge hs hfo.2)))
        exact j_sub [1, 2, 3, 4, 5, 0] rfl (L35 9 _ _ _ _ (lc_0 (by omega) (by decide)) hN0 hI0 hf0 hs0)
      · have hv_a5 : vp_in a5 8 := vin_lc hL0 (hN0 48 4 (by decide) ▸ c_14) hz
        refine j_aload_n C0 0 dX2_choose_17 rfl rfl ?_
        refine g_Pairing_lookers C0 w_106 dX2_choose_18 ?_
        refine j_iload C0 5 dX2_choose_21 rfl ?_
        refine j_bipush C0 (v := 9) dX2_choose_23 (by decide) ?_
        refine s_lookers C0 hv_a5 dX2_choose_25 ?_
        refine j_iinc C0 (lv' := [(5, _), (0, _), (1, _), (2, _), (3, _), (4, _)]) (v := _ + (1)) 5 dX2_choose_26 rfl (by rfl) (by decide) rfl ?_
        refine j_goto C0 8 dX2_choose_29 (by decide) ?_
        exact j_sub [1, 2, 3, 4, 5, 0] rfl (ih0 _ _ (lc_stepN hL0 (hN0 48 4 (by decide) ▸ c_14)) (NK_up hN0) (In_up_hi hI0 (by decide)))
  exact j_sub [3, 4, 5, 2, 1, 0] rfl (L8 9 _ _ (lc_0 (by omega) (by decide)) NK.rf hI)
theorem ch_L1 {P : Mem → Prop} (hP : ∀ (g2 : Mem) (f : Nat) (v : Int32), P g2 → P (up g2 49 f v)) {g : Mem} {p0 p1 : Int32} (hg : P g) : ∀ (n : Nat) (b3 b4 b5 : Int32) (g2 : Mem), P g2 → P (f_X2_choose_35 g p0 p1 n b3 b4 b5 g2) := by
  intro n
  induction n with
  | zero => intro b3 b4 b5 g2 h; exact hg
  | succ n ih =>
    intro b3 b4 b5 g2 h
    rw [f_X2_choose_35]
    repeat' split
    all_goals first | exact h | exact ih _ _ _ _ h | exact ih _ _ _ _ (hP _ _ _ h)
theorem ch_L0 {P : Mem → Prop} (hP : ∀ (g2 : Mem) (f : Nat) (v : Int32), P g2 → P (up g2 49 f v)) {g : Mem} {p0 p1 : Int32} (hg : P g) : ∀ (n : Nat) (a5 : Int32) (g2 : Mem), P g2 → P (f_X2_choose_8 g p0 p1 n a5 g2) := by
  intro n
  induction n with
  | zero => intro a5 g2 h; exact hg
  | succ n ih =>
    intro a5 g2 h
    rw [f_X2_choose_8]
    split
    · exact ch_L1 hP hg 9 _ _ _ _ h
    · exact ih _ _ (hP _ _ _ h)
theorem In_choose {g : Mem} (hI : In g) {p0 p1 : Int32} : In (f_X2_choose g p0 p1) := ch_L0 (P := In) (fun _ _ _ h => In_up_hi h (by decide)) hI 9 0 g hI
theorem NK_choose {g : Mem} {p0 p1 : Int32} : NK 49 g (f_X2_choose g p0 p1) := ch_L0 (P := NK 49 g) (fun _ _ _ h => NK_up h) NK.rf 9 0 g NK.rf
theorem fz_hz {g : Mem} (hI : In g) {t : Nat} (ht : t < 3) : (up g 48 4 (g (40 + t) 1) 48 4).toInt ≤ 8 := by
  rw [up_eq]
  exact In_sz hI ht
theorem find_B {g : Mem} {t : Nat} (ht : t < 3) : (f_X2_readJoys (up g 48 4 (g (40 + t) 1)) t) 48 4 = g (40 + t) 1 := by
  rw [NK_readJoys 48 4 (by decide), up_eq]
theorem find_S {g : Mem} {t : Nat} (ht : t < 3) : (f_X2_readJoys (up g 48 4 (g (40 + t) 1)) t) (40 + t) 2 = g (40 + t) 2 := by
  rw [NK_readJoys (40 + t) 2 (by omega), up_ne (Or.inr (by decide))]
theorem find_hz {g g2 : Mem} (hI : In g) {t : Nat} (ht : t < 3) (h : NK 51 (f_X2_readJoys (up g 48 4 (g (40 + t) 1)) t) g2) : (g2 48 4).toInt ≤ 8 := by
  rw [h 48 4 (by decide), find_B ht]
  exact In_sz hI ht
theorem find_hz2 {g g2 : Mem} (hI : In g) {t : Nat} (ht : t < 3) (h : NK 51 (f_X2_readJoys (up g 48 4 (g (40 + t) 1)) t) g2) {v : Int32} : (up g2 48 1 v 48 4).toInt ≤ 8 := by
  rw [up_ne (Or.inr (by decide))]
  exact find_hz hI ht h
theorem find_all {g : Mem} (hI : In g) {t : Nat} (ht : t < 3) : vp_in ((1 : Int32) <<< (f_X2_readJoys (up g 48 4 (g (40 + t) 1)) t 48 4 &&& 31) - 1) 256 := by
  rw [find_B ht]
  exact all_in (In_sz0 hI ht) (In_sz hI ht)
theorem find_sl {g : Mem} (hI : In g) {t : Nat} (ht : t < 3) (hsl : 0 ≤ (g (40 + t) 2).toInt) : vp_in (if f_X2_readJoys (up g 48 4 (g (40 + t) 1)) t 48 4 / 2 < f_X2_readJoys (up g 48 4 (g (40 + t) 1)) t (40 + t) 2 then f_X2_readJoys (up g 48 4 (g (40 + t) 1)) t 48 4 / 2 else f_X2_readJoys (up g 48 4 (g (40 + t) 1)) t (40 + t) 2) 5 := by
  rw [find_B ht, find_S ht]
  have h0 := In_sz0 hI ht
  have h8 := In_sz hI ht
  have e2 : (2 : Int32).toInt = 2 := rfl
  have hd : (g (40 + t) 1 / 2).toInt = (g (40 + t) 1).toInt / 2 := by rw [div_toInt h0 (by omega), e2]
  split
  · exact vin_of (by omega) (by omega)
  · have : ¬ (g (40 + t) 1 / 2).toInt < (g (40 + t) 2).toInt := fun q => (by assumption : ¬ g (40 + t) 1 / 2 < g (40 + t) 2) (Int32.lt_iff_toInt_lt.mpr q)
    exact vin_of hsl (by omega)

