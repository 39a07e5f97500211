def f_X2_find_48 (g : Mem) (t : Nat) (K0 : Int32 → Mem → Mem) (a4 : Int32) (g_39 : Mem) : Nat → Int32 → Mem → Mem
  | 0, _, _ => g
  | n1 + 1, b5, g_48 => if (((1 : Int32) <<< (((f_X2_readJoys (up g 48 4 (g (40 + t) 1)) t) 48 4) &&& 31)) - (1 : Int32)) < b5 then (K0 (a4 + (1 : Int32)) g_48) else (f_X2_find_48 g t K0 a4 g_39 n1 (b5 + (1 : Int32)) (up g_48 51 (ix ((a4 * (256 : Int32)) + b5)) (f_X2_mostOf g_48 a4 b5)))
def f_X2_find_39 (g : Mem) (t : Nat) : Nat → Int32 → Mem → Mem
  | 0, _, _ => g
  | n0 + 1, a4, g_39 => if (if (((f_X2_readJoys (up g 48 4 (g (40 + t) 1)) t) 48 4) / (2 : Int32)) < ((f_X2_readJoys (up g 48 4 (g (40 + t) 1)) t) (40 + t) 2) then (((f_X2_readJoys (up g 48 4 (g (40 + t) 1)) t) 48 4) / (2 : Int32)) else ((f_X2_readJoys (up g 48 4 (g (40 + t) 1)) t) (40 + t) 2)) < a4 then ((f_X2_choose (up g_39 48 1 (g_39 51 (ix (((if (((f_X2_readJoys (up g 48 4 (g (40 + t) 1)) t) 48 4) / (2 : Int32)) < ((f_X2_readJoys (up g 48 4 (g (40 + t) 1)) t) (40 + t) 2) then (((f_X2_readJoys (up g 48 4 (g (40 + t) 1)) t) 48 4) / (2 : Int32)) else ((f_X2_readJoys (up g 48 4 (g (40 + t) 1)) t) (40 + t) 2)) * (256 : Int32)) + (((1 : Int32) <<< (((f_X2_readJoys (up g 48 4 (g (40 + t) 1)) t) 48 4) &&& 31)) - (1 : Int32)))))) (if (((f_X2_readJoys (up g 48 4 (g (40 + t) 1)) t) 48 4) / (2 : Int32)) < ((f_X2_readJoys (up g 48 4 (g (40 + t) 1)) t) (40 + t) 2) then (((f_X2_readJoys (up g 48 4 (g (40 + t) 1)) t) 48 4) / (2 : Int32)) else ((f_X2_readJoys (up g 48 4 (g (40 + t) 1)) t) (40 + t) 2)) (((1 : Int32) <<< (((f_X2_readJoys (up g 48 4 (g (40 + t) 1)) t) 48 4) &&& 31)) - (1 : Int32)))) else (f_X2_find_48 g t (fun a4' g_39' => f_X2_find_39 g t n0 a4' g_39') a4 g_39 257 (0 : Int32) g_39)
def f_X2_find (g : Mem) (t : Nat) : Mem := f_X2_find_39 g t 6 (0 : Int32) (f_X2_readJoys (up g 48 4 (g (40 + t) 1)) t)
theorem yk_X2_find : yokV yX2_find RX2 cX2_find 6 none 1 := ⟨w_409, w_407, w_408, w_6, by decide +kernel⟩
set_option maxHeartbeats 4000000 in
set_option maxRecDepth 100000 in
theorem c_X2_find (l : Launch) (z : ZC) (g : Mem) (t : Nat) (ht : t < 3) (hI : In g) (hsl : 0 ≤ (g (40 + t) 2).toInt) : ctC l yX2_find cX2_find 6 none 5 102 z g [.ref (zad z 48), .ref (zad z (40 + t))] (qVC z (f_X2_find g t)) := by
  refine ct_of (own := RX2) (q := fun r => qVC z r) (res := f_X2_find g t) (lv := [(0, .ref (zad z 48)), (1, .ref (zad z (40 + t)))]) (enokC z) rfl (by decide) (Nat.le_of_ble_eq_true rfl) rfl (fun p e s m args below meth c C0 hrt hlk => ?_)
  unfold f_X2_find
  refine j_aload_n C0 0 dX2_find_0 rfl rfl ?_
  refine j_aload_n C0 1 dX2_find_1 rfl rfl ?_
  refine g_Fete_size C0 ht w_83 dX2_find_2 ?_
  refine p_Pairing_size C0 w_112 dX2_find_5 ?_
  refine j_aload_n C0 0 dX2_find_8 rfl rfl ?_
  refine j_aload_n C0 1 dX2_find_9 rfl rfl ?_
  refine j_callVv C0 (c_X2_readJoys l z _ t ht (In_up_hi hI (by decide)) (fz_hz hI ht)) yk_X2_readJoys w_410 (fun H locs hP _ => recvW C0 hP _ (by decide) cel_pairing rfl) ⟨Nat.le_of_ble_eq_true rfl, Nat.le_of_ble_eq_true rfl⟩ rfl rfl (Nat.le_of_ble_eq_true rfl) dX2_find_10 ?_
  refine j_iconst C0 (v := 1) dX2_find_13 (by decide) ?_
  refine j_aload_n C0 0 dX2_find_14 rfl rfl ?_
  refine g_Pairing_size C0 w_112 dX2_find_15 ?_
  refine j_ishl C0 dX2_find_18 ?_
  refine j_iconst C0 (v := 1) dX2_find_19 (by decide) ?_
  refine j_isub C0 dX2_find_20 ?_
  refine j_istore_n C0 (lv' := [(2, _), (0, _), (1, _)]) dX2_find_21 rfl (by decide) rfl ?_
  refine j_aload_n C0 2 dX2_find_22 rfl rfl ?_
  refine g_Fete_slicesLeft C0 ht w_86 dX2_find_23 ?_
  refine j_aload_n C0 1 dX2_find_26 rfl rfl ?_
  refine g_Pairing_size C0 w_112 dX2_find_27 ?_
  refine j_iconst C0 (v := 2) dX2_find_30 (by decide) ?_
  refine j_idiv C0 dX2_find_31 (by decide) ?_
  refine j_mmin C0 w_416 w_313 w_9 w_314 (Nat.le_of_ble_eq_true rfl) (Nat.le_of_ble_eq_true rfl) dX2_find_32 ?_
  refine j_istore_n C0 (lv' := [(3, _), (2, _), (0, _), (1, _)]) dX2_find_35 rfl (by decide) rfl ?_
  refine j_iconst C0 (v := 0) dX2_find_36 (by decide) ?_
  refine j_istore C0 (lv' := [(4, _), (3, _), (2, _), (0, _), (1, _)]) dX2_find_37 (by decide) rfl ?_
  have L39 : ∀ (n0 : Nat) (a4 : Int32) (g_39 : Mem), lcE a4 (if (((f_X2_readJoys (up g 48 4 (g (40 + t) 1)) t) 48 4) / (2 : Int32)) < ((f_X2_readJoys (up g 48 4 (g (40 + t) 1)) t) (40 + t) 2) then (((f_X2_readJoys (up g 48 4 (g (40 + t) 1)) t) 48 4) / (2 : Int32)) else ((f_X2_readJoys (up g 48 4 (g (40 + t) 1)) t) (40 + t) 2)) n0 → NK 51 (f_X2_readJoys (up g 48 4 (g (40 + t) 1)) t) g_39 → In g_39 → jj p l e { frames := 5, cells := 0, slots := 0, locals := 102 } s m args below meth c (zA z) (zD z) 52 (zad z) (celC z) 6 (fun r => MQ below (qVC z r) args s 0 0 (zA z)) (f_X2_find_39 g t n0 a4 g_39) g_39 39 [(0, .ref (zad z 48)), (1, .ref (zad z (40 + t))), (2, .int (((1 : Int32) <<< (((f_X2_readJoys (up g 48 4 (g (40 + t) 1)) t) 48 4) &&& 31)) - (1 : Int32))), (3, .int (if (((f_X2_readJoys (up g 48 4 (g (40 + t) 1)) t) 48 4) / (2 : Int32)) < ((f_X2_readJoys (up g 48 4 (g (40 + t) 1)) t) (40 + t) 2) then (((f_X2_readJoys (up g 48 4 (g (40 + t) 1)) t) 48 4) / (2 : Int32)) else ((f_X2_readJoys (up g 48 4 (g (40 + t) 1)) t) (40 + t) 2))), (4, .int a4)] [] := by
    intro n0
    induction n0 with
    | zero => intro a4 g_39 hL0 hN0 hI0; exact absurd hL0.2 (Nat.not_lt_zero _)
    | succ n0 ih0 =>
      intro a4 g_39 hL0 hN0 hI0
      rw [f_X2_find_39]
      refine j_iload C0 4 dX2_find_39 rfl ?_
      refine j_iload_n C0 3 dX2_find_41 rfl rfl ?_
      refine j_icmp_gt C0 88 dX2_find_42 (by decide) (fun c_42 => ?_) (fun c_42 => ?_)
      · refine j_aload_n C0 0 dX2_find_88 rfl rfl ?_
        refine j_aload_n C0 0 dX2_find_89 rfl rfl ?_
        refine g_Pairing_most C0 w_111 dX2_find_90 ?_
        refine j_iload_n C0 3 dX2_find_93 rfl rfl ?_
        refine j_sipush C0 (v := 256) dX2_find_94 (by decide) ?_
        refine j_imul C0 dX2_find_97 ?_
        refine j_iload_n C0 2 dX2_find_98 rfl rfl ?_
        refine j_iadd C0 dX2_find_99 ?_
        refine a_most C0 (idx_most (find_sl hI ht hsl) (find_all hI ht)) dX2_find_100 ?_
        refine p_Pairing_mostJoys C0 w_108 dX2_find_101 ?_
        refine j_aload_n C0 0 dX2_find_104 rfl rfl ?_
        refine j_iload_n C0 3 dX2_find_105 rfl rfl ?_
        refine j_iload_n C0 2 dX2_find_106 rfl rfl ?_
        refine j_callVv C0 (c_X2_choose l z _ _ _ (find_sl hI ht hsl) (find_all hI ht) (In_up_hi hI0 (by decide)) (find_hz2 hI ht hN0)) yk_X2_choose w_430 (fun H locs hP _ => recvW C0 hP _ (by decide) cel_pairing rfl) ⟨Nat.le_of_ble_eq_true rfl, Nat.le_of_ble_eq_true rfl⟩ rfl rfl (Nat.le_of_ble_eq_true rfl) dX2_find_107 ?_
        exact j_vret C0 hrt hlk dX2_find_110
      · have ha4 : vp_in a4 5 := vin_of hL0.1 (by have h1 := vp_in_iff.mp (find_sl hI ht hsl); have h2 : ¬ _ < a4.toInt := fun q => c_42 (Int32.lt_iff_toInt_lt.mpr q); omega)
        refine j_iconst C0 (v := 0) dX2_find_45 (by decide) ?_
        refine j_istore C0 (lv' := [(5, _), (0, _), (1, _), (2, _), (3, _), (4, _)]) dX2_find_46 (by decide) rfl ?_
        have L48 : ∀ (n1 : Nat) (b5 : Int32) (g_48 : Mem), lcE b5 (((1 : Int32) <<< (((f_X2_readJoys (up g 48 4 (g (40 + t) 1)) t) 48 4) &&& 31)) - (1 : Int32)) n1 → NK 51 (f_X2_readJoys (up g 48 4 (g (40 + t) 1)) t) g_48 → In g_48 → jj p l e { frames := 5, cells := 0, slots := 0, locals := 102 } s m args below meth c (zA z) (zD z) 52 (zad z) (celC z) 6 (fun r => MQ below (qVC z r) args s 0 0 (zA z)) (f_X2_find_48 g t (fun a4' g_39' => f_X2_find_39 g t n0 a4' g_39') a4 g_39 n1 b5 g_48) g_48 48 [(0, .ref (zad z 48)), (1, .ref (zad z (40 + t))), (2, .int (((1 : Int32) <<< (((f_X2_readJoys (up g 48 4 (g (40 + t) 1)) t) 48 4) &&& 31)) - (1 : Int32))), (3, .int (if (((f_X2_readJoys (up g 48 4 (g (40 + t) 1)) t) 48 4) / (2 : Int32)) < ((f_X2_readJoys (up g 48 4 (g (40 + t) 1)) t) (40 + t) 2) then (((f_X2_readJoys (up g 48 4 (g (40 + t) 1)) t) 48 4) / (2 : Int32)) else ((f_X2_readJoys (up g 48 4 (g (40 + t) 1)) t) (40 + t) 2))), (4, .int a4), (5, .int b5)] [] := by
          intro n1
          induction n1 with
          | zero => intro b5 g_48 hL1 hN1 hI1; exact absurd hL1.2 (Nat.not_lt_zero _)
          | succ n1 ih1 =>
            intro b5 g_48 hL1 hN1 hI1
            rw [f_X2_find_48]
            refine j_iload C0 5 dX2_find_48 rfl ?_
            refine j_iload_n C0 2 dX2_find_50 rfl rfl ?_
            refine j_icmp_gt C0 82 dX2_find_51 (by decide) (fun c_51 => ?_) (fun c_51 => ?_)
            · refine j_iinc C0 (lv' := [(4, _), (0, _), (1, _), (2, _), (3, _), (5, _)]) (v := _ + (1)) 4 dX2_find_82 rfl (by rfl) (by decide) rfl ?_
              refine j_goto C0 39 dX2_find_85 (by decide) ?_
              exact j_sub [1, 2, 3, 4, 0] rfl (ih0 _ _ (lcE_step hL0 c_42 (by have := vp_in_iff.mp (find_sl hI ht hsl); omega)) hN1 hI1)
            · have hb5 : vp_in b5 256 := vin_of hL1.1 (by have h1 := vp_in_iff.mp (find_all hI ht); have h2 : ¬ _ < b5.toInt := fun q => c_51 (Int32.lt_iff_toInt_lt.mpr q); omega)
              refine j_aload_n C0 0 dX2_find_54 rfl rfl ?_
              refine g_Pairing_most C0 w_111 dX2_find_55 ?_
              refine j_iload C0 4 dX2_find_58 rfl ?_
              refine j_sipush C0 (v := 256) dX2_find_60 (by decide) ?_
              refine j_imul C0 dX2_find_63 ?_
              refine j_iload C0 5 dX2_find_64 rfl ?_
              refine j_iadd C0 dX2_find_66 ?_
              refine j_aload_n C0 0 dX2_find_67 rfl rfl ?_
              refine j_iload C0 4 dX2_find_68 rfl ?_
              refine j_iload C0 5 dX2_find_70 rfl ?_
              refine j_callVi C0 (c_X2_mostOf l z _ _ _ ha4 hb5 (find_hz hI ht hN1)) yk_X2_mostOf w_417 (fun H locs hP _ => recvW C0 hP _ (by decide) cel_pairing rfl) ⟨Nat.le_of_ble_eq_true rfl, Nat.le_of_ble_eq_true rfl⟩ rfl rfl (Nat.le_of_ble_eq_true rfl) dX2_find_72 ?_
              refine s_most C0 (idx_most ha4 hb5) dX2_find_75 ?_
              refine j_iinc C0 (lv' := [(5, _), (0, _), (1, _), (2, _), (3, _), (4, _)]) (v := _ + (1)) 5 dX2_find_76 rfl (by rfl) (by decide) rfl ?_
              refine j_goto C0 48 dX2_find_79 (by decide) ?_
              exact j_sub [1, 2, 3, 4, 5, 0] rfl (ih1 _ _ (lcE_step hL1 c_51 (by have := vp_in_iff.mp (find_all hI ht); omega)) (NK_up hN1) (In_up51 hI1 (mostOf_ge hI1 (find_hz hI ht hN1))))
        exact j_sub [1, 2, 3, 4, 5, 0] rfl (L48 257 _ _ (lcE_from (by decide) (by have := vp_in_iff.mp (find_all hI ht); have e0 : (0 : Int32).toInt = 0 := rfl; omega) (by decide)) hN0 hI0)
  exact j_sub [3, 4, 2, 1, 0] rfl (L39 6 _ _ (lcE_from (by decide) (by have := vp_in_iff.mp (find_sl hI ht hsl); have e0 : (0 : Int32).toInt = 0 := rfl; omega) (by decide)) NK.rf (In_readJoys (In_up_hi hI (by decide))))
theorem fi_L1 {P : Mem → Prop} (hP : ∀ (g2 : Mem) (f : Nat) (v : Int32), P g2 → 0 ≤ v.toInt → P (up g2 51 f v)) {g : Mem} (hI : In g) {t : Nat} (ht : t < 3) {K : Int32 → Mem → Mem} {a4 : Int32} {gg : Mem} (hg : P g) (hK : ∀ a g2, P g2 → In g2 → NK 51 (f_X2_readJoys (up g 48 4 (g (40 + t) 1)) t) g2 → P (K a g2)) : ∀ (n : Nat) (b5 : Int32) (g2 : Mem), P g2 → In g2 → NK 51 (f_X2_readJoys (up g 48 4 (g (40 + t) 1)) t) g2 → P (f_X2_find_48 g t K a4 gg n b5 g2) := by
  intro n
  induction n with
  | zero => intro b5 g2 h h1 h2; exact hg
  | succ n ih =>
    intro b5 g2 h h1 h2
    rw [f_X2_find_48]
    split
    · exact hK _ _ h h1 h2
    · have h0 := mostOf_ge h1 (find_hz hI ht h2) (p0 := a4) (p1 := b5)
      exact ih _ _ (hP _ _ _ h h0) (In_up51 h1 h0) (NK_up h2)

def f_X5_pairs (g : Mem) (p0 : Int32) : Int32 × Mem := if p0 < (-1 : Int32) then (((-1 : Int32), g)) else (if p0 < (g 40 1) then (if 0 ≤ p0 then ((((f_X2_find g 0) 49 (ix p0)), (f_X2_find g 0))) else ((((f_X2_find g 0) 48 1), (f_X2_find g 0)))) else (((-1 : Int32), g)))
def r_X5_pairs (g : Mem) (p0 : Int32) : Int32 := (f_X5_pairs g p0).1
def m_X5_pairs (g : Mem) (p0 : Int32) : Mem := (f_X5_pairs g p0).2
theorem e_X5_pairs (g : Mem) (p0 : Int32) : (r_X5_pairs g p0, m_X5_pairs g p0) = f_X5_pairs g p0 := by unfold r_X5_pairs m_X5_pairs; exact pmk_eta _
theorem yk_X5_pairs : yokV yX5_pairs RX5 cX5_pairs 2 (some .int) 1 := ⟨w_405, w_403, w_404, w_1, by decide +kernel⟩
set_option maxHeartbeats 4000000 in
set_option maxRecDepth 100000 in
theorem c_X5_pairs (l : Launch) (z : ZC) (g : Mem) (p0 : Int32) (hI : In g) (hsl : 0 ≤ (g 40 2).toInt) : ctC l yX5_pairs cX5_pairs 2 (some .int) 6 127 z g [.ref (zad z 46), .int p0] (qIC z (r_X5_pairs g p0, m_X5_pairs g p0)) := by
  rw [e_X5_pairs]
  refine ct_of (own := RX5) (q := fun r => qIC z r) (res := f_X5_pairs g p0) (lv := [(0, .ref (zad z 46)), (1, .int p0)]) (enokC z) rfl (by decide) (Nat.le_of_ble_eq_true rfl) rfl (fun p e s m args below meth c C0 hrt hlk => ?_)
  unfold f_X5_pairs
  refine j_iload_n C0 1 dX5_pairs_0 rfl rfl ?_
  refine j_iconst C0 (v := (-1)) dX5_pairs_1 (by decide) ?_
  refine j_icmp_lt C0 16 dX5_pairs_2 (by decide) (fun c_2 => ?_) (fun c_2 => ?_)
  · refine j_iconst C0 (v := (-1)) dX5_pairs_16 (by decide) ?_
    exact j_iretM C0 hrt hlk dX5_pairs_17
  · refine j_iload_n C0 1 dX5_pairs_5 rfl rfl ?_
    refine j_aload_n C0 0 dX5_pairs_6 rfl rfl ?_
    refine g_Cakes_now C0 w_157 dX5_pairs_7 ?_
    refine g_Fete_size C0 lt3_0 w_85 dX5_pairs_10 ?_
    refine j_icmp_lt C0 18 dX5_pairs_13 (by decide) (fun c_13 => ?_) (fun c_13 => ?_)
    · refine j_aload_n C0 0 dX5_pairs_18 rfl rfl ?_
      refine g_Cakes_pairing C0 w_160 dX5_pairs_19 ?_
      refine j_aload_n C0 0 dX5_pairs_22 rfl rfl ?_
      refine g_Cakes_now C0 w_157 dX5_pairs_23 ?_
      refine j_callVv C0 (c_X2_find l z _ 0 lt3_0 hI hsl) yk_X2_find w_406 (fun H locs hP _ => recvW C0 hP _ (by decide) cel_pairing rfl) ⟨Nat.le_of_ble_eq_true rfl, Nat.le_of_ble_eq_true rfl⟩ rfl rfl (Nat.le_of_ble_eq_true rfl) dX5_pairs_26 ?_
      refine j_iload_n C0 1 dX5_pairs_29 rfl rfl ?_
      refine j_if_ge C0 43 dX5_pairs_30 (by decide) (fun c_30 => ?_) (fun c_30 => ?_)
      · have hv : vp_in p0 8 := vin_of (le0_iff.mp c_30) (by have h1 := Int32.lt_iff_toInt_lt.mp c_13; have h2 := In_sz40 hI; omega)
        refine j_aload_n C0 0 dX5_pairs_43 rfl rfl ?_
        refine g_Cakes_pairing C0 w_160 dX5_pairs_44 ?_
        refine g_Pairing_lookers C0 w_107 dX5_pairs_47 ?_
        refine j_iload_n C0 1 dX5_pairs_50 rfl rfl ?_
        refine a_lookers C0 hv dX5_pairs_51 ?_
        exact j_iretM C0 hrt hlk dX5_pairs_52
      · refine j_aload_n C0 0 dX5_pairs_33 rfl rfl ?_
        refine g_Cakes_pairing C0 w_160 dX5_pairs_34 ?_
        refine g_Pairing_mostJoys C0 w_109 dX5_pairs_37 ?_
        refine j_goto C0 52 dX5_pairs_40 (by decide) ?_
        exact j_iretM C0 hrt hlk dX5_pairs_52
    · refine j_iconst C0 (v := (-1)) dX5_pairs_16 (by decide) ?_
      exact j_iretM C0 hrt hlk dX5_pairs_17
def f_X5_copy (g : Mem) (p0 p1 p2 p3 p4 : Int32) : Int32 × Mem := if (f_X5_isShelf p0) = 0 then (((-1 : Int32), g)) else (if (f_X5_isShelf p2) = 0 then (((-1 : Int32), g)) else (if (g (24 + ix p0) 1) = 0 then (((-11 : Int32), g)) else (if (g (24 + ix p2) 1) = 0 then (((-11 : Int32), g)) else (if (g (24 + ix p0) 1) = (2 : Int32) then (if (g (24 + ix p2) 1) = (2 : Int32) then (if (g (24 + ix p0) 4) = (g (24 + ix p2) 4) then (if p4 < 0 then (((-13 : Int32), g)) else (if (f_X4_hasPlaces g (ix p0) p1 p4) = 0 then (((-13 : Int32), g)) else (if (f_X4_hasPlaces g (ix p2) p3 p4) = 0 then (((-13 : Int32), g)) else ((p4, (upR g (32 + (ix p2)) (va_cpy (g (32 + (ix p0))) (g (32 + (ix p2))) (ix p1) (ix p3) (ix p4)))))))) else (((-12 : Int32), g))) else (((-12 : Int32), g))) else (((-12 : Int32), g))))))
def r_X5_copy (g : Mem) (p0 p1 p2 p3 p4 : Int32) : Int32 := (f_X5_copy g p0 p1 p2 p3 p4).1
def m_X5_copy (g : Mem) (p0 p1 p2 p3 p4 : Int32) : Mem := (f_X5_copy g p0 p1 p2 p3 p4).2
theorem e_X5_copy (g : Mem) (p0 p1 p2 p3 p4 : Int32) : (r_X5_copy g p0 p1 p2 p3 p4, m_X5_copy g p0 p1 p2 p3 p4) = f_X5_copy g p0 p1 p2 p3 p4 := by unfold r_X5_copy m_X5_copy; exact pmk_eta _
theorem yk_X5_copy : yokV yX5_copy RX5 cX5_copy 8 (some .int) 5 := ⟨w_651, w_649, w_650, w_1, by decide +kernel⟩
set_option maxHeartbeats 4000000 in
set_option maxRecDepth 100000 in
theorem c_X5_copy (l : Launch) (z : ZC) (g : Mem) (p0 p1 p2 p3 p4 : Int32) (hI : In g) : ctC l yX5_copy cX5_copy 8 (some .int) 2 42 z g [.ref (zad z 46), .int p0, .int p1, .int p2, .int p3, .int p4] (qIC z (r_X5_copy g p0 p1 p2 p3 p4, m_X5_copy g p0 p1 p2 p3 p4)) := by
  rw [e_X5_copy]
  refine ct_of (own := RX5) (q := fun r => qIC z r) (res := f_X5_copy g p0 p1 p2 p3 p4) (lv := [(0, .ref (zad z 46)), (1, .int p0), (2, .int p1), (3, .int p2), (4, .int p3), (5, .int p4)]) (enokC z) rfl (by decide) (Nat.le_of_ble_eq_true rfl) rfl (fun p e s m args below meth c C0 hrt hlk => ?_)
  unfold f_X5_copy
  refine j_iload_n C0 1 dX5_copy_0 rfl rfl ?_
  refine j_callSi C0 (c_X5_isShelf l z _ _) yk_X5_isShelf w_187 ⟨Nat.le_of_ble_eq_true rfl, Nat.le_of_ble_eq_true rfl⟩ rfl rfl (Nat.le_of_ble_eq_true rfl) dX5_copy_1 ?_
  refine j_if_eq C0 14 dX5_copy_4 (by decide) (fun c_4 => ?_) (fun c_4 => ?_)
  · refine j_iconst C0 (v := (-1)) dX5_copy_14 (by decide) ?_
    exact j_iretM C0 hrt hlk dX5_copy_15
  · have hv := isShelf_in c_4
    refine j_iload_n C0 3 dX5_copy_7 rfl rfl ?_
    refine j_callSi C0 (c_X5_isShelf l z _ _) yk_X5_isShelf w_187 ⟨Nat.le_of_ble_eq_true rfl, Nat.le_of_ble_eq_true rfl⟩ rfl rfl (Nat.le_of_ble_eq_true rfl) dX5_copy_8 ?_
    refine j_if_ne C0 16 dX5_copy_11 (by decide) (fun c_11 => ?_) (fun c_11 => ?_)
    · refine j_iconst C0 (v := (-1)) dX5_copy_14 (by decide) ?_
      exact j_iretM C0 hrt hlk dX5_copy_15
    · have hv2 := isShelf_in c_11
      refine j_aload_n C0 0 dX5_copy_16 rfl rfl ?_
      refine g_Cakes_shelves C0 w_156 dX5_copy_17 ?_
      refine j_iload_n C0 1 dX5_copy_20 rfl rfl ?_
      refine a_shelves C0 hv dX5_copy_21 ?_
      refine j_astore C0 (lv' := [(6, _), (0, _), (1, _), (2, _), (3, _), (4, _), (5, _)]) dX5_copy_22 (by decide) rfl ?_
      refine j_aload_n C0 1 dX5_copy_24 rfl rfl ?_
      refine g_Cakes_shelves C0 w_156 dX5_copy_25 ?_
      refine j_iload_n C0 4 dX5_copy_28 rfl rfl ?_
      refine a_shelves C0 hv2 dX5_copy_29 ?_
      refine j_astore C0 (lv' := [(7, _), (6, _), (0, _), (1, _), (2, _), (3, _), (4, _), (5, _)]) dX5_copy_30 (by decide) rfl ?_
      refine j_aload C0 1 dX5_copy_32 rfl ?_
      refine g_Shelf_holds C0 (vin_lt hv) w_134 dX5_copy_34 ?_
      refine j_if_eq C0 48 dX5_copy_37 (by decide) (fun c_37 => ?_) (fun c_37 => ?_)
      · refine j_bipush C0 (v := (-11)) dX5_copy_48 (by decide) ?_
        exact j_iretM C0 hrt hlk dX5_copy_50
      · refine j_aload C0 0 dX5_copy_40 rfl ?_
        refine g_Shelf_holds C0 (vin_lt hv2) w_134 dX5_copy_42 ?_
        refine j_if_ne C0 51 dX5_copy_45 (by decide) (fun c_45 => ?_) (fun c_45 => ?_)
        · refine j_bipush C0 (v := (-11)) dX5_copy_48 (by decide) ?_
          exact j_iretM C0 hrt hlk dX5_copy_50
        · refine j_aload C0 1 dX5_copy_51 rfl ?_
          refine g_Shelf_holds C0 (vin_lt hv) w_134 dX5_copy_53 ?_
          refine j_iconst C0 (v := 2) dX5_copy_56 (by decide) ?_
          refine j_icmp_ne C0 82 dX5_copy_57 (by decide) (fun c_57 => ?_) (fun c_57 => ?_)
          · refine j_aload C0 0 dX5_copy_60 rfl ?_
            refine g_Shelf_holds C0 (vin_lt hv2) w_134 dX5_copy_62 ?_
            refine j_iconst C0 (v := 2) dX5_copy_65 (by decide) ?_
            refine j_icmp_ne C0 82 dX5_copy_66 (by decide) (fun c_66 => ?_) (fun c_66 => ?_)
            · refine j_aload C0 1 dX5_copy_69 rfl ?_
              refine g_Shelf_sort C0 (vin_lt hv) w_139 dX5_copy_71 ?_
              refine j_aload C0 0 dX5_copy_74 rfl ?_
              refine g_Shelf_sort C0 (vin_lt hv2) w_139 dX5_copy_76 ?_
              refine j_icmp_eq C0 85 dX5_copy_79 (by decide) (fun c_79 => ?_) (fun c_79 => ?_)
              · refine j_iload C0 7 dX5_copy_85 rfl ?_
                refine j_if_lt C0 113 dX5_copy_87 (by decide) (fun c_87 => ?_) (fun c_87 => ?_)
                · refine j_bipush C0 (v := (-13)) dX5_copy_113 (by decide) ?_
                  exact j_iretM C0 hrt hlk dX5_copy_115
                · refine j_aload C0 1 dX5_copy_90 rfl ?_
                  refine j_iload_n C0 4 dX5_copy_92 rfl rfl ?_
                  refine j_iload C0 7 dX5_copy_93 rfl ?_
                  refine j_callVi C0 (c_X4_hasPlaces l z _ (ix p0) (vin_lt hv) _ _) yk_X4_hasPlaces w_652 (fun H locs hP _ => recvW C0 hP _ (by have := (vin_lt hv); omega) (cel_shelf (vin_lt hv)) rfl) ⟨Nat.le_of_ble_eq_true rfl, Nat.le_of_ble_eq_true rfl⟩ rfl rfl (Nat.le_of_ble_eq_true rfl) dX5_copy_95 ?_
                  refine j_if_eq C0 113 dX5_copy_98 (by decide) (fun c_98 => ?_) (fun c_98 => ?_)
                  · refine j_bipush C0 (v := (-13)) dX5_copy_113 (by decide) ?_
                    exact j_iretM C0 hrt hlk dX5_copy_115
                  · refine j_aload C0 0 dX5_copy_101 rfl ?_
                    refine j_iload C0 6 dX5_copy_103 rfl ?_
                    refine j_iload C0 7 dX5_copy_105 rfl ?_
                    refine j_callVi C0 (c_X4_hasPlaces l z _ (ix p2) (vin_lt hv2) _ _) yk_X4_hasPlaces w_652 (fun H locs hP _ => recvW C0 hP _ (by have := (vin_lt hv2); omega) (cel_shelf (vin_lt hv2)) rfl) ⟨Nat.le_of_ble_eq_true rfl, Nat.le_of_ble_eq_true rfl⟩ rfl rfl (Nat.le_of_ble_eq_true rfl) dX5_copy_107 ?_
                    refine j_if_ne C0 116 dX5_copy_110 (by decide) (fun c_110 => ?_) (fun c_110 => ?_)
                    · refine j_bipush C0 (v := (-13)) dX5_copy_113 (by decide) ?_
                      exact j_iretM C0 hrt hlk dX5_copy_115
                    · have hcp := copy_in hI (vin_lt hv) (vin_lt hv2) c_98 c_110
                      refine j_aload C0 1 dX5_copy_116 rfl ?_
                      refine g_Shelf_cells C0 (vin_lt hv) w_132 dX5_copy_118 ?_
                      refine j_iload_n C0 4 dX5_copy_121 rfl rfl ?_
                      refine j_aload C0 0 dX5_copy_122 rfl ?_
                      refine g_Shelf_cells C0 (vin_lt hv2) w_132 dX5_copy_124 ?_
                      refine j_iload C0 6 dX5_copy_127 rfl ?_
                      refine j_iload C0 7 dX5_copy_129 rfl ?_
                      refine j_copyi C0 _ _ (by have := (vin_lt hv); omega) (by have := (vin_lt hv2); omega) (fun _ => cel_cells (vin_lt hv)) (fun _ => cel_cells (vin_lt hv2)) 0 rfl w_656 w_658 w_657 w_16 hcp.1 hcp.2.1 hcp.2.2.1 hcp.2.2.2.1 hcp.2.2.2.2 (Nat.le_of_ble_eq_true rfl) (by decide) dX5_copy_131 ?_
                      refine j_iload C0 7 dX5_copy_134 rfl ?_
                      exact j_iretM C0 hrt hlk dX5_copy_136
              · refine j_bipush C0 (v := (-12)) dX5_copy_82 (by decide) ?_
                exact j_iretM C0 hrt hlk dX5_copy_84
            · refine j_bipush C0 (v := (-12)) dX5_copy_82 (by decide) ?_
              exact j_iretM C0 hrt hlk dX5_copy_84
          · refine j_bipush C0 (v := (-12)) dX5_copy_82 (by decide) ?_
            exact j_iretM C0 hrt hlk dX5_copy_84
