def f_X5_digitsBehind (p0 : Int32) : Int32 := if p0 = 99 then ((2 : Int32)) else (if p0 = 104 then ((3 : Int32)) else (if p0 = 108 then ((3 : Int32)) else (if p0 = 112 then ((6 : Int32)) else (if p0 = 116 then ((2 : Int32)) else ((-4 : Int32))))))
theorem yk_X5_digitsBehind : yokS yX5_digitsBehind RX5 cX5_digitsBehind 1 (some .int) 1 := ⟨w_206, w_205, w_1, by decide +kernel⟩
set_option maxHeartbeats 4000000 in
set_option maxRecDepth 100000 in
theorem c_X5_digitsBehind (l : Launch) (z : ZC) (g : Mem) (p0 : Int32) : ctC l yX5_digitsBehind cX5_digitsBehind 1 (some .int) 0 0 z g [.int p0] (qIC z (f_X5_digitsBehind p0, g)) := by
  refine ct_of (own := RX5) (q := fun r => qIC z (r, g)) (res := f_X5_digitsBehind p0) (lv := [(0, .int p0)]) (enokC z) rfl (by decide) (Nat.le_of_ble_eq_true rfl) rfl (fun p e s m args below meth c C0 hrt hlk => ?_)
  unfold f_X5_digitsBehind
  refine j_iload_n C0 0 dX5_digitsBehind_0 rfl rfl ?_
  refine j_case (cnd := p0 = 99) (fun c_1_99 => ?_) (fun c_1_99 => ?_)
  · have c_1_99x : (p0).toInt = 99 := by rw [c_1_99]; rfl
    refine j_lookup C0 55 dX5_digitsBehind_1 (by decide) (by rw [c_1_99x]) (by decide) ?_
    refine j_iconst C0 (v := 2) dX5_digitsBehind_55 (by decide) ?_
    exact j_iretP C0 hrt hlk dX5_digitsBehind_56
  · skip
    refine j_case (cnd := p0 = 104) (fun c_1_104 => ?_) (fun c_1_104 => ?_)
    · have c_1_104x : (p0).toInt = 104 := by rw [c_1_104]; rfl
      refine j_lookup C0 59 dX5_digitsBehind_1 (by decide) (by rw [c_1_104x]) (by decide) ?_
      refine j_iconst C0 (v := 3) dX5_digitsBehind_59 (by decide) ?_
      exact j_iretP C0 hrt hlk dX5_digitsBehind_60
    · skip
      refine j_case (cnd := p0 = 108) (fun c_1_108 => ?_) (fun c_1_108 => ?_)
      · have c_1_108x : (p0).toInt = 108 := by rw [c_1_108]; rfl
        refine j_lookup C0 61 dX5_digitsBehind_1 (by decide) (by rw [c_1_108x]) (by decide) ?_
        refine j_iconst C0 (v := 3) dX5_digitsBehind_61 (by decide) ?_
        exact j_iretP C0 hrt hlk dX5_digitsBehind_62
      · skip
        refine j_case (cnd := p0 = 112) (fun c_1_112 => ?_) (fun c_1_112 => ?_)
        · have c_1_112x : (p0).toInt = 112 := by rw [c_1_112]; rfl
          refine j_lookup C0 52 dX5_digitsBehind_1 (by decide) (by rw [c_1_112x]) (by decide) ?_
          refine j_bipush C0 (v := 6) dX5_digitsBehind_52 (by decide) ?_
          exact j_iretP C0 hrt hlk dX5_digitsBehind_54
        · skip
          refine j_case (cnd := p0 = 116) (fun c_1_116 => ?_) (fun c_1_116 => ?_)
          · have c_1_116x : (p0).toInt = 116 := by rw [c_1_116]; rfl
            refine j_lookup C0 57 dX5_digitsBehind_1 (by decide) (by rw [c_1_116x]) (by decide) ?_
            refine j_iconst C0 (v := 2) dX5_digitsBehind_57 (by decide) ?_
            exact j_iretP C0 hrt hlk dX5_digitsBehind_58
          · skip
            refine j_lookup C0 (off := 62) 63 dX5_digitsBehind_1 (by decide) (by have c_1_99x : 99 ≠ (p0).toInt := Ne.symm (ne_toInt c_1_99); have c_1_104x : 104 ≠ (p0).toInt := Ne.symm (ne_toInt c_1_104); have c_1_108x : 108 ≠ (p0).toInt := Ne.symm (ne_toInt c_1_108); have c_1_112x : 112 ≠ (p0).toInt := Ne.symm (ne_toInt c_1_112); have c_1_116x : 116 ≠ (p0).toInt := Ne.symm (ne_toInt c_1_116); simp [Op.lookupswitch.offset, *]) (by decide) ?_
            refine j_bipush C0 (v := (-4)) dX5_digitsBehind_63 (by decide) ?_
            exact j_iretP C0 hrt hlk dX5_digitsBehind_65
theorem digits_le (x : Int32) : -4 ≤ (f_X5_digitsBehind x).toInt ∧ (f_X5_digitsBehind x).toInt ≤ 6 := by
  unfold f_X5_digitsBehind
  repeat' split
  all_goals decide
theorem tellStep {a len x : Int32} {n : Nat} (h : 0 ≤ a.toInt ∧ a.toInt ≤ 108 ∧ (len.toInt - a.toInt).toNat < n + 1) (c : ¬ len ≤ a) (hl : len.toInt ≤ 100) :
    0 ≤ (a + ((if f_X5_digitsBehind x < 0 then 0 else f_X5_digitsBehind x) + 2)).toInt ∧ (a + ((if f_X5_digitsBehind x < 0 then 0 else f_X5_digitsBehind x) + 2)).toInt ≤ 108 ∧ (len.toInt - (a + ((if f_X5_digitsBehind x < 0 then 0 else f_X5_digitsBehind x) + 2)).toInt).toNat < n := by
  have hd := digits_le x
  generalize f_X5_digitsBehind x = y at hd ⊢
  have c2 : a.toInt < len.toInt := by
    have : ¬ len.toInt ≤ a.toInt := fun q => c (Int32.le_iff_toInt_le.mpr q)
    omega
  have e2 : (2 : Int32).toInt = 2 := rfl
  have e0 : (0 : Int32).toInt = 0 := rfl
  have hm : 0 ≤ (if y < 0 then 0 else y).toInt ∧ (if y < 0 then 0 else y).toInt ≤ 6 := by
    split
    · omega
    · have : ¬ y.toInt < 0 := fun q => (by assumption : ¬ y < 0) (lt0_iff.mpr q)
      omega
  generalize (if y < 0 then 0 else y) = z at hm ⊢
  rw [add_toInt h.1 (by omega) (by rw [add_toInt (by omega) (by omega) (by omega) (by omega)]; omega) (by rw [add_toInt (by omega) (by omega) (by omega) (by omega)]; omega), add_toInt (by omega) (by omega) (by omega) (by omega)]
  omega
theorem brokenStep {a len x : Int32} {n : Nat} (h : 0 ≤ a.toInt ∧ a.toInt ≤ 100 ∧ (len.toInt - a.toInt).toNat < n + 1) (c : 0 ≤ f_X5_digitsBehind x) (c2 : a + (f_X5_digitsBehind x + 2) < len) (hl : len.toInt ≤ 100) :
    0 ≤ (a + (f_X5_digitsBehind x + 2)).toInt ∧ (a + (f_X5_digitsBehind x + 2)).toInt ≤ 100 ∧ (len.toInt - (a + (f_X5_digitsBehind x + 2)).toInt).toNat < n := by
  have hd := digits_le x
  generalize f_X5_digitsBehind x = y at hd c c2 ⊢
  have e2 : (2 : Int32).toInt = 2 := rfl
  rw [le0_iff] at c
  have h2 := Int32.lt_iff_toInt_lt.mp c2
  have e : (a + (y + 2)).toInt = a.toInt + (y.toInt + 2) := by
    rw [add_toInt h.1 (by omega) (by rw [add_toInt (by omega) (by omega) (by omega) (by omega)]; omega) (by rw [add_toInt (by omega) (by omega) (by omega) (by omega)]; omega), add_toInt (by omega) (by omega) (by omega) (by omega), e2]
  rw [e] at h2 ⊢
  omega

def f_X5_placeOfBrokenForm_19 (g : Mem) (d : Nat) (K0 : Int32 → Int32) (a1 : Int32) : Nat → Int32 → Int32
  | 0, _ => 0
  | n1 + 1, b3 => if (f_X5_digitsBehind (f_X4_at g d a1)) < b3 then (if (f_X4_at g d ((a1 + (f_X5_digitsBehind (f_X4_at g d a1))) + (1 : Int32))) = (59 : Int32) then (if (a1 + ((f_X5_digitsBehind (f_X4_at g d a1)) + (2 : Int32))) < (g (24 + d) 5) then (K0 (a1 + ((f_X5_digitsBehind (f_X4_at g d a1)) + (2 : Int32)))) else ((-4 : Int32))) else (((a1 + (f_X5_digitsBehind (f_X4_at g d a1))) + (1 : Int32)))) else (if (f_X5_isWithin (f_X4_at g d (a1 + b3)) (48 : Int32) (57 : Int32)) = 0 then ((a1 + b3)) else (f_X5_placeOfBrokenForm_19 g d K0 a1 n1 (b3 + (1 : Int32))))
def f_X5_placeOfBrokenForm_2 (g : Mem) (d : Nat) : Nat → Int32 → Int32
  | 0, _ => 0
  | n0 + 1, a1 => if 0 ≤ (f_X5_digitsBehind (f_X4_at g d a1)) then (f_X5_placeOfBrokenForm_19 g d (fun a1' => f_X5_placeOfBrokenForm_2 g d n0 a1') a1 8 (1 : Int32)) else (a1)
def f_X5_placeOfBrokenForm (g : Mem) (d : Nat) : Int32 := f_X5_placeOfBrokenForm_2 g d 102 (0 : Int32)
theorem yk_X5_placeOfBrokenForm : yokS yX5_placeOfBrokenForm RX5 cX5_placeOfBrokenForm 4 (some .int) 1 := ⟨w_195, w_194, w_1, by decide +kernel⟩
set_option maxHeartbeats 4000000 in
set_option maxRecDepth 100000 in
theorem c_X5_placeOfBrokenForm (l : Launch) (z : ZC) (g : Mem) (d : Nat) (hd : d < 8) (hI : In g) : ctC l yX5_placeOfBrokenForm cX5_placeOfBrokenForm 4 (some .int) 2 42 z g [.ref (zad z (24 + d))] (qIC z (f_X5_placeOfBrokenForm g d, g)) := by
  refine ct_of (own := RX5) (q := fun r => qIC z (r, g)) (res := f_X5_placeOfBrokenForm g d) (lv := [(0, .ref (zad z (24 + d)))]) (enokC z) rfl (by decide) (Nat.le_of_ble_eq_true rfl) rfl (fun p e s m args below meth c C0 hrt hlk => ?_)
  unfold f_X5_placeOfBrokenForm
  refine j_iconst C0 (v := 0) dX5_placeOfBrokenForm_0 (by decide) ?_
  refine j_istore_n C0 (lv' := [(1, _), (0, _)]) dX5_placeOfBrokenForm_1 rfl (by decide) rfl ?_
  have L2 : ∀ (n0 : Nat) (a1 : Int32), (0 ≤ a1.toInt ∧ a1.toInt ≤ 100 ∧ ((g (24 + d) 5).toInt - a1.toInt).toNat < n0) → jj p l e { frames := 2, cells := 0, slots := 0, locals := 42 } s m args below meth c (zA z) (zD z) 52 (zad z) (celC z) 4 (fun r => MQ below (qIC z (r, g)) args s 0 0 (zA z)) (f_X5_placeOfBrokenForm_2 g d n0 a1) g 2 [(0, .ref (zad z (24 + d))), (1, .int a1)] [] := by
    intro n0
    induction n0 with
    | zero => intro a1 hL0; exact absurd hL0.2.2 (Nat.not_lt_zero _)
    | succ n0 ih0 =>
      intro a1 hL0
      rw [f_X5_placeOfBrokenForm_2]
      refine j_aload_n C0 0 dX5_placeOfBrokenForm_2 rfl rfl ?_
      refine j_iload_n C0 1 dX5_placeOfBrokenForm_3 rfl rfl ?_
      refine j_callVi C0 (c_X4_at l z _ d hd _ hI) yk_X4_at w_196 (fun H locs hP _ => recvW C0 hP _ (by have := hd; omega) (cel_shelf hd) rfl) ⟨Nat.le_of_ble_eq_true rfl, Nat.le_of_ble_eq_true rfl⟩ rfl rfl (Nat.le_of_ble_eq_true rfl) dX5_placeOfBrokenForm_4 ?_
      refine j_callSi C0 (c_X5_digitsBehind l z _ _) yk_X5_digitsBehind w_204 ⟨Nat.le_of_ble_eq_true rfl, Nat.le_of_ble_eq_true rfl⟩ rfl rfl (Nat.le_of_ble_eq_true rfl) dX5_placeOfBrokenForm_7 ?_
      refine j_istore_n C0 (lv' := [(2, _), (0, _), (1, _)]) dX5_placeOfBrokenForm_10 rfl (by decide) rfl ?_
      refine j_iload_n C0 0 dX5_placeOfBrokenForm_11 rfl rfl ?_
      refine j_if_ge C0 17 dX5_placeOfBrokenForm_12 (by decide) (fun c_12 => ?_) (fun c_12 => ?_)
      · refine j_iconst C0 (v := 1) dX5_placeOfBrokenForm_17 (by decide) ?_
        refine j_istore_n C0 (lv' := [(3, _), (2, _), (0, _), (1, _)]) dX5_placeOfBrokenForm_18 rfl (by decide) rfl ?_
        have L19 : ∀ (n1 : Nat) (b3 : Int32), lcE b3 (f_X5_digitsBehind (f_X4_at g d a1)) n1 → jj p l e { frames := 2, cells := 0, slots := 0, locals := 42 } s m args below meth c (zA z) (zD z) 52 (zad z) (celC z) 4 (fun r => MQ below (qIC z (r, g)) args s 0 0 (zA z)) (f_X5_placeOfBrokenForm_19 g d (fun a1' => f_X5_placeOfBrokenForm_2 g d n0 a1') a1 n1 b3) g 19 [(0, .ref (zad z (24 + d))), (1, .int a1), (2, .int (f_X5_digitsBehind (f_X4_at g d a1))), (3, .int b3)] [] := by
          intro n1
          induction n1 with
          | zero => intro b3 hL1; exact absurd hL1.2 (Nat.not_lt_zero _)
          | succ n1 ih1 =>
            intro b3 hL1
            rw [f_X5_placeOfBrokenForm_19]
            refine j_iload_n C0 3 dX5_placeOfBrokenForm_19 rfl rfl ?_
            refine j_iload_n C0 2 dX5_placeOfBrokenForm_20 rfl rfl ?_
            refine j_icmp_gt C0 51 dX5_placeOfBrokenForm_21 (by decide) (fun c_21 => ?_) (fun c_21 => ?_)
            · refine j_aload_n C0 0 dX5_placeOfBrokenForm_51 rfl rfl ?_
              refine j_iload_n C0 1 dX5_placeOfBrokenForm_52 rfl rfl ?_
              refine j_iload_n C0 2 dX5_placeOfBrokenForm_53 rfl rfl ?_
              refine j_iadd C0 dX5_placeOfBrokenForm_54 ?_
              refine j_iconst C0 (v := 1) dX5_placeOfBrokenForm_55 (by decide) ?_
              refine j_iadd C0 dX5_placeOfBrokenForm_56 ?_
              refine j_callVi C0 (c_X4_at l z _ d hd _ hI) yk_X4_at w_196 (fun H locs hP _ => recvW C0 hP _ (by have := hd; omega) (cel_shelf hd) rfl) ⟨Nat.le_of_ble_eq_true rfl, Nat.le_of_ble_eq_true rfl⟩ rfl rfl (Nat.le_of_ble_eq_true rfl) dX5_placeOfBrokenForm_57 ?_
              refine j_bipush C0 (v := 59) dX5_placeOfBrokenForm_60 (by decide) ?_
              refine j_icmp_eq C0 71 dX5_placeOfBrokenForm_62 (by decide) (fun c_62 => ?_) (fun c_62 => ?_)
              · refine j_iload_n C0 1 dX5_placeOfBrokenForm_71 rfl rfl ?_
                refine j_iload_n C0 2 dX5_placeOfBrokenForm_72 rfl rfl ?_
                refine j_iconst C0 (v := 2) dX5_placeOfBrokenForm_73 (by decide) ?_
                refine j_iadd C0 dX5_placeOfBrokenForm_74 ?_
                refine j_iadd C0 dX5_placeOfBrokenForm_75 ?_
                refine j_istore_n C0 (lv' := [(1, _), (0, _), (2, _), (3, _)]) dX5_placeOfBrokenForm_76 rfl (by decide) rfl ?_
                refine j_iload_n C0 0 dX5_placeOfBrokenForm_77 rfl rfl ?_
                refine j_aload_n C0 1 dX5_placeOfBrokenForm_78 rfl rfl ?_
                refine g_Shelf_length C0 hd w_142 dX5_placeOfBrokenForm_79 ?_
                refine j_icmp_lt C0 2 dX5_placeOfBrokenForm_82 (by decide) (fun c_82 => ?_) (fun c_82 => ?_)
                · exact j_sub [1, 0] rfl (ih0 _ (brokenStep hL0 c_12 c_82 (In_len hI hd)))
                · refine j_bipush C0 (v := (-4)) dX5_placeOfBrokenForm_85 (by decide) ?_
                  exact j_iretP C0 hrt hlk dX5_placeOfBrokenForm_87
              · refine j_iload_n C0 1 dX5_placeOfBrokenForm_65 rfl rfl ?_
                refine j_iload_n C0 2 dX5_placeOfBrokenForm_66 rfl rfl ?_
                refine j_iadd C0 dX5_placeOfBrokenForm_67 ?_
                refine j_iconst C0 (v := 1) dX5_placeOfBrokenForm_68 (by decide) ?_
                refine j_iadd C0 dX5_placeOfBrokenForm_69 ?_
                exact j_iretP C0 hrt hlk dX5_placeOfBrokenForm_70
            · refine j_aload_n C0 0 dX5_placeOfBrokenForm_24 rfl rfl ?_
              refine j_iload_n C0 1 dX5_placeOfBrokenForm_25 rfl rfl ?_
              refine j_iload_n C0 3 dX5_placeOfBrokenForm_26 rfl rfl ?_
              refine j_iadd C0 dX5_placeOfBrokenForm_27 ?_
              refine j_callVi C0 (c_X4_at l z _ d hd _ hI) yk_X4_at w_196 (fun H locs hP _ => recvW C0 hP _ (by have := hd; omega) (cel_shelf hd) rfl) ⟨Nat.le_of_ble_eq_true rfl, Nat.le_of_ble_eq_true rfl⟩ rfl rfl (Nat.le_of_ble_eq_true rfl) dX5_placeOfBrokenForm_28 ?_
              refine j_bipush C0 (v := 48) dX5_placeOfBrokenForm_31 (by decide) ?_
              refine j_bipush C0 (v := 57) dX5_placeOfBrokenForm_33 (by decide) ?_
              refine j_callSi C0 (c_X5_isWithin l z _ _ _ _) yk_X5_isWithin w_190 ⟨Nat.le_of_ble_eq_true rfl, Nat.le_of_ble_eq_true rfl⟩ rfl rfl (Nat.le_of_ble_eq_true rfl) dX5_placeOfBrokenForm_35 ?_
              refine j_if_ne C0 45 dX5_placeOfBrokenForm_38 (by decide) (fun c_38 => ?_) (fun c_38 => ?_)
              · refine j_iload_n C0 1 dX5_placeOfBrokenForm_41 rfl rfl ?_
                refine j_iload_n C0 3 dX5_placeOfBrokenForm_42 rfl rfl ?_
                refine j_iadd C0 dX5_placeOfBrokenForm_43 ?_
                exact j_iretP C0 hrt hlk dX5_placeOfBrokenForm_44
              · refine j_iinc C0 (lv' := [(3, _), (0, _), (1, _), (2, _)]) (v := _ + (1)) 3 dX5_placeOfBrokenForm_45 rfl (by rfl) (by decide) rfl ?_
                refine j_goto C0 19 dX5_placeOfBrokenForm_48 (by decide) ?_
                exact j_sub [1, 2, 3, 0] rfl (ih1 _ (lcE_step hL1 c_21 (by have := digits_le (f_X4_at g d a1); omega)))
        exact j_sub [2, 3, 1, 0] rfl (L19 8 _ (lcE_from (by decide) (by have := digits_le (f_X4_at g d a1); have e1 : (1 : Int32).toInt = 1 := rfl; omega) (by decide)))
      · refine j_iload_n C0 2 dX5_placeOfBrokenForm_15 rfl rfl ?_
        exact j_iretP C0 hrt hlk dX5_placeOfBrokenForm_16
  exact j_sub [1, 0] rfl (L2 102 _ (by have := In_len hI hd; have e0 : (0 : Int32).toInt = 0 := rfl; omega))
def f_X5_tellPerson (g : Mem) (p0 p1 p2 p3 : Int32) : Int32 × Mem := if (f_X5_isKind p0) = 0 then (((0 : Int32), g)) else (if (f_X5_isFigure p1) = 0 then (((0 : Int32), g)) else (if (f_X5_isFeeling p2) = 0 then (((0 : Int32), g)) else (if (f_X5_isFeeling p3) = 0 then (((0 : Int32), g)) else (if (r_X0_takeIn g 2 p0 p1 p2 p3) = 0 then (((0 : Int32), (m_X0_takeIn g 2 p0 p1 p2 p3))) else (((1 : Int32), (m_X0_takeIn g 2 p0 p1 p2 p3)))))))
def r_X5_tellPerson (g : Mem) (p0 p1 p2 p3 : Int32) : Int32 := (f_X5_tellPerson g p0 p1 p2 p3).1
def m_X5_tellPerson (g : Mem) (p0 p1 p2 p3 : Int32) : Mem := (f_X5_tellPerson g p0 p1 p2 p3).2
theorem e_X5_tellPerson (g : Mem) (p0 p1 p2 p3 : Int32) : (r_X5_tellPerson g p0 p1 p2 p3, m_X5_tellPerson g p0 p1 p2 p3) = f_X5_tellPerson g p0 p1 p2 p3 := by unfold r_X5_tellPerson m_X5_tellPerson; exact pmk_eta _
theorem b01m_X5_tellPerson (g : Mem) (p0 p1 p2 p3 : Int32) : r_X5_tellPerson g p0 p1 p2 p3 = 0 ∨ r_X5_tellPerson g p0 p1 p2 p3 = 1 := by
  unfold r_X5_tellPerson f_X5_tellPerson
  repeat' split
  all_goals first | (with_reducible exact Or.inl rfl) | (with_reducible exact Or.inr rfl) | assumption
theorem yk_X5_tellPerson : yokV yX5_tellPerson RX5 cX5_tellPerson 6 (some .boolean) 4 := ⟨w_236, w_235, wp_4, w_1, by decide +kernel⟩
set_option maxHeartbeats 4000000 in
set_option maxRecDepth 100000 in
theorem c_X5_tellPerson (l : Launch) (z : ZC) (g : Mem) (p0 p1 p2 p3 : Int32) (hI : In g) : ctC l yX5_tellPerson cX5_tellPerson 6 (some .boolean) 3 68 z g [.ref (zad z 46), .int p0, .int p1, .int p2, .int p3] (qIC z (r_X5_tellPerson g p0 p1 p2 p3, m_X5_tellPerson g p0 p1 p2 p3)) := by
  rw [e_X5_tellPerson]
  refine ct_of (own := RX5) (q := fun r => qIC z r) (res := f_X5_tellPerson g p0 p1 p2 p3) (lv := [(0, .ref (zad z 46)), (1, .int p0), (2, .int p1), (3, .int p2), (4, .int p3)]) (enokC z) rfl (by decide) (Nat.le_of_ble_eq_true rfl) rfl (fun p e s m args below meth c C0 hrt hlk => ?_)
  unfold f_X5_tellPerson
  refine j_iload_n C0 1 dX5_tellPerson_0 rfl rfl ?_
  refine j_callSi C0 (c_X5_isKind l z _ _) yk_X5_isKind w_237 ⟨Nat.le_of_ble_eq_true rfl, Nat.le_of_ble_eq_true rfl⟩ rfl rfl (Nat.le_of_ble_eq_true rfl) dX5_tellPerson_1 ?_
  refine j_if_eq C0 33 dX5_tellPerson_4 (by decide) (fun c_4 => ?_) (fun c_4 => ?_)
  · refine j_iconst C0 (v := 0) dX5_tellPerson_33 (by decide) ?_
    refine j_istore C0 (lv' := [(5, _), (0, _), (1, _), (2, _), (3, _), (4, _)]) dX5_tellPerson_34 (by decide) rfl ?_
    refine j_iload C0 0 dX5_tellPerson_36 rfl ?_
    refine j_if_eqT C0 64 dX5_tellPerson_38 (by decide) (by decide) ?_
    refine j_iconst C0 (v := 0) dX5_tellPerson_64 (by decide) ?_
    exact j_zretM C0 hrt hlk (Or.inl rfl) dX5_tellPerson_65
  · have hv := isKind_in c_4
    refine j_iload_n C0 2 dX5_tellPerson_7 rfl rfl ?_
    refine j_callSi C0 (c_X5_isFigure l z _ _) yk_X5_isFigure w_242 ⟨Nat.le_of_ble_eq_true rfl, Nat.le_of_ble_eq_true rfl⟩ rfl rfl (Nat.le_of_ble_eq_true rfl) dX5_tellPerson_8 ?_
    refine j_if_eq C0 33 dX5_tellPerson_11 (by decide) (fun c_11 => ?_) (fun c_11 => ?_)
    · refine j_iconst C0 (v := 0) dX5_tellPerson_33 (by decide) ?_
      refine j_istore C0 (lv' := [(5, _), (0, _), (1, _), (2, _), (3, _), (4, _)]) dX5_tellPerson_34 (by decide) rfl ?_
      refine j_iload C0 0 dX5_tellPerson_36 rfl ?_
      refine j_if_eqT C0 64 dX5_tellPerson_38 (by decide) (by decide) ?_
      refine j_iconst C0 (v := 0) dX5_tellPerson_64 (by decide) ?_
      exact j_zretM C0 hrt hlk (Or.inl rfl) dX5_tellPerson_65
    · refine j_iload_n C0 3 dX5_tellPerson_14 rfl rfl ?_
      refine j_callSi C0 (c_X5_isFeeling l z _ _) yk_X5_isFeeling w_245 ⟨Nat.le_of_ble_eq_true rfl, Nat.le_of_ble_eq_true rfl⟩ rfl rfl (Nat.le_of_ble_eq_true rfl) dX5_tellPerson_15 ?_
      refine j_if_eq C0 33 dX5_tellPerson_18 (by decide) (fun c_18 => ?_) (fun c_18 => ?_)
      · refine j_iconst C0 (v := 0) dX5_tellPerson_33 (by decide) ?_
        refine j_istore C0 (lv' := [(5, _), (0, _), (1, _), (2, _), (3, _), (4, _)]) dX5_tellPerson_34 (by decide) rfl ?_
        refine j_iload C0 0 dX5_tellPerson_36 rfl ?_
        refine j_if_eqT C0 64 dX5_tellPerson_38 (by decide) (by decide) ?_
        refine j_iconst C0 (v := 0) dX5_tellPerson_64 (by decide) ?_
        exact j_zretM C0 hrt hlk (Or.inl rfl) dX5_tellPerson_65
      · refine j_iload C0 4 dX5_tellPerson_21 rfl ?_
        refine j_callSi C0 (c_X5_isFeeling l z _ _) yk_X5_isFeeling w_245 ⟨Nat.le_of_ble_eq_true rfl, Nat.le_of_ble_eq_true rfl⟩ rfl rfl (Nat.le_of_ble_eq_true rfl) dX5_tellPerson_23 ?_
        refine j_if_eq C0 33 dX5_tellPerson_26 (by decide) (fun c_26 => ?_) (fun c_26 => ?_)
        · refine j_iconst C0 (v := 0) dX5_tellPerson_33 (by decide) ?_
          refine j_istore C0 (lv' := [(5, _), (0, _), (1, _), (2, _), (3, _), (4, _)]) dX5_tellPerson_34 (by decide) rfl ?_
          refine j_iload C0 0 dX5_tellPerson_36 rfl ?_
          refine j_if_eqT C0 64 dX5_tellPerson_38 (by decide) (by decide) ?_
          refine j_iconst C0 (v := 0) dX5_tellPerson_64 (by decide) ?_
          exact j_zretM C0 hrt hlk (Or.inl rfl) dX5_tellPerson_65
        · refine j_iconst C0 (v := 1) dX5_tellPerson_29 (by decide) ?_
          refine j_goto C0 34 dX5_tellPerson_30 (by decide) ?_
          refine j_istore C0 (lv' := [(5, _), (0, _), (1, _), (2, _), (3, _), (4, _)]) dX5_tellPerson_34 (by decide) rfl ?_
          refine j_iload C0 0 dX5_tellPerson_36 rfl ?_
          refine j_if_eqF C0 64 dX5_tellPerson_38 (by decide) (by decide) ?_
          refine j_aload_n C0 1 dX5_tellPerson_41 rfl rfl ?_
          refine g_Cakes_trial C0 w_159 dX5_tellPerson_42 ?_
          refine k_KINDS C0 w_240 dX5_tellPerson_45 ?_
          refine j_iload_n C0 2 dX5_tellPerson_48 rfl rfl ?_
          refine k_at C0 hv dX5_tellPerson_49 ?_
          refine j_iload_n C0 3 dX5_tellPerson_50 rfl rfl ?_
          refine j_iload_n C0 4 dX5_tellPerson_51 rfl rfl ?_
          refine j_iload C0 5 dX5_tellPerson_52 rfl ?_
          refine j_callVi C0 (c_X0_takeIn l z _ 2 lt3_2 _ _ _ _ hv hI) yk_X0_takeIn w_248 (fun H locs hP _ => recvW C0 hP _ (by have := lt3_2; omega) (cel_fete lt3_2) rfl) ⟨Nat.le_of_ble_eq_true rfl, Nat.le_of_ble_eq_true rfl⟩ rfl rfl (Nat.le_of_ble_eq_true rfl) dX5_tellPerson_54 ?_
          refine j_if_eq C0 64 dX5_tellPerson_57 (by decide) (fun c_57 => ?_) (fun c_57 => ?_)
          · refine j_iconst C0 (v := 0) dX5_tellPerson_64 (by decide) ?_
            exact j_zretM C0 hrt hlk (Or.inl rfl) dX5_tellPerson_65
          · refine j_iconst C0 (v := 1) dX5_tellPerson_60 (by decide) ?_
            refine j_goto C0 65 dX5_tellPerson_61 (by decide) ?_
            exact j_zretM C0 hrt hlk (Or.inr rfl) dX5_tellPerson_65
theorem In_tellPerson {g : Mem} (hI : In g) {a b c d : Int32} : In (m_X5_tellPerson g a b c d) := by
  unfold m_X5_tellPerson f_X5_tellPerson
  repeat' split
  all_goals first | (with_reducible exact hI) | (with_reducible exact In_takeIn hI lt3_2 (isKind_in (by assumption)))
theorem NX_tellPerson {g : Mem} (hI : In g) {a b c d : Int32} : NX g (m_X5_tellPerson g a b c d) := by
  unfold m_X5_tellPerson f_X5_tellPerson
  repeat' split
  all_goals first | (with_reducible exact NX.rf) | (with_reducible exact NX_takeIn hI)

def f_X5_tellSlices (g : Mem) (p0 : Int32) : Int32 × Mem := if (f_X5_isWithin p0 (0 : Int32) (99 : Int32)) = 0 then (((0 : Int32), g)) else (((1 : Int32), (up g 42 2 p0)))
def r_X5_tellSlices (g : Mem) (p0 : Int32) : Int32 := (f_X5_tellSlices g p0).1
def m_X5_tellSlices (g : Mem) (p0 : Int32) : Mem := (f_X5_tellSlices g p0).2
theorem e_X5_tellSlices (g : Mem) (p0 : Int32) : (r_X5_tellSlices g p0, m_X5_tellSlices g p0) = f_X5_tellSlices g p0 := by unfold r_X5_tellSlices m_X5_tellSlices; exact pmk_eta _
theorem b01m_X5_tellSlices (g : Mem) (p0 : Int32) : r_X5_tellSlices g p0 = 0 ∨ r_X5_tellSlices g p0 = 1 := by
  unfold r_X5_tellSlices f_X5_tellSlices
  repeat' split
  all_goals first | (with_reducible exact Or.inl rfl) | (with_reducible exact Or.inr rfl) | assumption
theorem yk_X5_tellSlices : yokV yX5_tellSlices RX5 cX5_tellSlices 2 (some .boolean) 1 := ⟨w_273, w_272, wp_5, w_1, by decide +kernel⟩
set_option maxHeartbeats 4000000 in
set_option maxRecDepth 100000 in
theorem c_X5_tellSlices (l : Launch) (z : ZC) (g : Mem) (p0 : Int32) (hI : In g) : ctC l yX5_tellSlices cX5_tellSlices 2 (some .boolean) 1 22 z g [.ref (zad z 46), .int p0] (qIC z (r_X5_tellSlices g p0, m_X5_tellSlices g p0)) := by
  rw [e_X5_tellSlices]
  refine ct_of (own := RX5) (q := fun r => qIC z r) (res := f_X5_tellSlices g p0) (lv := [(0, .ref (zad z 46)), (1, .int p0)]) (enokC z) rfl (by decide) (Nat.le_of_ble_eq_true rfl) rfl (fun p e s m args below meth c C0 hrt hlk => ?_)
  unfold f_X5_tellSlices
  refine j_iload_n C0 1 dX5_tellSlices_0 rfl rfl ?_
  refine j_iconst C0 (v := 0) dX5_tellSlices_1 (by decide) ?_
  refine j_bipush C0 (v := 99) dX5_tellSlices_2 (by decide) ?_
  refine j_callSi C0 (c_X5_isWithin l z _ _ _ _) yk_X5_isWithin w_190 ⟨Nat.le_of_ble_eq_true rfl, Nat.le_of_ble_eq_true rfl⟩ rfl rfl (Nat.le_of_ble_eq_true rfl) dX5_tellSlices_4 ?_
  refine j_if_ne C0 12 dX5_tellSlices_7 (by decide) (fun c_7 => ?_) (fun c_7 => ?_)
  · refine j_iconst C0 (v := 0) dX5_tellSlices_10 (by decide) ?_
    exact j_zretM C0 hrt hlk (Or.inl rfl) dX5_tellSlices_11
  · refine j_aload_n C0 0 dX5_tellSlices_12 rfl rfl ?_
    refine g_Cakes_trial C0 w_159 dX5_tellSlices_13 ?_
    refine j_iload_n C0 1 dX5_tellSlices_16 rfl rfl ?_
    refine p_Fete_slicesLeft C0 lt3_2 w_88 dX5_tellSlices_17 ?_
    refine j_iconst C0 (v := 1) dX5_tellSlices_20 (by decide) ?_
    exact j_zretM C0 hrt hlk (Or.inr rfl) dX5_tellSlices_21
theorem In_tellSlices {g : Mem} (hI : In g) {a : Int32} : In (m_X5_tellSlices g a) := by
  unfold m_X5_tellSlices f_X5_tellSlices
  repeat' split
  all_goals first | (with_reducible exact hI) | exact In_upF (t := 2) hI lt3_2 (by decide)
theorem NX_tellSlices {g : Mem} {a : Int32} : NX g (m_X5_tellSlices g a) := by
  unfold m_X5_tellSlices f_X5_tellSlices
  repeat' split
  all_goals first | (with_reducible exact NX.rf) | exact NX_up NX.rf (by omega)

def f_X5_tellHunger (g : Mem) (p0 p1 : Int32) : Int32 × Mem := if (f_X0_isThere g 2 p0) = 0 then (((0 : Int32), g)) else (if (f_X5_isFeeling p1) = 0 then (((0 : Int32), g)) else (((1 : Int32), (up g (8 * 2 + ix p0) 4 p1))))
def r_X5_tellHunger (g : Mem) (p0 p1 : Int32) : Int32 := (f_X5_tellHunger g p0 p1).1
def m_X5_tellHunger (g : Mem) (p0 p1 : Int32) : Mem := (f_X5_tellHunger g p0 p1).2
theorem e_X5_tellHunger (g : Mem) (p0 p1 : Int32) : (r_X5_tellHunger g p0 p1, m_X5_tellHunger g p0 p1) = f_X5_tellHunger g p0 p1 := by unfold r_X5_tellHunger m_X5_tellHunger; exact pmk_eta _
theorem b01m_X5_tellHunger (g : Mem) (p0 p1 : Int32) : r_X5_tellHunger g p0 p1 = 0 ∨ r_X5_tellHunger g p0 p1 = 1 := by
  unfold r_X5_tellHunger f_X5_tellHunger
  repeat' split
  all_goals first | (with_reducible exact Or.inl rfl) | (with_reducible exact Or.inr rfl) | assumption
theorem yk_X5_tellHunger : yokV yX5_tellHunger RX5 cX5_tellHunger 3 (some .boolean) 2 := ⟨w_330, w_329, wp_6, w_1, by decide +kernel⟩
set_option maxHeartbeats 4000000 in
set_option maxRecDepth 100000 in
theorem c_X5_tellHunger (l : Launch) (z : ZC) (g : Mem) (p0 p1 : Int32) (hI : In g) : ctC l yX5_tellHunger cX5_tellHunger 3 (some .boolean) 2 42 z g [.ref (zad z 46), .int p0, .int p1] (qIC z (r_X5_tellHunger g p0 p1, m_X5_tellHunger g p0 p1)) := by
  rw [e_X5_tellHunger]
  refine ct_of (own := RX5) (q := fun r => qIC z r) (res := f_X5_tellHunger g p0 p1) (lv := [(0, .ref (zad z 46)), (1, .int p0), (2, .int p1)]) (enokC z) rfl (by decide) (Nat.le_of_ble_eq_true rfl) rfl (fun p e s m args below meth c C0 hrt hlk => ?_)
  unfold f_X5_tellHunger
  refine j_aload_n C0 0 dX5_tellHunger_0 rfl rfl ?_
  refine g_Cakes_trial C0 w_159 dX5_tellHunger_1 ?_
  refine j_iload_n C0 1 dX5_tellHunger_4 rfl rfl ?_
  refine j_callVi C0 (c_X0_isThere l z _ 2 lt3_2 _) yk_X0_isThere w_331 (fun H locs hP _ => recvW C0 hP _ (by have := lt3_2; omega) (cel_fete lt3_2) rfl) ⟨Nat.le_of_ble_eq_true rfl, Nat.le_of_ble_eq_true rfl⟩ rfl rfl (Nat.le_of_ble_eq_true rfl) dX5_tellHunger_5 ?_
  refine j_if_eq C0 18 dX5_tellHunger_8 (by decide) (fun c_8 => ?_) (fun c_8 => ?_)
  · refine j_iconst C0 (v := 0) dX5_tellHunger_18 (by decide) ?_
    exact j_zretM C0 hrt hlk (Or.inl rfl) dX5_tellHunger_19
  · have hv := isThere_in hI lt3_2 c_8
    refine j_iload_n C0 2 dX5_tellHunger_11 rfl rfl ?_
    refine j_callSi C0 (c_X5_isFeeling l z _ _) yk_X5_isFeeling w_245 ⟨Nat.le_of_ble_eq_true rfl, Nat.le_of_ble_eq_true rfl⟩ rfl rfl (Nat.le_of_ble_eq_true rfl) dX5_tellHunger_12 ?_
    refine j_if_ne C0 20 dX5_tellHunger_15 (by decide) (fun c_15 => ?_) (fun c_15 => ?_)
    · refine j_iconst C0 (v := 0) dX5_tellHunger_18 (by decide) ?_
      exact j_zretM C0 hrt hlk (Or.inl rfl) dX5_tellHunger_19
    · refine j_aload_n C0 0 dX5_tellHunger_20 rfl rfl ?_
      refine g_Cakes_trial C0 w_159 dX5_tellHunger_21 ?_
      refine g_Fete_people C0 lt3_2 w_82 dX5_tellHunger_24 ?_
      refine j_iload_n C0 1 dX5_tellHunger_27 rfl rfl ?_
      refine a_people C0 lt3_2 hv dX5_tellHunger_28 ?_
      refine j_iload_n C0 2 dX5_tellHunger_29 rfl rfl ?_
      refine p_Person_hunger C0 (vin_pk lt3_2 hv) w_53 dX5_tellHunger_30 ?_
      refine j_iconst C0 (v := 1) dX5_tellHunger_33 (by decide) ?_
      exact j_zretM C0 hrt hlk (Or.inr rfl) dX5_tellHunger_34
theorem In_tellHunger {g : Mem} (hI : In g) {a b : Int32} : In (m_X5_tellHunger g a b) := by
  unfold m_X5_tellHunger f_X5_tellHunger
  repeat' split
  all_goals first | (with_reducible exact hI) | exact In_upP hI (vin_pk lt3_2 (isThere_in hI lt3_2 (by assumption))) (by decide)
theorem NX_tellHunger {g : Mem} (hI : In g) {a b : Int32} : NX g (m_X5_tellHunger g a b) := by
  unfold m_X5_tellHunger f_X5_tellHunger
  repeat' split
  all_goals first | (with_reducible exact NX.rf) | (refine NX_up NX.rf ?_; have := vin_lt (isThere_in hI lt3_2 (by assumption)); omega)

def f_X5_tellWish (g : Mem) (p0 p1 : Int32) : Int32 × Mem := if (f_X0_isThere g 2 p0) = 0 then (((0 : Int32), g)) else (if (f_X5_isFeeling p1) = 0 then (((0 : Int32), g)) else (((1 : Int32), (up g (8 * 2 + ix p0) 5 p1))))
def r_X5_tellWish (g : Mem) (p0 p1 : Int32) : Int32 := (f_X5_tellWish g p0 p1).1
def m_X5_tellWish (g : Mem) (p0 p1 : Int32) : Mem := (f_X5_tellWish g p0 p1).2
theorem e_X5_tellWish (g : Mem) (p0 p1 : Int32) : (r_X5_tellWish g p0 p1, m_X5_tellWish g p0 p1) = f_X5_tellWish g p0 p1 := by unfold r_X5_tellWish m_X5_tellWish; exact pmk_eta _
theorem b01m_X5_tellWish (g : Mem) (p0 p1 : Int32) : r_X5_tellWish g p0 p1 = 0 ∨ r_X5_tellWish g p0 p1 = 1 := by
  unfold r_X5_tellWish f_X5_tellWish
  repeat' split
  all_goals first | (with_reducible exact Or.inl rfl) | (with_reducible exact Or.inr rfl) | assumption
theorem yk_X5_tellWish : yokV yX5_tellWish RX5 cX5_tellWish 3 (some .boolean) 2 := ⟨w_335, w_334, wp_7, w_1, by decide +kernel⟩
set_option maxHeartbeats 4000000 in
set_option maxRecDepth 100000 in
theorem c_X5_tellWish (l : Launch) (z : ZC) (g : Mem) (p0 p1 : Int32) (hI : In g) : ctC l yX5_tellWish cX5_tellWish 3 (some .boolean) 2 42 z g [.ref (zad z 46), .int p0, .int p1] (qIC z (r_X5_tellWish g p0 p1, m_X5_tellWish g p0 p1)) := by
  rw [e_X5_tellWish]
  refine ct_of (own := RX5) (q := fun r => qIC z r) (res := f_X5_tellWish g p0 p1) (lv := [(0, .ref (zad z 46)), (1, .int p0), (2, .int p1)]) (enokC z) rfl (by decide) (Nat.le_of_ble_eq_true rfl) rfl (fun p e s m args below meth c C0 hrt hlk => ?_)
  unfold f_X5_tellWish
  refine j_aload_n C0 0 dX5_tellWish_0 rfl rfl ?_
  refine g_Cakes_trial C0 w_159 dX5_tellWish_1 ?_
  refine j_iload_n C0 1 dX5_tellWish_4 rfl rfl ?_
  refine j_callVi C0 (c_X0_isThere l z _ 2 lt3_2 _) yk_X0_isThere w_331 (fun H locs hP _ => recvW C0 hP _ (by have := lt3_2; omega) (cel_fete lt3_2) rfl) ⟨Nat.le_of_ble_eq_true rfl, Nat.le_of_ble_eq_true rfl⟩ rfl rfl (Nat.le_of_ble_eq_true rfl) dX5_tellWish_5 ?_
  refine j_if_eq C0 18 dX5_tellWish_8 (by decide) (fun c_8 => ?_) (fun c_8 => ?_)
  · refine j_iconst C0 (v := 0) dX5_tellWish_18 (by decide) ?_
    exact j_zretM C0 hrt hlk (Or.inl rfl) dX5_tellWish_19
  · have hv := isThere_in hI lt3_2 c_8
    refine j_iload_n C0 2 dX5_tellWish_11 rfl rfl ?_
    refine j_callSi C0 (c_X5_isFeeling l z _ _) yk_X5_isFeeling w_245 ⟨Nat.le_of_ble_eq_true rfl, Nat.le_of_ble_eq_true rfl⟩ rfl rfl (Nat.le_of_ble_eq_true rfl) dX5_tellWish_12 ?_
    refine j_if_ne C0 20 dX5_tellWish_15 (by decide) (fun c_15 => ?_) (fun c_15 => ?_)
    · refine j_iconst C0 (v := 0) dX5_tellWish_18 (by decide) ?_
      exact j_zretM C0 hrt hlk (Or.inl rfl) dX5_tellWish_19
    · refine j_aload_n C0 0 dX5_tellWish_20 rfl rfl ?_
      refine g_Cakes_trial C0 w_159 dX5_tellWish_21 ?_
      refine g_Fete_people C0 lt3_2 w_82 dX5_tellWish_24 ?_
      refine j_iload_n C0 1 dX5_tellWish_27 rfl rfl ?_
      refine a_people C0 lt3_2 hv dX5_tellWish_28 ?_
      refine j_iload_n C0 2 dX5_tellWish_29 rfl rfl ?_
      refine p_Person_wish C0 (vin_pk lt3_2 hv) w_56 dX5_tellWish_30 ?_
      refine j_iconst C0 (v := 1) dX5_tellWish_33 (by decide) ?_
      exact j_zretM C0 hrt hlk (Or.inr rfl) dX5_tellWish_34
theorem In_tellWish {g : Mem} (hI : In g) {a b : Int32} : In (m_X5_tellWish g a b) := by
  unfold m_X5_tellWish f_X5_tellWish
  repeat' split
  all_goals first | (with_reducible exact hI) | exact In_upP hI (vin_pk lt3_2 (isThere_in hI lt3_2 (by assumption))) (by decide)
theorem NX_tellWish {g : Mem} (hI : In g) {a b : Int32} : NX g (m_X5_tellWish g a b) := by
  unfold m_X5_tellWish f_X5_tellWish
  repeat' split
  all_goals first | (with_reducible exact NX.rf) | (refine NX_up NX.rf ?_; have := vin_lt (isThere_in hI lt3_2 (by assumption)); omega)

def f_X5_tellStatement (g : Mem) (d : Nat) (p1 : Int32) : Int32 × Mem := if (f_X4_at g d p1) = 99 then (((r_X5_tellSlices g (f_X4_twoDigitsAt g d (p1 + (1 : Int32)))), (m_X5_tellSlices g (f_X4_twoDigitsAt g d (p1 + (1 : Int32)))))) else (if (f_X4_at g d p1) = 104 then (((r_X5_tellHunger g (f_X4_digitAt g d (p1 + (1 : Int32))) (f_X4_twoDigitsAt g d (p1 + (2 : Int32)))), (m_X5_tellHunger g (f_X4_digitAt g d (p1 + (1 : Int32))) (f_X4_twoDigitsAt g d (p1 + (2 : Int32)))))) else (if (f_X4_at g d p1) = 108 then (((r_X5_tellWish g (f_X4_digitAt g d (p1 + (1 : Int32))) (f_X4_twoDigitsAt g d (p1 + (2 : Int32)))), (m_X5_tellWish g (f_X4_digitAt g d (p1 + (1 : Int32))) (f_X4_twoDigitsAt g d (p1 + (2 : Int32)))))) else (if (f_X4_at g d p1) = 112 then (((r_X5_tellPerson g (f_X4_digitAt g d (p1 + (1 : Int32))) (f_X4_digitAt g d (p1 + (2 : Int32))) (f_X4_twoDigitsAt g d (p1 + (3 : Int32))) (f_X4_twoDigitsAt g d (p1 + (5 : Int32)))), (m_X5_tellPerson g (f_X4_digitAt g d (p1 + (1 : Int32))) (f_X4_digitAt g d (p1 + (2 : Int32))) (f_X4_twoDigitsAt g d (p1 + (3 : Int32))) (f_X4_twoDigitsAt g d (p1 + (5 : Int32)))))) else (if (f_X4_at g d p1) = 116 then (if (f_X0_mayTurn g 2 (f_X4_digitAt g d (p1 + (1 : Int32))) (f_X4_digitAt g d (p1 + (2 : Int32)))) = 0 then (((0 : Int32), g)) else (if (r_X0_turn g 2 (f_X4_digitAt g d (p1 + (1 : Int32))) (f_X4_digitAt g d (p1 + (2 : Int32)))) < 0 then (((0 : Int32), (m_X0_turn g 2 (f_X4_digitAt g d (p1 + (1 : Int32))) (f_X4_digitAt g d (p1 + (2 : Int32)))))) else (((1 : Int32), (m_X0_turn g 2 (f_X4_digitAt g d (p1 + (1 : Int32))) (f_X4_digitAt g d (p1 + (2 : Int32)))))))) else (((0 : Int32), g))))))
def r_X5_tellStatement (g : Mem) (d : Nat) (p1 : Int32) : Int32 := (f_X5_tellStatement g d p1).1
def m_X5_tellStatement (g : Mem) (d : Nat) (p1 : Int32) : Mem := (f_X5_tellStatement g d p1).2
theorem e_X5_tellStatement (g : Mem) (d : Nat) (p1 : Int32) : (r_X5_tellStatement g d p1, m_X5_tellStatement g d p1) = f_X5_tellStatement g d p1 := by unfold r_X5_tellStatement m_X5_tellStatement; exact pmk_eta _
theorem yk_X5_tellStatement : yokV yX5_tellStatement RX5 cX5_tellStatement 5 (some .boolean) 2 := ⟨w_222, w_221, wp_3, w_1, by decide +kernel⟩
set_option maxHeartbeats 4000000 in
set_option maxRecDepth 100000 in
theorem c_X5_tellStatement (l : Launch) (z : ZC) (g : Mem) (d : Nat) (hd : d < 8) (p1 : Int32) (hI : In g) : ctC l yX5_tellStatement cX5_tellStatement 5 (some .boolean) 5 103 z g [.ref (zad z 46), .ref (zad z (24 + d)), .int p1] (qIC z (r_X5_tellStatement g d p1, m_X5_tellStatement g d p1)) := by
  rw [e_X5_tellStatement]
  refine ct_of (own := RX5) (q := fun r => qIC z r) (res := f_X5_tellStatement g d p1) (lv := [(0, .ref (zad z 46)), (1, .ref (zad z (24 + d))), (2, .int p1)]) (enokC z) rfl (by decide) (Nat.le_of_ble_eq_true rfl) rfl (fun p e s m args below meth c C0 hrt hlk => ?_)
  unfold f_X5_tellStatement
  refine j_aload_n C0 1 dX5_tellStatement_0 rfl rfl ?_
  refine j_iload_n C0 2 dX5_tellStatement_1 rfl rfl ?_
  refine j_iconst C0 (v := 1) dX5_tellStatement_2 (by decide) ?_
  refine j_iadd C0 dX5_tellStatement_3 ?_
  refine j_callVi C0 (c_X4_digitAt l z _ d hd _ hI) yk_X4_digitAt w_223 (fun H locs hP _ => recvW C0 hP _ (by have := hd; omega) (cel_shelf hd) rfl) ⟨Nat.le_of_ble_eq_true rfl, Nat.le_of_ble_eq_true rfl⟩ rfl rfl (Nat.le_of_ble_eq_true rfl) dX5_tellStatement_4 ?_
  refine j_istore_n C0 (lv' := [(3, _), (0, _), (1, _), (2, _)]) dX5_tellStatement_7 rfl (by decide) rfl ?_
  refine j_aload_n C0 2 dX5_tellStatement_8 rfl rfl ?_
  refine j_iload_n C0 3 dX5_tellStatement_9 rfl rfl ?_
  refine j_iconst C0 (v := 2) dX5_tellStatement_10 (by decide) ?_
  refine j_iadd C0 dX5_tellStatement_11 ?_
  refine j_callVi C0 (c_X4_digitAt l z _ d hd _ hI) yk_X4_digitAt w_223 (fun H locs hP _ => recvW C0 hP _ (by have := hd; omega) (cel_shelf hd) rfl) ⟨Nat.le_of_ble_eq_true rfl, Nat.le_of_ble_eq_true rfl⟩ rfl rfl (Nat.le_of_ble_eq_true rfl) dX5_tellStatement_12 ?_
  refine j_istore C0 (lv' := [(4, _), (3, _), (0, _), (1, _), (2, _)]) dX5_tellStatement_15 (by decide) rfl ?_
  refine j_aload_n C0 3 dX5_tellStatement_17 rfl rfl ?_
  refine j_iload_n C0 4 dX5_tellStatement_18 rfl rfl ?_
  refine j_callVi C0 (c_X4_at l z _ d hd _ hI) yk_X4_at w_196 (fun H locs hP _ => recvW C0 hP _ (by have := hd; omega) (cel_shelf hd) rfl) ⟨Nat.le_of_ble_eq_true rfl, Nat.le_of_ble_eq_true rfl⟩ rfl rfl (Nat.le_of_ble_eq_true rfl) dX5_tellStatement_19 ?_
  refine j_case (cnd := (f_X4_at g d p1) = 99) (fun c_22_99 => ?_) (fun c_22_99 => ?_)
  · have c_22_99x : ((f_X4_at g d p1)).toInt = 99 := by rw [c_22_99]; rfl
    refine j_lookup C0 94 dX5_tellStatement_22 (by decide) (by rw [c_22_99x]) (by decide) ?_
    refine j_aload_n C0 2 dX5_tellStatement_94 rfl rfl ?_
    refine j_aload_n C0 3 dX5_tellStatement_95 rfl rfl ?_
    refine j_iload_n C0 4 dX5_tellStatement_96 rfl rfl ?_
    refine j_iconst C0 (v := 1) dX5_tellStatement_97 (by decide) ?_
    refine j_iadd C0 dX5_tellStatement_98 ?_
    refine j_callVi C0 (c_X4_twoDigitsAt l z _ d hd _ hI) yk_X4_twoDigitsAt w_228 (fun H locs hP _ => recvW C0 hP _ (by have := hd; omega) (cel_shelf hd) rfl) ⟨Nat.le_of_ble_eq_true rfl, Nat.le_of_ble_eq_true rfl⟩ rfl rfl (Nat.le_of_ble_eq_true rfl) dX5_tellStatement_99 ?_
    refine j_callVi C0 (c_X5_tellSlices l z _ _ hI) yk_X5_tellSlices w_270 (fun H locs hP _ => recvW C0 hP _ (by decide) cel_main rfl) ⟨Nat.le_of_ble_eq_true rfl, Nat.le_of_ble_eq_true rfl⟩ rfl rfl (Nat.le_of_ble_eq_true rfl) dX5_tellStatement_102 ?_
    exact j_zretM C0 hrt hlk (b01m_X5_tellSlices _ _) dX5_tellStatement_105
  · skip
    refine j_case (cnd := (f_X4_at g d p1) = 104) (fun c_22_104 => ?_) (fun c_22_104 => ?_)
    · have c_22_104x : ((f_X4_at g d p1)).toInt = 104 := by rw [c_22_104]; rfl
      refine j_lookup C0 138 dX5_tellStatement_22 (by decide) (by rw [c_22_104x]) (by decide) ?_
      refine j_aload_n C0 2 dX5_tellStatement_138 rfl rfl ?_
      refine j_iload_n C0 1 dX5_tellStatement_139 rfl rfl ?_
      refine j_aload_n C0 3 dX5_tellStatement_140 rfl rfl ?_
      refine j_iload_n C0 4 dX5_tellStatement_141 rfl rfl ?_
      refine j_iconst C0 (v := 2) dX5_tellStatement_142 (by decide) ?_
      refine j_iadd C0 dX5_tellStatement_143 ?_
      refine j_callVi C0 (c_X4_twoDigitsAt l z _ d hd _ hI) yk_X4_twoDigitsAt w_228 (fun H locs hP _ => recvW C0 hP _ (by have := hd; omega) (cel_shelf hd) rfl) ⟨Nat.le_of_ble_eq_true rfl, Nat.le_of_ble_eq_true rfl⟩ rfl rfl (Nat.le_of_ble_eq_true rfl) dX5_tellStatement_144 ?_
      refine j_callVi C0 (c_X5_tellHunger l z _ _ _ hI) yk_X5_tellHunger w_327 (fun H locs hP _ => recvW C0 hP _ (by decide) cel_main rfl) ⟨Nat.le_of_ble_eq_true rfl, Nat.le_of_ble_eq_true rfl⟩ rfl rfl (Nat.le_of_ble_eq_true rfl) dX5_tellStatement_147 ?_
      exact j_zretM C0 hrt hlk (b01m_X5_tellHunger _ _ _) dX5_tellStatement_150
    · skip
      refine j_case (cnd := (f_X4_at g d p1) = 108) (fun c_22_108 => ?_) (fun c_22_108 => ?_)
      · have c_22_108x : ((f_X4_at g d p1)).toInt = 108 := by rw [c_22_108]; rfl
        refine j_lookup C0 151 dX5_tellStatement_22 (by decide) (by rw [c_22_108x]) (by decide) ?_
        refine j_aload_n C0 2 dX5_tellStatement_151 rfl rfl ?_
        refine j_iload_n C0 1 dX5_tellStatement_152 rfl rfl ?_
        refine j_aload_n C0 3 dX5_tellStatement_153 rfl rfl ?_
        refine j_iload_n C0 4 dX5_tellStatement_154 rfl rfl ?_
        refine j_iconst C0 (v := 2) dX5_tellStatement_155 (by decide) ?_
        refine j_iadd C0 dX5_tellStatement_156 ?_
        refine j_callVi C0 (c_X4_twoDigitsAt l z _ d hd _ hI) yk_X4_twoDigitsAt w_228 (fun H locs hP _ => recvW C0 hP _ (by have := hd; omega) (cel_shelf hd) rfl) ⟨Nat.le_of_ble_eq_true rfl, Nat.le_of_ble_eq_true rfl⟩ rfl rfl (Nat.le_of_ble_eq_true rfl) dX5_tellStatement_157 ?_
        refine j_callVi C0 (c_X5_tellWish l z _ _ _ hI) yk_X5_tellWish w_332 (fun H locs hP _ => recvW C0 hP _ (by decide) cel_main rfl) ⟨Nat.le_of_ble_eq_true rfl, Nat.le_of_ble_eq_true rfl⟩ rfl rfl (Nat.le_of_ble_eq_true rfl) dX5_tellStatement_160 ?_
        exact j_zretM C0 hrt hlk (b01m_X5_tellWish _ _ _) dX5_tellStatement_163
      · skip
        refine j_case (cnd := (f_X4_at g d p1) = 112) (fun c_22_112 => ?_) (fun c_22_112 => ?_)
        · have c_22_112x : ((f_X4_at g d p1)).toInt = 112 := by rw [c_22_112]; rfl
          refine j_lookup C0 72 dX5_tellStatement_22 (by decide) (by rw [c_22_112x]) (by decide) ?_
          refine j_aload_n C0 2 dX5_tellStatement_72 rfl rfl ?_
          refine j_iload_n C0 1 dX5_tellStatement_73 rfl rfl ?_
          refine j_iload C0 0 dX5_tellStatement_74 rfl ?_
          refine j_aload_n C0 3 dX5_tellStatement_76 rfl rfl ?_
          refine j_iload_n C0 4 dX5_tellStatement_77 rfl rfl ?_
          refine j_iconst C0 (v := 3) dX5_tellStatement_78 (by decide) ?_
          refine j_iadd C0 dX5_tellStatement_79 ?_
          refine j_callVi C0 (c_X4_twoDigitsAt l z _ d hd _ hI) yk_X4_twoDigitsAt w_228 (fun H locs hP _ => recvW C0 hP _ (by have := hd; omega) (cel_shelf hd) rfl) ⟨Nat.le_of_ble_eq_true rfl, Nat.le_of_ble_eq_true rfl⟩ rfl rfl (Nat.le_of_ble_eq_true rfl) dX5_tellStatement_80 ?_
          refine j_aload_n C0 3 dX5_tellStatement_83 rfl rfl ?_
          refine j_iload_n C0 4 dX5_tellStatement_84 rfl rfl ?_
          refine j_iconst C0 (v := 5) dX5_tellStatement_85 (by decide) ?_
          refine j_iadd C0 dX5_tellStatement_86 ?_
          refine j_callVi C0 (c_X4_twoDigitsAt l z _ d hd _ hI) yk_X4_twoDigitsAt w_228 (fun H locs hP _ => recvW C0 hP _ (by have := hd; omega) (cel_shelf hd) rfl) ⟨Nat.le_of_ble_eq_true rfl, Nat.le_of_ble_eq_true rfl⟩ rfl rfl (Nat.le_of_ble_eq_true rfl) dX5_tellStatement_87 ?_
          refine j_callVi C0 (c_X5_tellPerson l z _ _ _ _ _ hI) yk_X5_tellPerson w_233 (fun H locs hP _ => recvW C0 hP _ (by decide) cel_main rfl) ⟨Nat.le_of_ble_eq_true rfl, Nat.le_of_ble_eq_true rfl⟩ rfl rfl (Nat.le_of_ble_eq_true rfl) dX5_tellStatement_90 ?_
          exact j_zretM C0 hrt hlk (b01m_X5_tellPerson _ _ _ _ _) dX5_tellStatement_93
        · skip
          refine j_case (cnd := (f_X4_at g d p1) = 116) (fun c_22_116 => ?_) (fun c_22_116 => ?_)
          · have c_22_116x : ((f_X4_at g d p1)).toInt = 116 := by rw [c_22_116]; rfl
            refine j_lookup C0 106 dX5_tellStatement_22 (by decide) (by rw [c_22_116x]) (by decide) ?_
            refine j_aload_n C0 2 dX5_tellStatement_106 rfl rfl ?_
            refine g_Cakes_trial C0 w_159 dX5_tellStatement_107 ?_
            refine j_iload_n C0 1 dX5_tellStatement_110 rfl rfl ?_
            refine j_iload C0 0 dX5_tellStatement_111 rfl ?_
            refine j_callVi C0 (c_X0_mayTurn l z _ 2 lt3_2 _ _ hI) yk_X0_mayTurn w_274 (fun H locs hP _ => recvW C0 hP _ (by have := lt3_2; omega) (cel_fete lt3_2) rfl) ⟨Nat.le_of_ble_eq_true rfl, Nat.le_of_ble_eq_true rfl⟩ rfl rfl (Nat.le_of_ble_eq_true rfl) dX5_tellStatement_113 ?_
            refine j_if_eq C0 136 dX5_tellStatement_116 (by decide) (fun c_116 => ?_) (fun c_116 => ?_)
            · refine j_iconst C0 (v := 0) dX5_tellStatement_136 (by decide) ?_
              exact j_zretM C0 hrt hlk (Or.inl rfl) dX5_tellStatement_137
            · have hv1 := mayTurn_in hI lt3_2 c_116
              refine j_aload_n C0 2 dX5_tellStatement_119 rfl rfl ?_
              refine g_Cakes_trial C0 w_159 dX5_tellStatement_120 ?_
              refine j_iload_n C0 1 dX5_tellStatement_123 rfl rfl ?_
              refine j_iload C0 0 dX5_tellStatement_124 rfl ?_
              refine j_callVi C0 (c_X0_turn l z _ 2 lt3_2 _ _ hv1.1 hv1.2 hI) yk_X0_turn w_296 (fun H locs hP _ => recvW C0 hP _ (by have := lt3_2; omega) (cel_fete lt3_2) rfl) ⟨Nat.le_of_ble_eq_true rfl, Nat.le_of_ble_eq_true rfl⟩ rfl rfl (Nat.le_of_ble_eq_true rfl) dX5_tellStatement_126 ?_
              refine j_if_lt C0 136 dX5_tellStatement_129 (by decide) (fun c_129 => ?_) (fun c_129 => ?_)
              · refine j_iconst C0 (v := 0) dX5_tellStatement_136 (by decide) ?_
                exact j_zretM C0 hrt hlk (Or.inl rfl) dX5_tellStatement_137
              · refine j_iconst C0 (v := 1) dX5_tellStatement_132 (by decide) ?_
                refine j_goto C0 137 dX5_tellStatement_133 (by decide) ?_
                exact j_zretM C0 hrt hlk (Or.inr rfl) dX5_tellStatement_137
          · skip
            refine j_lookup C0 (off := 142) 164 dX5_tellStatement_22 (by decide) (by have c_22_99x : 99 ≠ ((f_X4_at g d p1)).toInt := Ne.symm (ne_toInt c_22_99); have c_22_104x : 104 ≠ ((f_X4_at g d p1)).toInt := Ne.symm (ne_toInt c_22_104); have c_22_108x : 108 ≠ ((f_X4_at g d p1)).toInt := Ne.symm (ne_toInt c_22_108); have c_22_112x : 112 ≠ ((f_X4_at g d p1)).toInt := Ne.symm (ne_toInt c_22_112); have c_22_116x : 116 ≠ ((f_X4_at g d p1)).toInt := Ne.symm (ne_toInt c_22_116); simp [Op.lookupswitch.offset, *]) (by decide) ?_
            refine j_iconst C0 (v := 0) dX5_tellStatement_164 (by decide) ?_
            exact j_zretM C0 hrt hlk (Or.inl rfl) dX5_tellStatement_165
theorem In_tellStatement {g : Mem} (hI : In g) {d : Nat} {a : Int32} : In (m_X5_tellStatement g d a) := by
  unfold m_X5_tellStatement f_X5_tellStatement
  repeat' split
  all_goals first | (with_reducible exact hI) | (with_reducible exact In_tellPerson hI) | (with_reducible exact In_tellSlices hI) | (with_reducible exact In_tellHunger hI) | (with_reducible exact In_tellWish hI) | (with_reducible exact In_turn hI lt3_2 (mayTurn_in hI lt3_2 (by assumption)).1 (mayTurn_in hI lt3_2 (by assumption)).2)
theorem NX_tellStatement {g : Mem} (hI : In g) {d : Nat} {a : Int32} : NX g (m_X5_tellStatement g d a) := by
  unfold m_X5_tellStatement f_X5_tellStatement
  repeat' split
  all_goals first | (with_reducible exact NX.rf) | (with_reducible exact NX_tellPerson hI) | (with_reducible exact NX_tellSlices) | (with_reducible exact NX_tellHunger hI) | (with_reducible exact NX_tellWish hI) | (with_reducible exact NX_turn (mayTurn_in hI lt3_2 (by assumption)).1 (mayTurn_in hI lt3_2 (by assumption)).2)

def f_X5_tellStatements_15 (g : Mem) (d : Nat) : Nat → Int32 → Int32 → Mem → Int32 × Mem
  | 0, _, _, _ => (0, g)
  | n0 + 1, a2, a3, g_15 => if (g_15 (24 + d) 5) ≤ a3 then ((a2, (f_X0_becomes g_15 0 2))) else (if (r_X5_tellStatement g_15 d a3) = 0 then ((((-2000 : Int32) - a3), (m_X5_tellStatement g_15 d a3))) else (f_X5_tellStatements_15 g d n0 (a2 + (1 : Int32)) (a3 + ((if (f_X5_digitsBehind (f_X4_at (m_X5_tellStatement g_15 d a3) d a3)) < (0 : Int32) then (0 : Int32) else (f_X5_digitsBehind (f_X4_at (m_X5_tellStatement g_15 d a3) d a3))) + (2 : Int32))) (m_X5_tellStatement g_15 d a3)))
def f_X5_tellStatements (g : Mem) (d : Nat) : Int32 × Mem := f_X5_tellStatements_15 g d 101 (0 : Int32) (0 : Int32) (f_X0_becomes g 2 0)
def r_X5_tellStatements (g : Mem) (d : Nat) : Int32 := (f_X5_tellStatements g d).1
def m_X5_tellStatements (g : Mem) (d : Nat) : Mem := (f_X5_tellStatements g d).2
theorem e_X5_tellStatements (g : Mem) (d : Nat) : (r_X5_tellStatements g d, m_X5_tellStatements g d) = f_X5_tellStatements g d := by unfold r_X5_tellStatements m_X5_tellStatements; exact pmk_eta _
theorem yk_X5_tellStatements : yokV yX5_tellStatements RX5 cX5_tellStatements 4 (some .int) 1 := ⟨w_210, w_209, wp_2, w_1, by decide +kernel⟩
set_option maxHeartbeats 4000000 in
set_option maxRecDepth 100000 in
theorem c_X5_tellStatements (l : Launch) (z : ZC) (g : Mem) (d : Nat) (hd : d < 8) (hI : In g) : ctC l yX5_tellStatements cX5_tellStatements 4 (some .int) 6 127 z g [.ref (zad z 46), .ref (zad z (24 + d))] (qIC z (r_X5_tellStatements g d, m_X5_tellStatements g d)) := by
  rw [e_X5_tellStatements]
  refine ct_of (own := RX5) (q := fun r => qIC z r) (res := f_X5_tellStatements g d) (lv := [(0, .ref (zad z 46)), (1, .ref (zad z (24 + d)))]) (enokC z) rfl (by decide) (Nat.le_of_ble_eq_true rfl) rfl (fun p e s m args below meth c C0 hrt hlk => ?_)
  unfold f_X5_tellStatements
  refine j_aload_n C0 0 dX5_tellStatements_0 rfl rfl ?_
  refine g_Cakes_trial C0 w_159 dX5_tellStatements_1 ?_
  refine j_aload_n C0 0 dX5_tellStatements_4 rfl rfl ?_
  refine g_Cakes_now C0 w_157 dX5_tellStatements_5 ?_
  refine j_callVv C0 (c_X0_becomes l z _ 2 lt3_2 0 lt3_0 hI) yk_X0_becomes w_211 (fun H locs hP _ => recvW C0 hP _ (by have := lt3_2; omega) (cel_fete lt3_2) rfl) ⟨Nat.le_of_ble_eq_true rfl, Nat.le_of_ble_eq_true rfl⟩ rfl rfl (Nat.le_of_ble_eq_true rfl) dX5_tellStatements_8 ?_
  refine j_iconst C0 (v := 0) dX5_tellStatements_11 (by decide) ?_
  refine j_istore_n C0 (lv' := [(2, _), (0, _), (1, _)]) dX5_tellStatements_12 rfl (by decide) rfl ?_
  refine j_iconst C0 (v := 0) dX5_tellStatements_13 (by decide) ?_
  refine j_istore_n C0 (lv' := [(3, _), (2, _), (0, _), (1, _)]) dX5_tellStatements_14 rfl (by decide) rfl ?_
  have L15 : ∀ (n0 : Nat) (a2 : Int32) (a3 : Int32) (g_15 : Mem), (0 ≤ a3.toInt ∧ a3.toInt ≤ 108 ∧ ((g (24 + d) 5).toInt - a3.toInt).toNat < n0) → NX g g_15 → In g_15 → jj p l e { frames := 6, cells := 0, slots := 0, locals := 127 } s m args below meth c (zA z) (zD z) 52 (zad z) (celC z) 4 (fun r => MQ below (qIC z r) args s 0 0 (zA z)) (f_X5_tellStatements_15 g d n0 a2 a3 g_15) g_15 15 [(0, .ref (zad z 46)), (1, .ref (zad z (24 + d))), (2, .int a2), (3, .int a3)] [] := by
    intro n0
    induction n0 with
    | zero => intro a2 a3 g_15 hL hN hIm; exact absurd hL.2.2 (Nat.not_lt_zero _)
    | succ n0 ih0 =>
      intro a2 a3 g_15 hL hN hIm
      rw [f_X5_tellStatements_15]
      refine j_iload_n C0 3 dX5_tellStatements_15 rfl rfl ?_
      refine j_aload_n C0 1 dX5_tellStatements_16 rfl rfl ?_
      refine g_Shelf_length C0 hd w_142 dX5_tellStatements_17 ?_
      refine j_icmp_ge C0 61 dX5_tellStatements_20 (by decide) (fun c_20 => ?_) (fun c_20 => ?_)
      · refine j_aload_n C0 0 dX5_tellStatements_61 rfl rfl ?_
        refine g_Cakes_now C0 w_157 dX5_tellStatements_62 ?_
        refine j_aload_n C0 0 dX5_tellStatements_65 rfl rfl ?_
        refine g_Cakes_trial C0 w_159 dX5_tellStatements_66 ?_
        refine j_callVv C0 (c_X0_becomes l z _ 0 lt3_0 2 lt3_2 hIm) yk_X0_becomes w_211 (fun H locs hP _ => recvW C0 hP _ (by have := lt3_0; omega) (cel_fete lt3_0) rfl) ⟨Nat.le_of_ble_eq_true rfl, Nat.le_of_ble_eq_true rfl⟩ rfl rfl (Nat.le_of_ble_eq_true rfl) dX5_tellStatements_69 ?_
        refine j_iload_n C0 2 dX5_tellStatements_72 rfl rfl ?_
        exact j_iretM C0 hrt hlk dX5_tellStatements_73
      · refine j_aload_n C0 0 dX5_tellStatements_23 rfl rfl ?_
        refine j_aload_n C0 1 dX5_tellStatements_24 rfl rfl ?_
        refine j_iload_n C0 3 dX5_tellStatements_25 rfl rfl ?_
        refine j_callVi C0 (c_X5_tellStatement l z _ d hd _ hIm) yk_X5_tellStatement w_219 (fun H locs hP _ => recvW C0 hP _ (by decide) cel_main rfl) ⟨Nat.le_of_ble_eq_true rfl, Nat.le_of_ble_eq_true rfl⟩ rfl rfl (Nat.le_of_ble_eq_true rfl) dX5_tellStatements_26 ?_
        refine j_if_ne C0 38 dX5_tellStatements_29 (by decide) (fun c_29 => ?_) (fun c_29 => ?_)
        · refine j_sipush C0 (v := (-2000)) dX5_tellStatements_32 (by decide) ?_
          refine j_iload_n C0 3 dX5_tellStatements_35 rfl rfl ?_
          refine j_isub C0 dX5_tellStatements_36 ?_
          exact j_iretM C0 hrt hlk dX5_tellStatements_37
        · refine j_iinc C0 (lv' := [(2, _), (0, _), (1, _), (3, _)]) (v := _ + (1)) 2 dX5_tellStatements_38 rfl (by rfl) (by decide) rfl ?_
          refine j_iload_n C0 3 dX5_tellStatements_41 rfl rfl ?_
          refine j_aload_n C0 2 dX5_tellStatements_42 rfl rfl ?_
          refine j_iload_n C0 3 dX5_tellStatements_43 rfl rfl ?_
          refine j_callVi C0 (c_X4_at l z _ d hd _ (In_tellStatement hIm)) yk_X4_at w_196 (fun H locs hP _ => recvW C0 hP _ (by have := hd; omega) (cel_shelf hd) rfl) ⟨Nat.le_of_ble_eq_true rfl, Nat.le_of_ble_eq_true rfl⟩ rfl rfl (Nat.le_of_ble_eq_true rfl) dX5_tellStatements_44 ?_
          refine j_callSi C0 (c_X5_digitsBehind l z _ _) yk_X5_digitsBehind w_204 ⟨Nat.le_of_ble_eq_true rfl, Nat.le_of_ble_eq_true rfl⟩ rfl rfl (Nat.le_of_ble_eq_true rfl) dX5_tellStatements_47 ?_
          refine j_iconst C0 (v := 0) dX5_tellStatements_50 (by decide) ?_
          refine j_mmax C0 w_336 w_316 w_9 w_317 (Nat.le_of_ble_eq_true rfl) (Nat.le_of_ble_eq_true rfl) dX5_tellStatements_51 ?_
          refine j_iconst C0 (v := 2) dX5_tellStatements_54 (by decide) ?_
          refine j_iadd C0 dX5_tellStatements_55 ?_
          refine j_iadd C0 dX5_tellStatements_56 ?_
          refine j_istore_n C0 (lv' := [(3, _), (2, _), (0, _), (1, _)]) dX5_tellStatements_57 rfl (by decide) rfl ?_
          refine j_goto C0 15 dX5_tellStatements_58 (by decide) ?_
          exact j_sub [2, 3, 1, 0] rfl (ih0 _ _ _ (tellStep hL ((hN _ _ (nx_sh hd)) ▸ c_20) (In_len hI hd)) (hN.tr (NX_tellStatement hIm)) (In_tellStatement hIm))
  exact j_sub [2, 3, 1, 0] rfl (L15 101 _ _ _ (by have := In_len hI hd; have e0 : (0 : Int32).toInt = 0 := rfl; omega) (NX_becomes hI) (In_becomesF hI lt3_2 lt3_0))
def f_X5_fete (g : Mem) (p0 : Int32) : Int32 × Mem := if (f_X5_refusalOfRow g p0) = 0 then (if (g (24 + ix p0) 4) = 0 then (if (f_X5_placeOfBrokenForm g (ix p0)) < 0 then (((r_X5_tellStatements g (ix p0)), (m_X5_tellStatements g (ix p0)))) else ((((-1000 : Int32) - (f_X5_placeOfBrokenForm g (ix p0))), g))) else (((-12 : Int32), g))) else (((f_X5_refusalOfRow g p0), g))
def r_X5_fete (g : Mem) (p0 : Int32) : Int32 := (f_X5_fete g p0).1
def m_X5_fete (g : Mem) (p0 : Int32) : Mem := (f_X5_fete g p0).2
theorem e_X5_fete (g : Mem) (p0 : Int32) : (r_X5_fete g p0, m_X5_fete g p0) = f_X5_fete g p0 := by unfold r_X5_fete m_X5_fete; exact pmk_eta _
theorem yk_X5_fete : yokV yX5_fete RX5 cX5_fete 5 (some .int) 1 := ⟨w_178, w_176, w_177, w_1, by decide +kernel⟩
set_option maxHeartbeats 4000000 in
set_option maxRecDepth 100000 in
theorem c_X5_fete (l : Launch) (z : ZC) (g : Mem) (p0 : Int32) (hI : In g) : ctC l yX5_fete cX5_fete 5 (some .int) 7 150 z g [.ref (zad z 46), .int p0] (qIC z (r_X5_fete g p0, m_X5_fete g p0)) := by
  rw [e_X5_fete]
  refine ct_of (own := RX5) (q := fun r => qIC z r) (res := f_X5_fete g p0) (lv := [(0, .ref (zad z 46)), (1, .int p0)]) (enokC z) rfl (by decide) (Nat.le_of_ble_eq_true rfl) rfl (fun p e s m args below meth c C0 hrt hlk => ?_)
  unfold f_X5_fete
  refine j_aload_n C0 0 dX5_fete_0 rfl rfl ?_
  refine j_iload_n C0 1 dX5_fete_1 rfl rfl ?_
  refine j_callVi C0 (c_X5_refusalOfRow l z _ _ hI) yk_X5_refusalOfRow w_179 (fun H locs hP _ => recvW C0 hP _ (by decide) cel_main rfl) ⟨Nat.le_of_ble_eq_true rfl, Nat.le_of_ble_eq_true rfl⟩ rfl rfl (Nat.le_of_ble_eq_true rfl) dX5_fete_2 ?_
  refine j_istore_n C0 (lv' := [(2, _), (0, _), (1, _)]) dX5_fete_5 rfl (by decide) rfl ?_
  refine j_iload_n C0 0 dX5_fete_6 rfl rfl ?_
  refine j_if_eq C0 12 dX5_fete_7 (by decide) (fun c_7 => ?_) (fun c_7 => ?_)
  · have hv := refusalR_in c_7
    refine j_aload_n C0 1 dX5_fete_12 rfl rfl ?_
    refine g_Cakes_shelves C0 w_156 dX5_fete_13 ?_
    refine j_iload_n C0 2 dX5_fete_16 rfl rfl ?_
    refine a_shelves C0 hv dX5_fete_17 ?_
    refine j_astore_n C0 (lv' := [(3, _), (2, _), (0, _), (1, _)]) dX5_fete_18 rfl (by decide) rfl ?_
    refine j_aload_n C0 0 dX5_fete_19 rfl rfl ?_
    refine g_Shelf_sort C0 (vin_lt hv) w_139 dX5_fete_20 ?_
    refine j_if_eq C0 29 dX5_fete_23 (by decide) (fun c_23 => ?_) (fun c_23 => ?_)
    · refine j_aload_n C0 0 dX5_fete_29 rfl rfl ?_
      refine j_callSi C0 (c_X5_placeOfBrokenForm l z _ (ix p0) (vin_lt hv) hI) yk_X5_placeOfBrokenForm w_193 ⟨Nat.le_of_ble_eq_true rfl, Nat.le_of_ble_eq_true rfl⟩ rfl rfl (Nat.le_of_ble_eq_true rfl) dX5_fete_30 ?_
      refine j_istore C0 (lv' := [(4, _), (3, _), (2, _), (0, _), (1, _)]) dX5_fete_33 (by decide) rfl ?_
      refine j_iload C0 0 dX5_fete_35 rfl ?_
      refine j_if_lt C0 47 dX5_fete_37 (by decide) (fun c_37 => ?_) (fun c_37 => ?_)
      · refine j_aload_n C0 3 dX5_fete_47 rfl rfl ?_
        refine j_aload_n C0 1 dX5_fete_48 rfl rfl ?_
        refine j_callVi C0 (c_X5_tellStatements l z _ (ix p0) (vin_lt hv) hI) yk_X5_tellStatements w_207 (fun H locs hP _ => recvW C0 hP _ (by decide) cel_main rfl) ⟨Nat.le_of_ble_eq_true rfl, Nat.le_of_ble_eq_true rfl⟩ rfl rfl (Nat.le_of_ble_eq_true rfl) dX5_fete_49 ?_
        exact j_iretM C0 hrt hlk dX5_fete_52
      · refine j_sipush C0 (v := (-1000)) dX5_fete_40 (by decide) ?_
        refine j_iload C0 0 dX5_fete_43 rfl ?_
        refine j_isub C0 dX5_fete_45 ?_
        exact j_iretM C0 hrt hlk dX5_fete_46
    · refine j_bipush C0 (v := (-12)) dX5_fete_26 (by decide) ?_
      exact j_iretM C0 hrt hlk dX5_fete_28
  · refine j_iload_n C0 0 dX5_fete_10 rfl rfl ?_
    exact j_iretM C0 hrt hlk dX5_fete_11
