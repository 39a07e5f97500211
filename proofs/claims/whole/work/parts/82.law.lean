set_option maxHeartbeats 4000000 in
set_option maxRecDepth 100000 in
theorem c_X6_feeds2 (l : Launch) (z : ZM) (g : Mem) (p0 : Int32) (hI : InM g) (hbite : ¬ f_X6_isPerson g p0 = 0 → ¬ f_X6_bite (g 1 (ix (f_X6_of p0 0))) (g 1 (ix (f_X6_of p0 1))) = 0) : ctM l yX6_feeds cX6_feeds 3 (some .int) 2 43 z g [.ref (yad z 0), .int p0] (qIM z (f_X6_feeds g p0, g)) := by
  refine ct_of (own := RX6) (q := fun r => qIM z (r, g)) (res := f_X6_feeds g p0) (lv := [(0, .ref (yad z 0)), (1, .int p0)]) enokM rfl (by decide) (Nat.le_of_ble_eq_true rfl) rfl (fun p e s m args below meth c C0 hrt hlk => ?_)
  unfold f_X6_feeds
  refine j_aload_n C0 0 dX6_feeds_0 rfl rfl ?_
  refine j_iload_n C0 1 dX6_feeds_1 rfl rfl ?_
  refine j_callVi C0 (c_X6_isPerson l z _ _ hI) yk_X6_isPerson w_900 (fun H locs hP _ => recvW C0 hP 0 (by decide) celM_0 rfl) ⟨Nat.le_of_ble_eq_true rfl, Nat.le_of_ble_eq_true rfl⟩ rfl rfl (Nat.le_of_ble_eq_true rfl) dX6_feeds_2 ?_
  refine j_if_ne C0 10 dX6_feeds_5 (by decide) (fun c_5 => ?_) (fun c_5 => ?_)
  · refine j_iconst C0 (v := (-1)) dX6_feeds_8 (by decide) ?_
    exact j_iretP C0 hrt hlk dX6_feeds_9
  · have hvp0 := isPerson_in hI c_5
    refine j_aload_n C0 0 dX6_feeds_10 rfl rfl ?_
    refine g_Model_s C0 w_800 dX6_feeds_11 ?_
    refine j_iload_n C0 1 dX6_feeds_14 rfl rfl ?_
    refine j_iconst C0 (v := 0) dX6_feeds_15 (by decide) ?_
    refine j_callSi C0 (c_X6_of l z _ _ _) yk_X6_of w_897 ⟨Nat.le_of_ble_eq_true rfl, Nat.le_of_ble_eq_true rfl⟩ rfl rfl (Nat.le_of_ble_eq_true rfl) dX6_feeds_16 ?_
    refine a_M C0 (by decide) (of_in0 hvp0) dX6_feeds_19 ?_
    refine j_aload_n C0 0 dX6_feeds_20 rfl rfl ?_
    refine g_Model_s C0 w_800 dX6_feeds_21 ?_
    refine j_iload_n C0 1 dX6_feeds_24 rfl rfl ?_
    refine j_iconst C0 (v := 1) dX6_feeds_25 (by decide) ?_
    refine j_callSi C0 (c_X6_of l z _ _ _) yk_X6_of w_897 ⟨Nat.le_of_ble_eq_true rfl, Nat.le_of_ble_eq_true rfl⟩ rfl rfl (Nat.le_of_ble_eq_true rfl) dX6_feeds_26 ?_
    refine a_M C0 (by decide) (of_in1 hvp0) dX6_feeds_29 ?_
    refine j_callSi C0 (c_X6_bite l z _ _ _) yk_X6_bite w_922 ⟨Nat.le_of_ble_eq_true rfl, Nat.le_of_ble_eq_true rfl⟩ rfl rfl (Nat.le_of_ble_eq_true rfl) dX6_feeds_30 ?_
    refine j_istore_n C0 (lv' := [(2, _), (0, _), (1, _)]) dX6_feeds_33 rfl (by decide) rfl ?_
    refine j_aload_n C0 1 dX6_feeds_34 rfl rfl ?_
    refine g_Model_s C0 w_800 dX6_feeds_35 ?_
    refine j_iload_n C0 2 dX6_feeds_38 rfl rfl ?_
    refine j_iconst C0 (v := 2) dX6_feeds_39 (by decide) ?_
    refine j_callSi C0 (c_X6_of l z _ _ _) yk_X6_of w_897 ⟨Nat.le_of_ble_eq_true rfl, Nat.le_of_ble_eq_true rfl⟩ rfl rfl (Nat.le_of_ble_eq_true rfl) dX6_feeds_40 ?_
    refine a_M C0 (by decide) (of_in2 hvp0) dX6_feeds_43 ?_
    refine j_iload_n C0 0 dX6_feeds_44 rfl rfl ?_
    refine j_iadd C0 dX6_feeds_45 ?_
    refine j_iconst C0 (v := 1) dX6_feeds_46 (by decide) ?_
    refine j_isub C0 dX6_feeds_47 ?_
    refine j_iload_n C0 0 dX6_feeds_48 rfl rfl ?_
    refine j_idiv C0 dX6_feeds_49 (hbite c_5) ?_
    exact j_iretP C0 hrt hlk dX6_feeds_50
theorem q_lald {p : Program} {l : Launch} {e : Env} {R : Room} {s : State} {m : MethodId} {args : Array Value} {below : List Frame} {meth : Method} {c : Code} {cc : ByteArray} {nL : Nat} {own : String} {A : Nat → Prop} {kc ks : Nat} {Q : State → Prop} {pc : Nat} {lv : List (Nat × Value)} {st : List Value} {z : ZC} {y : ZM} {b L : Nat} {xs : Nat → Int32} {o : Nat} {cL : ClassId} {N0 : Nat} {cg mg : Mem} {f : Nat → Int64} (C0 : jb p s m args c cc nL own) (F : FX s A z y b L xs o cL N0) {i : Int32} (hi : vp_in i 1) (hd : decode cc pc = .ok (.laload, 1)) (kk : jl p l e R s m args below meth c A kc ks nL Q (PLw z y o cL N0 cg mg f) (pc + 1) lv (.long (f (ix i)) :: st)) : jl p l e R s m args below meth c A kc ks nL Q (PLw z y o cL N0 cg mg f) pc lv (.int i :: .ref o :: st) := fun H locs ls hP hS hl => va_lald (ws := oW o cL f) (tys := [(cL, .long)]) (D := zD z) (cl := vwCl) C0.1 C0.2.1 F.1.2.2.2.2 hP.2.2.2 0 0 rfl rfl hi hd (kk H locs ls hP hS hl)
def KK (p : Program) (l : Launch) (e : Env) (s : State) (m : MethodId) (args : Array Value) (below : List Frame) (meth : Method) (c : Code) (A : Nat → Prop) (kc ks : Nat) (Q : State → Prop) (z : ZC) (y : ZM) (b : Nat) (o : Nat) (cL : ClassId) (N0 : Nat) (i : Int32) : Prop := ∀ (cg mg : Mem) (f : Nat → Int64), RI cg mg → jl p l e room_1 s m args below meth c A kc ks 8 Q (PLw z y o cL N0 cg mg f) 1584 [(4, .int i), (3, .ref o), (2, .ref (yad y 0)), (1, .ref (zad z 46)), (0, .ref b)] []
def HI (i : Int32) (L : Nat) : Prop := vp_in (i + 1) L ∧ vp_in (i + 2) L ∧ vp_in (i + 3) L ∧ vp_in (i + 4) L ∧ vp_in (i + 5) L
theorem lgc0 (x : Int64) : lg_cmp x x = 0 := by
  unfold lg_cmp
  simp
theorem feeds_b {cg mg : Mem} (h : RI cg mg) {p0 : Int32} (c : ¬ f_X6_isPerson mg p0 = 0) : ¬ f_X6_bite (mg 1 (ix (f_X6_of p0 0))) (mg 1 (ix (f_X6_of p0 1))) = 0 := by
  have q := person_in h.1.1.1 c
  have g := h.1.1.2.1.of q.1 q.2 vc1
  have e1 : (bnd (ix (1 : Int32)) : Int) = 9 := by decide
  have w := bite_in (w := mg 1 (ix (f_X6_of p0 0))) g.1 (by omega)
  intro e
  rw [e] at w
  have e0 : (0 : Int32).toInt = 0 := rfl
  omega
theorem rL_0 {r : Int32 × Int64} (h : rL r = 0) : r.1 = 0 := by
  unfold rL at h
  by_cases a : r.1 = 0
  · exact a
  · rw [if_neg a] at h
    by_cases b : r.1 = 2
    · rw [if_pos b] at h
      exact absurd h (by decide)
    · rw [if_neg b] at h
      exact absurd h (by decide)
theorem oL_0 {r : Int32 × Int64} {f : Nat → Int64} (h : r.1 = 0) : oL r f 0 = r.2 := by
  unfold oL
  rw [if_pos h]
  rfl
theorem el_thrown {cg mg : Mem} (h : RI cg mg) (d i : Int32) : f_X6_thrown (m_X6_element mg d i) = rL (f_X5_element cg d i) := by
  have E := (eq_element h.1.2.1 d i).1
  show (f_X6_element mg d i).2 0 19 = _
  rw [E, up_eq]
theorem el_value {cg mg : Mem} (h : RI cg mg) (d i : Int32) (f : Nat → Int64) (h0 : rL (f_X5_element cg d i) = 0) : oL (f_X5_element cg d i) f (ix (0 : Int32)) = r_X6_element mg d i := by
  have E := (eq_element h.1.2.1 d i).2.1 (rL_0 h0)
  show oL _ f 0 = (f_X6_element mg d i).1
  rw [E, oL_0 (rL_0 h0)]
