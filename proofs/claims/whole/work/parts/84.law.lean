theorem and63 (x : Int32) : 0 ≤ (x &&& 63).toInt ∧ (x &&& 63).toInt ≤ 63 := by
  have h : (x &&& 63).toBitVec.toNat ≤ 63 := by
    rw [show (x &&& 63).toBitVec = x.toBitVec &&& (63 : Int32).toBitVec from rfl, BitVec.toNat_and]
    exact Nat.and_le_right
  have e : (x &&& 63).toInt = (x &&& 63).toBitVec.toInt := rfl
  rw [e, BitVec.toInt_eq_toNat_of_lt (by omega)]
  omega
theorem le6 {L t : Nat} (hL : L ≤ 3072) (ht : t ≤ 513) (q : ¬ Int32.ofNat L - 6 < nI (6 * t)) : 6 * t + 6 ≤ L := by
  have e1 : (Int32.ofNat L).toInt = (L : Int) := nI_toInt (n := L) (by omega)
  have e6 : (6 : Int32).toInt = 6 := rfl
  have e2 : (Int32.ofNat L - 6).toInt = (L : Int) - 6 := by
    rw [subS (by omega) (by omega), e1, e6]
  have e3 : (nI (6 * t)).toInt = ((6 * t : Nat) : Int) := nI_toInt (by omega)
  have : ¬ (Int32.ofNat L - 6).toInt < (nI (6 * t)).toInt := fun w => q (Int32.lt_iff_toInt_lt.mpr w)
  omega
theorem HI_of {L t : Nat} (hL : L ≤ 3072) (h : 6 * t + 6 ≤ L) : vp_in (nI (6 * t)) L ∧ HI (nI (6 * t)) L :=
  ⟨vp_in_nI (by omega) (by omega), by rw [show nI (6 * t) + 1 = nI (6 * t + 1) from nI_add _ 1]; exact vp_in_nI (by omega) (by omega), by rw [show nI (6 * t) + 2 = nI (6 * t + 2) from nI_add _ 2]; exact vp_in_nI (by omega) (by omega), by rw [show nI (6 * t) + 3 = nI (6 * t + 3) from nI_add _ 3]; exact vp_in_nI (by omega) (by omega), by rw [show nI (6 * t) + 4 = nI (6 * t + 4) from nI_add _ 4]; exact vp_in_nI (by omega) (by omega), by rw [show nI (6 * t) + 5 = nI (6 * t + 5) from nI_add _ 5]; exact vp_in_nI (by omega) (by omega)⟩
section LAWC
variable {p : Program} {l : Launch} {e : Env} {s : State} {m : MethodId} {args : Array Value} {below : List Frame} {meth : Method} {c : Code} {A : Nat → Prop} {kc ks : Nat} {Q : State → Prop} {z : ZC} {y : ZM} {b L : Nat} {xs : Nat → Int32} {o : Nat} {cL : ClassId} {N0 : Nat} {cg mg : Mem} {f : Nat → Int64} {i : Int32}
theorem turn (C0 : jb p s m args c cL_law 8 RL) (F : FX s A z y b L xs o cL N0) (hfl : l.stackTraces = false) (h : RI cg mg) (hi0 : vp_in i L) (hi : HI i L) (hRc : kc + 1 ≤ room_1.cells ∧ ks + 6 ≤ room_1.slots) (kk : KK p l e s m args below meth c A (kc + 1) (ks + 6) Q z y b o cL N0 i) : jl p l e room_1 s m args below meth c A kc ks 8 Q (PLw z y o cL N0 cg mg f) 33 [(4, .int i), (3, .ref o), (2, .ref (yad y 0)), (1, .ref (zad z 46)), (0, .ref b)] [] := by
  refine l_aload_n C0 4 dL_law_33 rfl rfl ?_
  refine l_iload C0 0 dL_law_34 rfl ?_
  refine q_xs C0 F hi0 dL_law_36 ?_
  refine l_bipush C0 (v := 63) dL_law_37 (by decide) ?_
  refine l_iand C0 dL_law_39 ?_
  have w := and63 (xs (ix i))
  obtain ⟨j, hj⟩ : ∃ j : Nat, (xs (ix i) &&& 63).toInt = (j : Int) := ⟨_, (Int.toNat_of_nonneg w.1).symm⟩
  match j, hj with
  | 0, hj => exact l_tableIn C0 216 dL_law_40 (by rw [hj]; decide) (by rw [hj]; decide) (by rw [hj]; rfl) (by decide) (case_0 C0 F hfl h hi hRc kk)
  | 1, hj => exact l_tableIn C0 241 dL_law_40 (by rw [hj]; decide) (by rw [hj]; decide) (by rw [hj]; rfl) (by decide) (case_1 C0 F hfl h hi hRc kk)
  | 2, hj => exact l_tableIn C0 278 dL_law_40 (by rw [hj]; decide) (by rw [hj]; decide) (by rw [hj]; rfl) (by decide) (case_2 C0 F hfl h hi hRc kk)
  | 3, hj => exact l_tableIn C0 327 dL_law_40 (by rw [hj]; decide) (by rw [hj]; decide) (by rw [hj]; rfl) (by decide) (case_3 C0 F hfl h hi hRc kk)
  | 4, hj => exact l_tableIn C0 376 dL_law_40 (by rw [hj]; decide) (by rw [hj]; decide) (by rw [hj]; rfl) (by decide) (case_4 C0 F hfl h hi hRc kk)
  | 5, hj => exact l_tableIn C0 401 dL_law_40 (by rw [hj]; decide) (by rw [hj]; decide) (by rw [hj]; rfl) (by decide) (case_5 C0 F hfl h hi hRc kk)
  | 6, hj => exact l_tableIn C0 438 dL_law_40 (by rw [hj]; decide) (by rw [hj]; decide) (by rw [hj]; rfl) (by decide) (case_6 C0 F hfl h hi hRc kk)
  | 7, hj => exact l_tableIn C0 487 dL_law_40 (by rw [hj]; decide) (by rw [hj]; decide) (by rw [hj]; rfl) (by decide) (case_7 C0 F hfl h hi hRc kk)
  | 8, hj => exact l_tableIn C0 512 dL_law_40 (by rw [hj]; decide) (by rw [hj]; decide) (by rw [hj]; rfl) (by decide) (case_8 C0 F hfl h hi hRc kk)
  | 9, hj => exact l_tableIn C0 537 dL_law_40 (by rw [hj]; decide) (by rw [hj]; decide) (by rw [hj]; rfl) (by decide) (case_9 C0 F hfl h hi hRc kk)
  | 10, hj => exact l_tableIn C0 562 dL_law_40 (by rw [hj]; decide) (by rw [hj]; decide) (by rw [hj]; rfl) (by decide) (case_10 C0 F hfl h hi hRc kk)
  | 11, hj => exact l_tableIn C0 587 dL_law_40 (by rw [hj]; decide) (by rw [hj]; decide) (by rw [hj]; rfl) (by decide) (case_11 C0 F hfl h hi hRc kk)
  | 12, hj => exact l_tableIn C0 612 dL_law_40 (by rw [hj]; decide) (by rw [hj]; decide) (by rw [hj]; rfl) (by decide) (case_12 C0 F hfl h hi hRc kk)
  | 13, hj => exact l_tableIn C0 649 dL_law_40 (by rw [hj]; decide) (by rw [hj]; decide) (by rw [hj]; rfl) (by decide) (case_13 C0 F hfl h hi hRc kk)
  | 14, hj => exact l_tableIn C0 674 dL_law_40 (by rw [hj]; decide) (by rw [hj]; decide) (by rw [hj]; rfl) (by decide) (case_14 C0 F hfl h hi hRc kk)
  | 15, hj => exact l_tableIn C0 687 dL_law_40 (by rw [hj]; decide) (by rw [hj]; decide) (by rw [hj]; rfl) (by decide) (case_15 C0 F hfl h hi hRc kk)
  | 16, hj => exact l_tableIn C0 712 dL_law_40 (by rw [hj]; decide) (by rw [hj]; decide) (by rw [hj]; rfl) (by decide) (case_16 C0 F hfl h hi hRc kk)
  | 17, hj => exact l_tableIn C0 737 dL_law_40 (by rw [hj]; decide) (by rw [hj]; decide) (by rw [hj]; rfl) (by decide) (case_17 C0 F hfl h hi hRc kk)
  | 18, hj => exact l_tableIn C0 774 dL_law_40 (by rw [hj]; decide) (by rw [hj]; decide) (by rw [hj]; rfl) (by decide) (case_18 C0 F hfl h hi hRc kk)
  | 19, hj => exact l_tableIn C0 799 dL_law_40 (by rw [hj]; decide) (by rw [hj]; decide) (by rw [hj]; rfl) (by decide) (case_19 C0 F hfl h hi hRc kk)
  | 20, hj => exact l_tableIn C0 824 dL_law_40 (by rw [hj]; decide) (by rw [hj]; decide) (by rw [hj]; rfl) (by decide) (case_20 C0 F hfl h hi hRc kk)
  | 21, hj => exact l_tableIn C0 885 dL_law_40 (by rw [hj]; decide) (by rw [hj]; decide) (by rw [hj]; rfl) (by decide) (case_21 C0 F hfl h hi hRc kk)
  | 22, hj => exact l_tableIn C0 934 dL_law_40 (by rw [hj]; decide) (by rw [hj]; decide) (by rw [hj]; rfl) (by decide) (case_22 C0 F hfl h hi hRc kk)
  | 23, hj => exact l_tableIn C0 959 dL_law_40 (by rw [hj]; decide) (by rw [hj]; decide) (by rw [hj]; rfl) (by decide) (case_23 C0 F hfl h hi hRc kk)
  | 24, hj => exact l_tableIn C0 1021 dL_law_40 (by rw [hj]; decide) (by rw [hj]; decide) (by rw [hj]; rfl) (by decide) (case_24 C0 F hfl h hi hRc kk)
  | 25, hj => exact l_tableIn C0 1047 dL_law_40 (by rw [hj]; decide) (by rw [hj]; decide) (by rw [hj]; rfl) (by decide) (case_25 C0 F hfl h hi hRc kk)
  | 26, hj => exact l_tableIn C0 1060 dL_law_40 (by rw [hj]; decide) (by rw [hj]; decide) (by rw [hj]; rfl) (by decide) (case_26 C0 F hfl h hi hRc kk)
  | 27, hj => exact l_tableIn C0 1085 dL_law_40 (by rw [hj]; decide) (by rw [hj]; decide) (by rw [hj]; rfl) (by decide) (case_27 C0 F hfl h hi hRc kk)
  | 28, hj => exact l_tableIn C0 1110 dL_law_40 (by rw [hj]; decide) (by rw [hj]; decide) (by rw [hj]; rfl) (by decide) (case_28 C0 F hfl h hi hRc kk)
  | 29, hj => exact l_tableIn C0 1135 dL_law_40 (by rw [hj]; decide) (by rw [hj]; decide) (by rw [hj]; rfl) (by decide) (case_29 C0 F hfl h hi hRc kk)
  | 30, hj => exact l_tableIn C0 1184 dL_law_40 (by rw [hj]; decide) (by rw [hj]; decide) (by rw [hj]; rfl) (by decide) (case_30 C0 F hfl h hi hRc kk)
  | 31, hj => exact l_tableIn C0 1197 dL_law_40 (by rw [hj]; decide) (by rw [hj]; decide) (by rw [hj]; rfl) (by decide) (case_31 C0 F hfl h hi hRc kk)
  | 32, hj => exact l_tableIn C0 1210 dL_law_40 (by rw [hj]; decide) (by rw [hj]; decide) (by rw [hj]; rfl) (by decide) (case_32 C0 F hfl h hi hRc kk)
  | 33, hj => exact l_tableIn C0 1235 dL_law_40 (by rw [hj]; decide) (by rw [hj]; decide) (by rw [hj]; rfl) (by decide) (case_33 C0 F hfl h hi hRc kk)
  | 34, hj => exact l_tableIn C0 1296 dL_law_40 (by rw [hj]; decide) (by rw [hj]; decide) (by rw [hj]; rfl) (by decide) (case_34 C0 F hfl h hi hRc kk)
  | 35, hj => exact l_tableIn C0 1345 dL_law_40 (by rw [hj]; decide) (by rw [hj]; decide) (by rw [hj]; rfl) (by decide) (case_35 C0 F hfl h hi hRc kk)
  | 36, hj => exact l_tableIn C0 1394 dL_law_40 (by rw [hj]; decide) (by rw [hj]; decide) (by rw [hj]; rfl) (by decide) (case_36 C0 F hfl h hi hRc kk)
  | 37, hj => exact l_tableIn C0 1461 dL_law_40 (by rw [hj]; decide) (by rw [hj]; decide) (by rw [hj]; rfl) (by decide) (case_37 C0 F hfl h hi hRc kk)
  | 38, hj => exact l_tableIn C0 1534 dL_law_40 (by rw [hj]; decide) (by rw [hj]; decide) (by rw [hj]; rfl) (by decide) (case_38 C0 F hfl h hi hRc kk)
  | 39, hj => exact l_tableIn C0 1559 dL_law_40 (by rw [hj]; decide) (by rw [hj]; decide) (by rw [hj]; rfl) (by decide) (case_39 C0 F hfl h hi hRc kk)
  | j + 40, hj => exact l_tableOut C0 1584 dL_law_40 (Or.inr (by rw [hj]; omega)) (by decide) (q_wide ⟨Nat.le_succ _, Nat.le_add_right _ 6⟩ (kk _ _ _ h))
theorem rounds (C0 : jb p s m args c cL_law 8 RL) (F : FX s A z y b L xs o cL N0) (hfl : l.stackTraces = false) (hL : L ≤ 3072) (hend : ∀ (kc ks : Nat) (cg mg : Mem) (f : Nat → Int64) (i : Int32), kc ≤ 601024 ∧ ks ≤ 7293034 → jl p l e room_1 s m args below meth c A kc ks 8 Q (PLw z y o cL N0 cg mg f) 1590 [(4, .int i), (3, .ref o), (2, .ref (yad y 0)), (1, .ref (zad z 46)), (0, .ref b)] []) :
    ∀ n t : Nat, n + t = 513 → ∀ (cg mg : Mem) (f : Nat → Int64), RI cg mg → jl p l e room_1 s m args below meth c A (67 + t) (3556 + 6 * t) 8 Q (PLw z y o cL N0 cg mg f) 23 [(4, .int (nI (6 * t))), (3, .ref o), (2, .ref (yad y 0)), (1, .ref (zad z 46)), (0, .ref b)] [] := by
  intro n
  induction n with
  | zero =>
    intro t ht cg mg f h
    refine l_iload C0 0 dL_law_23 rfl ?_
    refine l_aload_n C0 4 dL_law_25 rfl rfl ?_
    refine q_len C0 F dL_law_26 ?_
    refine l_bipush C0 (v := 6) dL_law_27 (by decide) ?_
    refine l_isub C0 dL_law_29 ?_
    exact l_icmp_gt C0 1590 dL_law_30 (by decide) (fun _ => hend _ _ _ _ _ _ (by omega)) (fun q => absurd (le6 hL (by omega) q) (by omega))
  | succ n ih =>
    intro t ht cg mg f h
    refine l_iload C0 0 dL_law_23 rfl ?_
    refine l_aload_n C0 4 dL_law_25 rfl rfl ?_
    refine q_len C0 F dL_law_26 ?_
    refine l_bipush C0 (v := 6) dL_law_27 (by decide) ?_
    refine l_isub C0 dL_law_29 ?_
    refine l_icmp_gt C0 1590 dL_law_30 (by decide) (fun _ => hend _ _ _ _ _ _ (by omega)) (fun q => ?_)
    have h6 := le6 hL (by omega) q
    obtain ⟨hi0, hi⟩ := HI_of hL h6
    refine turn C0 F hfl h hi0 hi ⟨by show 67 + t + 1 ≤ 601024; omega, by show 3556 + 6 * t + 6 ≤ 7293034; omega⟩ (fun cg mg f h => ?_)
    have K := ih (t + 1) (by omega) cg mg f h
    rw [show 67 + (t + 1) = 67 + t + 1 from by omega, show 3556 + 6 * (t + 1) = 3556 + 6 * t + 6 from by omega] at K
    refine l_iinc C0 (lv' := [(4, _), (3, _), (2, _), (1, _), (0, _)]) (v := nI (6 * (t + 1))) 0 dL_law_1584 rfl (nI_add (6 * t) 6) (by decide) rfl ?_
    exact l_goto C0 23 dL_law_1587 (by decide) K
end LAWC
