def f_X1_biteWith (w p0 : Int32) : Int32 := if w = (2 : Int32) then (((kBite.getD (ix w) 0) + (p0 / (2 : Int32)))) else ((kBite.getD (ix w) 0))
theorem yk_X1_biteWith : yokV yX1_biteWith RX1 cX1_biteWith 2 (some .int) 1 := ⟨w_259, w_257, w_258, w_5, by decide +kernel⟩
set_option maxHeartbeats 4000000 in
set_option maxRecDepth 100000 in
theorem c_X1_biteWith (l : Launch) (z : ZC) (g : Mem) (w p0 : Int32) (hw : vp_in w 8) : ctC l yX1_biteWith cX1_biteWith 2 (some .int) 0 0 z g [.ref (zaE z (ix w)), .int p0] (qIC z (f_X1_biteWith w p0, g)) := by
  refine ct_of (own := RX1) (q := fun r => qIC z (r, g)) (res := f_X1_biteWith w p0) (lv := [(0, .ref (zaE z (ix w))), (1, .int p0)]) (enokC z) rfl (by decide) (Nat.le_of_ble_eq_true rfl) rfl (fun p e s m args below meth c C0 hrt hlk => ?_)
  unfold f_X1_biteWith
  refine j_aload_n C0 0 dX1_biteWith_0 rfl rfl ?_
  refine k_DEACON C0 w_260 dX1_biteWith_1 ?_
  refine k_acmp_ne C0 hw (vin_lit2) 18 dX1_biteWith_4 (by decide) (fun c_4 => ?_) (fun c_4 => ?_)
  · refine j_aload_n C0 0 dX1_biteWith_7 rfl rfl ?_
    refine k_bite C0 hw w_1164 dX1_biteWith_8 ?_
    refine j_iload_n C0 1 dX1_biteWith_11 rfl rfl ?_
    refine j_iconst C0 (v := 2) dX1_biteWith_12 (by decide) ?_
    refine j_idiv C0 dX1_biteWith_13 (by decide) ?_
    refine j_iadd C0 dX1_biteWith_14 ?_
    refine j_goto C0 22 dX1_biteWith_15 (by decide) ?_
    exact j_iretP C0 hrt hlk dX1_biteWith_22
  · refine j_aload_n C0 0 dX1_biteWith_18 rfl rfl ?_
    refine k_bite C0 hw w_1164 dX1_biteWith_19 ?_
    exact j_iretP C0 hrt hlk dX1_biteWith_22
def f_X1_gazeWith (w p0 : Int32) : Int32 := if w = (3 : Int32) then (((kGaze.getD (ix w) 0) + (p0 / (3 : Int32)))) else (if w = (5 : Int32) then (((kGaze.getD (ix w) 0) + ((2 : Int32) * (p0 / (3 : Int32))))) else ((kGaze.getD (ix w) 0)))
theorem yk_X1_gazeWith : yokV yX1_gazeWith RX1 cX1_gazeWith 2 (some .int) 1 := ⟨w_265, w_263, w_264, w_5, by decide +kernel⟩
set_option maxHeartbeats 4000000 in
set_option maxRecDepth 100000 in
theorem c_X1_gazeWith (l : Launch) (z : ZC) (g : Mem) (w p0 : Int32) (hw : vp_in w 8) : ctC l yX1_gazeWith cX1_gazeWith 2 (some .int) 0 0 z g [.ref (zaE z (ix w)), .int p0] (qIC z (f_X1_gazeWith w p0, g)) := by
  refine ct_of (own := RX1) (q := fun r => qIC z (r, g)) (res := f_X1_gazeWith w p0) (lv := [(0, .ref (zaE z (ix w))), (1, .int p0)]) (enokC z) rfl (by decide) (Nat.le_of_ble_eq_true rfl) rfl (fun p e s m args below meth c C0 hrt hlk => ?_)
  unfold f_X1_gazeWith
  refine j_aload_n C0 0 dX1_gazeWith_0 rfl rfl ?_
  refine k_TASTER C0 w_266 dX1_gazeWith_1 ?_
  refine k_acmp_ne C0 hw (vin_lit3) 16 dX1_gazeWith_4 (by decide) (fun c_4 => ?_) (fun c_4 => ?_)
  · refine j_aload_n C0 0 dX1_gazeWith_7 rfl rfl ?_
    refine k_gaze C0 hw w_1165 dX1_gazeWith_8 ?_
    refine j_iload_n C0 1 dX1_gazeWith_11 rfl rfl ?_
    refine j_iconst C0 (v := 3) dX1_gazeWith_12 (by decide) ?_
    refine j_idiv C0 dX1_gazeWith_13 (by decide) ?_
    refine j_iadd C0 dX1_gazeWith_14 ?_
    exact j_iretP C0 hrt hlk dX1_gazeWith_15
  · refine j_aload_n C0 0 dX1_gazeWith_16 rfl rfl ?_
    refine k_EXPERT C0 w_268 dX1_gazeWith_17 ?_
    refine k_acmp_ne C0 hw (vin_lit5) 36 dX1_gazeWith_20 (by decide) (fun c_20 => ?_) (fun c_20 => ?_)
    · refine j_aload_n C0 0 dX1_gazeWith_23 rfl rfl ?_
      refine k_gaze C0 hw w_1165 dX1_gazeWith_24 ?_
      refine j_iconst C0 (v := 2) dX1_gazeWith_27 (by decide) ?_
      refine j_iload_n C0 1 dX1_gazeWith_28 rfl rfl ?_
      refine j_iconst C0 (v := 3) dX1_gazeWith_29 (by decide) ?_
      refine j_idiv C0 dX1_gazeWith_30 (by decide) ?_
      refine j_imul C0 dX1_gazeWith_31 ?_
      refine j_iadd C0 dX1_gazeWith_32 ?_
      refine j_goto C0 40 dX1_gazeWith_33 (by decide) ?_
      exact j_iretP C0 hrt hlk dX1_gazeWith_40
    · refine j_aload_n C0 0 dX1_gazeWith_36 rfl rfl ?_
      refine k_gaze C0 hw w_1165 dX1_gazeWith_37 ?_
      exact j_iretP C0 hrt hlk dX1_gazeWith_40
def f_X1_costWith (w p0 : Int32) : Int32 := if w = (2 : Int32) then (((kPrice.getD (ix w) 0) + p0)) else (if w = (5 : Int32) then (((kPrice.getD (ix w) 0) + p0)) else ((kPrice.getD (ix w) 0)))
theorem yk_X1_costWith : yokV yX1_costWith RX1 cX1_costWith 2 (some .int) 1 := ⟨w_666, w_664, w_665, w_5, by decide +kernel⟩
set_option maxHeartbeats 4000000 in
set_option maxRecDepth 100000 in
theorem c_X1_costWith (l : Launch) (z : ZC) (g : Mem) (w p0 : Int32) (hw : vp_in w 8) : ctC l yX1_costWith cX1_costWith 2 (some .int) 0 0 z g [.ref (zaE z (ix w)), .int p0] (qIC z (f_X1_costWith w p0, g)) := by
  refine ct_of (own := RX1) (q := fun r => qIC z (r, g)) (res := f_X1_costWith w p0) (lv := [(0, .ref (zaE z (ix w))), (1, .int p0)]) (enokC z) rfl (by decide) (Nat.le_of_ble_eq_true rfl) rfl (fun p e s m args below meth c C0 hrt hlk => ?_)
  unfold f_X1_costWith
  refine j_aload_n C0 0 dX1_costWith_0 rfl rfl ?_
  refine k_DEACON C0 w_260 dX1_costWith_1 ?_
  refine k_acmp_eq C0 hw (vin_lit2) 14 dX1_costWith_4 (by decide) (fun c_4 => ?_) (fun c_4 => ?_)
  · refine j_aload_n C0 0 dX1_costWith_14 rfl rfl ?_
    refine k_price C0 hw w_1169 dX1_costWith_15 ?_
    refine j_iload_n C0 1 dX1_costWith_18 rfl rfl ?_
    refine j_iadd C0 dX1_costWith_19 ?_
    refine j_goto C0 27 dX1_costWith_20 (by decide) ?_
    exact j_iretP C0 hrt hlk dX1_costWith_27
  · refine j_aload_n C0 0 dX1_costWith_7 rfl rfl ?_
    refine k_EXPERT C0 w_268 dX1_costWith_8 ?_
    refine k_acmp_ne C0 hw (vin_lit5) 23 dX1_costWith_11 (by decide) (fun c_11 => ?_) (fun c_11 => ?_)
    · refine j_aload_n C0 0 dX1_costWith_14 rfl rfl ?_
      refine k_price C0 hw w_1169 dX1_costWith_15 ?_
      refine j_iload_n C0 1 dX1_costWith_18 rfl rfl ?_
      refine j_iadd C0 dX1_costWith_19 ?_
      refine j_goto C0 27 dX1_costWith_20 (by decide) ?_
      exact j_iretP C0 hrt hlk dX1_costWith_27
    · refine j_aload_n C0 0 dX1_costWith_23 rfl rfl ?_
      refine k_price C0 hw w_1169 dX1_costWith_24 ?_
      exact j_iretP C0 hrt hlk dX1_costWith_27
def f_X3_canLook (g : Mem) (k : Nat) : Int32 := if (g k 6) = 0 then (if (g k 0) = (4 : Int32) then ((0 : Int32)) else ((1 : Int32))) else ((0 : Int32))
theorem b01_X3_canLook (g : Mem) (k : Nat) : f_X3_canLook g k = 0 ∨ f_X3_canLook g k = 1 := by
  unfold f_X3_canLook
  repeat' split
  all_goals first | (with_reducible exact Or.inl rfl) | (with_reducible exact Or.inr rfl) | assumption
theorem yk_X3_canLook : yokV yX3_canLook RX3 cX3_canLook 1 (some .boolean) 0 := ⟨w_293, w_291, w_292, w_3, by decide +kernel⟩
set_option maxHeartbeats 4000000 in
set_option maxRecDepth 100000 in
theorem c_X3_canLook (l : Launch) (z : ZC) (g : Mem) (k : Nat) (hk : k < 24) (hI : In g) : ctC l yX3_canLook cX3_canLook 1 (some .boolean) 0 0 z g [.ref (zad z k)] (qIC z (f_X3_canLook g k, g)) := by
  refine ct_of (own := RX3) (q := fun r => qIC z (r, g)) (res := f_X3_canLook g k) (lv := [(0, .ref (zad z k))]) (enokC z) rfl (by decide) (Nat.le_of_ble_eq_true rfl) rfl (fun p e s m args below meth c C0 hrt hlk => ?_)
  unfold f_X3_canLook
  refine j_aload_n C0 0 dX3_canLook_0 rfl rfl ?_
  refine g_Person_eaten C0 hk w_58 dX3_canLook_1 ?_
  refine j_if_ne C0 21 dX3_canLook_4 (by decide) (fun c_4 => ?_) (fun c_4 => ?_)
  · refine j_aload_n C0 0 dX3_canLook_7 rfl rfl ?_
    refine g_Person_kind C0 hk w_43 dX3_canLook_8 ?_
    refine k_BLIND C0 w_294 dX3_canLook_11 ?_
    refine k_acmp_eq C0 (In_pk hI hk) (vin_lit4) 21 dX3_canLook_14 (by decide) (fun c_14 => ?_) (fun c_14 => ?_)
    · refine j_iconst C0 (v := 0) dX3_canLook_21 (by decide) ?_
      exact j_zretP C0 hrt hlk (Or.inl rfl) dX3_canLook_22
    · refine j_iconst C0 (v := 1) dX3_canLook_17 (by decide) ?_
      refine j_goto C0 22 dX3_canLook_18 (by decide) ?_
      exact j_zretP C0 hrt hlk (Or.inr rfl) dX3_canLook_22
  · refine j_iconst C0 (v := 0) dX3_canLook_21 (by decide) ?_
    exact j_zretP C0 hrt hlk (Or.inl rfl) dX3_canLook_22
def f_X3_stilledHunger (g : Mem) (k : Nat) : Int32 := (if (g k 4) < (g k 2) then (g k 4) else (g k 2))
theorem yk_X3_stilledHunger : yokV yX3_stilledHunger RX3 cX3_stilledHunger 1 (some .int) 0 := ⟨w_311, w_309, w_310, w_3, by decide +kernel⟩
set_option maxHeartbeats 4000000 in
set_option maxRecDepth 100000 in
theorem c_X3_stilledHunger (l : Launch) (z : ZC) (g : Mem) (k : Nat) (hk : k < 24) : ctC l yX3_stilledHunger cX3_stilledHunger 1 (some .int) 1 13 z g [.ref (zad z k)] (qIC z (f_X3_stilledHunger g k, g)) := by
  refine ct_of (own := RX3) (q := fun r => qIC z (r, g)) (res := f_X3_stilledHunger g k) (lv := [(0, .ref (zad z k))]) (enokC z) rfl (by decide) (Nat.le_of_ble_eq_true rfl) rfl (fun p e s m args below meth c C0 hrt hlk => ?_)
  unfold f_X3_stilledHunger
  refine j_aload_n C0 0 dX3_stilledHunger_0 rfl rfl ?_
  refine g_Person_bite C0 hk w_48 dX3_stilledHunger_1 ?_
  refine j_aload_n C0 0 dX3_stilledHunger_4 rfl rfl ?_
  refine g_Person_hunger C0 hk w_52 dX3_stilledHunger_5 ?_
  refine j_mmin C0 w_312 w_313 w_9 w_314 (Nat.le_of_ble_eq_true rfl) (Nat.le_of_ble_eq_true rfl) dX3_stilledHunger_8 ?_
  exact j_iretP C0 hrt hlk dX3_stilledHunger_11
def f_X3_stilledWish (g : Mem) (k : Nat) : Int32 := (if (g k 5) < (g k 3) then (g k 5) else (g k 3))
theorem yk_X3_stilledWish : yokV yX3_stilledWish RX3 cX3_stilledWish 1 (some .int) 0 := ⟨w_325, w_323, w_324, w_3, by decide +kernel⟩
set_option maxHeartbeats 4000000 in
set_option maxRecDepth 100000 in
theorem c_X3_stilledWish (l : Launch) (z : ZC) (g : Mem) (k : Nat) (hk : k < 24) : ctC l yX3_stilledWish cX3_stilledWish 1 (some .int) 1 13 z g [.ref (zad z k)] (qIC z (f_X3_stilledWish g k, g)) := by
  refine ct_of (own := RX3) (q := fun r => qIC z (r, g)) (res := f_X3_stilledWish g k) (lv := [(0, .ref (zad z k))]) (enokC z) rfl (by decide) (Nat.le_of_ble_eq_true rfl) rfl (fun p e s m args below meth c C0 hrt hlk => ?_)
  unfold f_X3_stilledWish
  refine j_aload_n C0 0 dX3_stilledWish_0 rfl rfl ?_
  refine g_Person_gaze C0 hk w_50 dX3_stilledWish_1 ?_
  refine j_aload_n C0 0 dX3_stilledWish_4 rfl rfl ?_
  refine g_Person_wish C0 hk w_55 dX3_stilledWish_5 ?_
  refine j_mmin C0 w_312 w_313 w_9 w_314 (Nat.le_of_ble_eq_true rfl) (Nat.le_of_ble_eq_true rfl) dX3_stilledWish_8 ?_
  exact j_iretP C0 hrt hlk dX3_stilledWish_11
def f_X3_comeAs_m1 (g : Mem) (k : Nat) (w p1 : Int32) : Mem := up g k 0 w
def f_X3_comeAs_m2 (g : Mem) (k : Nat) (w p1 : Int32) : Mem := up (f_X3_comeAs_m1 g k w p1) k 1 p1
def f_X3_comeAs_m3 (g : Mem) (k : Nat) (w p1 : Int32) : Mem := up (f_X3_comeAs_m2 g k w p1) k 2 (f_X1_biteWith w p1)
def f_X3_comeAs_m4 (g : Mem) (k : Nat) (w p1 : Int32) : Mem := up (f_X3_comeAs_m3 g k w p1) k 3 (f_X1_gazeWith w p1)
def f_X3_comeAs_m5 (g : Mem) (k : Nat) (w p1 : Int32) : Mem := up (f_X3_comeAs_m4 g k w p1) k 6 (0 : Int32)
def f_X3_comeAs_m6 (g : Mem) (k : Nat) (w p1 : Int32) : Mem := up (f_X3_comeAs_m5 g k w p1) k 7 (0 : Int32)
def f_X3_comeAs (g : Mem) (k : Nat) (w p1 : Int32) : Mem := (f_X3_comeAs_m6 g k w p1)
theorem yk_X3_comeAs : yokV yX3_comeAs RX3 cX3_comeAs 3 none 2 := ⟨w_255, w_253, w_254, w_3, by decide +kernel⟩
set_option maxHeartbeats 4000000 in
set_option maxRecDepth 100000 in
theorem c_X3_comeAs (l : Launch) (z : ZC) (g : Mem) (k : Nat) (hk : k < 24) (w p1 : Int32) (hw : vp_in w 8) (hI : In g) : ctC l yX3_comeAs cX3_comeAs 3 none 1 21 z g [.ref (zad z k), .ref (zaE z (ix w)), .int p1] (qVC z (f_X3_comeAs g k w p1)) := by
  refine ct_of (own := RX3) (q := fun r => qVC z r) (res := f_X3_comeAs g k w p1) (lv := [(0, .ref (zad z k)), (1, .ref (zaE z (ix w))), (2, .int p1)]) (enokC z) rfl (by decide) (Nat.le_of_ble_eq_true rfl) rfl (fun p e s m args below meth c C0 hrt hlk => ?_)
  unfold f_X3_comeAs
  refine j_aload_n C0 0 dX3_comeAs_0 rfl rfl ?_
  refine j_aload_n C0 1 dX3_comeAs_1 rfl rfl ?_
  refine p_Person_kind C0 hk w_43 dX3_comeAs_2 ?_
  refine j_aload_n C0 0 dX3_comeAs_5 rfl rfl ?_
  refine j_iload_n C0 2 dX3_comeAs_6 rfl rfl ?_
  refine p_Person_figure C0 hk w_46 dX3_comeAs_7 ?_
  refine j_aload_n C0 0 dX3_comeAs_10 rfl rfl ?_
  refine j_aload_n C0 1 dX3_comeAs_11 rfl rfl ?_
  refine j_iload_n C0 2 dX3_comeAs_12 rfl rfl ?_
  refine j_callVi C0 (c_X1_biteWith l z _ w _ hw) yk_X1_biteWith w_256 (fun H locs _ hS => recvE C0 hw hS) ⟨Nat.le_of_ble_eq_true rfl, Nat.le_of_ble_eq_true rfl⟩ rfl rfl (Nat.le_of_ble_eq_true rfl) dX3_comeAs_13 ?_
  refine p_Person_bite C0 hk w_48 dX3_comeAs_16 ?_
  refine j_aload_n C0 0 dX3_comeAs_19 rfl rfl ?_
  refine j_aload_n C0 1 dX3_comeAs_20 rfl rfl ?_
  refine j_iload_n C0 2 dX3_comeAs_21 rfl rfl ?_
  refine j_callVi C0 (c_X1_gazeWith l z _ w _ hw) yk_X1_gazeWith w_262 (fun H locs _ hS => recvE C0 hw hS) ⟨Nat.le_of_ble_eq_true rfl, Nat.le_of_ble_eq_true rfl⟩ rfl rfl (Nat.le_of_ble_eq_true rfl) dX3_comeAs_22 ?_
  refine p_Person_gaze C0 hk w_50 dX3_comeAs_25 ?_
  refine j_aload_n C0 0 dX3_comeAs_28 rfl rfl ?_
  refine j_iconst C0 (v := 0) dX3_comeAs_29 (by decide) ?_
  refine p_Person_eaten C0 hk w_58 dX3_comeAs_30 ?_
  refine j_aload_n C0 0 dX3_comeAs_33 rfl rfl ?_
  refine j_iconst C0 (v := 0) dX3_comeAs_34 (by decide) ?_
  refine p_Person_watched C0 hk w_61 dX3_comeAs_35 ?_
  exact j_vret C0 hrt hlk dX3_comeAs_38
theorem In_comeAs {g : Mem} (hI : In g) {k : Nat} (hk : k < 24) {w p1 : Int32} (hw : vp_in w 8) : In (f_X3_comeAs g k w p1) :=
  In_upP (In_upP (In_upP (In_upP (In_upP (In_upPk hI hk hw) hk (by decide)) hk (by decide)) hk (by decide)) hk (by decide)) hk (by decide)

def f_X3_becomes_m1 (g : Mem) (k k2 : Nat) : Mem := up g k 0 (g k2 0)
def f_X3_becomes_m2 (g : Mem) (k k2 : Nat) : Mem := up (f_X3_becomes_m1 g k k2) k 1 ((f_X3_becomes_m1 g k k2) k2 1)
def f_X3_becomes_m3 (g : Mem) (k k2 : Nat) : Mem := up (f_X3_becomes_m2 g k k2) k 2 ((f_X3_becomes_m2 g k k2) k2 2)
def f_X3_becomes_m4 (g : Mem) (k k2 : Nat) : Mem := up (f_X3_becomes_m3 g k k2) k 3 ((f_X3_becomes_m3 g k k2) k2 3)
def f_X3_becomes_m5 (g : Mem) (k k2 : Nat) : Mem := up (f_X3_becomes_m4 g k k2) k 4 ((f_X3_becomes_m4 g k k2) k2 4)
def f_X3_becomes_m6 (g : Mem) (k k2 : Nat) : Mem := up (f_X3_becomes_m5 g k k2) k 5 ((f_X3_becomes_m5 g k k2) k2 5)
def f_X3_becomes_m7 (g : Mem) (k k2 : Nat) : Mem := up (f_X3_becomes_m6 g k k2) k 6 ((f_X3_becomes_m6 g k k2) k2 6)
def f_X3_becomes_m8 (g : Mem) (k k2 : Nat) : Mem := up (f_X3_becomes_m7 g k k2) k 7 ((f_X3_becomes_m7 g k k2) k2 7)
def f_X3_becomes (g : Mem) (k k2 : Nat) : Mem := (f_X3_becomes_m8 g k k2)
theorem yk_X3_becomes : yokV yX3_becomes RX3 cX3_becomes 2 none 1 := ⟨w_218, w_216, w_217, w_3, by decide +kernel⟩
set_option maxHeartbeats 4000000 in
set_option maxRecDepth 100000 in
theorem c_X3_becomes (l : Launch) (z : ZC) (g : Mem) (k : Nat) (hk : k < 24) (k2 : Nat) (hk2 : k2 < 24) (hI : In g) : ctC l yX3_becomes cX3_becomes 2 none 0 0 z g [.ref (zad z k), .ref (zad z k2)] (qVC z (f_X3_becomes g k k2)) := by
  refine ct_of (own := RX3) (q := fun r => qVC z r) (res := f_X3_becomes g k k2) (lv := [(0, .ref (zad z k)), (1, .ref (zad z k2))]) (enokC z) rfl (by decide) (Nat.le_of_ble_eq_true rfl) rfl (fun p e s m args below meth c C0 hrt hlk => ?_)
  unfold f_X3_becomes
  refine j_aload_n C0 0 dX3_becomes_0 rfl rfl ?_
  refine j_aload_n C0 1 dX3_becomes_1 rfl rfl ?_
  refine g_Person_kind C0 hk2 w_43 dX3_becomes_2 ?_
  refine p_Person_kind C0 hk w_43 dX3_becomes_5 ?_
  refine j_aload_n C0 0 dX3_becomes_8 rfl rfl ?_
  refine j_aload_n C0 1 dX3_becomes_9 rfl rfl ?_
  refine g_Person_figure C0 hk2 w_46 dX3_becomes_10 ?_
  refine p_Person_figure C0 hk w_46 dX3_becomes_13 ?_
  refine j_aload_n C0 0 dX3_becomes_16 rfl rfl ?_
  refine j_aload_n C0 1 dX3_becomes_17 rfl rfl ?_
  refine g_Person_bite C0 hk2 w_48 dX3_becomes_18 ?_
  refine p_Person_bite C0 hk w_48 dX3_becomes_21 ?_
  refine j_aload_n C0 0 dX3_becomes_24 rfl rfl ?_
  refine j_aload_n C0 1 dX3_becomes_25 rfl rfl ?_
  refine g_Person_gaze C0 hk2 w_50 dX3_becomes_26 ?_
  refine p_Person_gaze C0 hk w_50 dX3_becomes_29 ?_
  refine j_aload_n C0 0 dX3_becomes_32 rfl rfl ?_
  refine j_aload_n C0 1 dX3_becomes_33 rfl rfl ?_
  refine g_Person_hunger C0 hk2 w_52 dX3_becomes_34 ?_
  refine p_Person_hunger C0 hk w_52 dX3_becomes_37 ?_
  refine j_aload_n C0 0 dX3_becomes_40 rfl rfl ?_
  refine j_aload_n C0 1 dX3_becomes_41 rfl rfl ?_
  refine g_Person_wish C0 hk2 w_55 dX3_becomes_42 ?_
  refine p_Person_wish C0 hk w_55 dX3_becomes_45 ?_
  refine j_aload_n C0 0 dX3_becomes_48 rfl rfl ?_
  refine j_aload_n C0 1 dX3_becomes_49 rfl rfl ?_
  refine g_Person_eaten C0 hk2 w_58 dX3_becomes_50 ?_
  refine p_Person_eaten C0 hk w_58 dX3_becomes_53 ?_
  refine j_aload_n C0 0 dX3_becomes_56 rfl rfl ?_
  refine j_aload_n C0 1 dX3_becomes_57 rfl rfl ?_
  refine g_Person_watched C0 hk2 w_61 dX3_becomes_58 ?_
  refine p_Person_watched C0 hk w_61 dX3_becomes_61 ?_
  exact j_vret C0 hrt hlk dX3_becomes_64
theorem In_becomesP {g : Mem} (hI : In g) {k k2 : Nat} (hk : k < 24) (hk2 : k2 < 24) : In (f_X3_becomes g k k2) :=
  In_upP (In_upP (In_upP (In_upP (In_upP (In_upP (In_upP (In_upPk hI hk (In_pk hI hk2)) hk (by decide)) hk (by decide)) hk (by decide)) hk (by decide)) hk (by decide)) hk (by decide)) hk (by decide)

def f_X4_hasPlace (g : Mem) (d : Nat) (p0 : Int32) : Int32 := if p0 < 0 then ((0 : Int32)) else (if (g (24 + d) 5) ≤ p0 then ((0 : Int32)) else ((1 : Int32)))
theorem b01_X4_hasPlace (g : Mem) (d : Nat) (p0 : Int32) : f_X4_hasPlace g d p0 = 0 ∨ f_X4_hasPlace g d p0 = 1 := by
  unfold f_X4_hasPlace
  repeat' split
  all_goals first | (with_reducible exact Or.inl rfl) | (with_reducible exact Or.inr rfl) | assumption
theorem yk_X4_hasPlace : yokV yX4_hasPlace RX4 cX4_hasPlace 2 (some .boolean) 1 := ⟨w_203, w_201, w_202, w_7, by decide +kernel⟩
set_option maxHeartbeats 4000000 in
set_option maxRecDepth 100000 in
theorem c_X4_hasPlace (l : Launch) (z : ZC) (g : Mem) (d : Nat) (hd : d < 8) (p0 : Int32) : ctC l yX4_hasPlace cX4_hasPlace 2 (some .boolean) 0 0 z g [.ref (zad z (24 + d)), .int p0] (qIC z (f_X4_hasPlace g d p0, g)) := by
  refine ct_of (own := RX4) (q := fun r => qIC z (r, g)) (res := f_X4_hasPlace g d p0) (lv := [(0, .ref (zad z (24 + d))), (1, .int p0)]) (enokC z) rfl (by decide) (Nat.le_of_ble_eq_true rfl) rfl (fun p e s m args below meth c C0 hrt hlk => ?_)
  unfold f_X4_hasPlace
  refine j_iload_n C0 1 dX4_hasPlace_0 rfl rfl ?_
  refine j_if_lt C0 16 dX4_hasPlace_1 (by decide) (fun c_1 => ?_) (fun c_1 => ?_)
  · refine j_iconst C0 (v := 0) dX4_hasPlace_16 (by decide) ?_
    exact j_zretP C0 hrt hlk (Or.inl rfl) dX4_hasPlace_17
  · refine j_iload_n C0 1 dX4_hasPlace_4 rfl rfl ?_
    refine j_aload_n C0 0 dX4_hasPlace_5 rfl rfl ?_
    refine g_Shelf_length C0 hd w_141 dX4_hasPlace_6 ?_
    refine j_icmp_ge C0 16 dX4_hasPlace_9 (by decide) (fun c_9 => ?_) (fun c_9 => ?_)
    · refine j_iconst C0 (v := 0) dX4_hasPlace_16 (by decide) ?_
      exact j_zretP C0 hrt hlk (Or.inl rfl) dX4_hasPlace_17
    · refine j_iconst C0 (v := 1) dX4_hasPlace_12 (by decide) ?_
      refine j_goto C0 17 dX4_hasPlace_13 (by decide) ?_
      exact j_zretP C0 hrt hlk (Or.inr rfl) dX4_hasPlace_17
theorem hasPlace_in {g : Mem} (hI : In g) {d : Nat} (hd : d < 8) {p0 : Int32} (c : ¬ f_X4_hasPlace g d p0 = 0) : vp_in p0 100 := by
  unfold f_X4_hasPlace at c
  split at c
  · exact absurd rfl c
  · split at c
    · exact absurd rfl c
    · exact vin_ch (by assumption) (by assumption) (In_len hI hd)

def f_X4_hasPlaces (g : Mem) (d : Nat) (p0 p1 : Int32) : Int32 := if p0 < 0 then ((0 : Int32)) else (if p1 < 0 then ((0 : Int32)) else (if (g (24 + d) 5) < p0 then ((0 : Int32)) else (if ((g (24 + d) 5) - p0) < p1 then ((0 : Int32)) else ((1 : Int32)))))
theorem b01_X4_hasPlaces (g : Mem) (d : Nat) (p0 p1 : Int32) : f_X4_hasPlaces g d p0 p1 = 0 ∨ f_X4_hasPlaces g d p0 p1 = 1 := by
  unfold f_X4_hasPlaces
  repeat' split
  all_goals first | (with_reducible exact Or.inl rfl) | (with_reducible exact Or.inr rfl) | assumption
theorem yk_X4_hasPlaces : yokV yX4_hasPlaces RX4 cX4_hasPlaces 3 (some .boolean) 2 := ⟨w_655, w_653, w_654, w_7, by decide +kernel⟩
set_option maxHeartbeats 4000000 in
set_option maxRecDepth 100000 in
theorem c_X4_hasPlaces (l : Launch) (z : ZC) (g : Mem) (d : Nat) (hd : d < 8) (p0 p1 : Int32) : ctC l yX4_hasPlaces cX4_hasPlaces 3 (some .boolean) 0 0 z g [.ref (zad z (24 + d)), .int p0, .int p1] (qIC z (f_X4_hasPlaces g d p0 p1, g)) := by
  refine ct_of (own := RX4) (q := fun r => qIC z (r, g)) (res := f_X4_hasPlaces g d p0 p1) (lv := [(0, .ref (zad z (24 + d))), (1, .int p0), (2, .int p1)]) (enokC z) rfl (by decide) (Nat.le_of_ble_eq_true rfl) rfl (fun p e s m args below meth c C0 hrt hlk => ?_)
  unfold f_X4_hasPlaces
  refine j_iload_n C0 1 dX4_hasPlaces_0 rfl rfl ?_
  refine j_if_lt C0 30 dX4_hasPlaces_1 (by decide) (fun c_1 => ?_) (fun c_1 => ?_)
  · refine j_iconst C0 (v := 0) dX4_hasPlaces_30 (by decide) ?_
    exact j_zretP C0 hrt hlk (Or.inl rfl) dX4_hasPlaces_31
  · refine j_iload_n C0 2 dX4_hasPlaces_4 rfl rfl ?_
    refine j_if_lt C0 30 dX4_hasPlaces_5 (by decide) (fun c_5 => ?_) (fun c_5 => ?_)
    · refine j_iconst C0 (v := 0) dX4_hasPlaces_30 (by decide) ?_
      exact j_zretP C0 hrt hlk (Or.inl rfl) dX4_hasPlaces_31
    · refine j_iload_n C0 1 dX4_hasPlaces_8 rfl rfl ?_
      refine j_aload_n C0 0 dX4_hasPlaces_9 rfl rfl ?_
      refine g_Shelf_length C0 hd w_141 dX4_hasPlaces_10 ?_
      refine j_icmp_gt C0 30 dX4_hasPlaces_13 (by decide) (fun c_13 => ?_) (fun c_13 => ?_)
      · refine j_iconst C0 (v := 0) dX4_hasPlaces_30 (by decide) ?_
        exact j_zretP C0 hrt hlk (Or.inl rfl) dX4_hasPlaces_31
      · refine j_iload_n C0 2 dX4_hasPlaces_16 rfl rfl ?_
        refine j_aload_n C0 0 dX4_hasPlaces_17 rfl rfl ?_
        refine g_Shelf_length C0 hd w_141 dX4_hasPlaces_18 ?_
        refine j_iload_n C0 1 dX4_hasPlaces_21 rfl rfl ?_
        refine j_isub C0 dX4_hasPlaces_22 ?_
        refine j_icmp_gt C0 30 dX4_hasPlaces_23 (by decide) (fun c_23 => ?_) (fun c_23 => ?_)
        · refine j_iconst C0 (v := 0) dX4_hasPlaces_30 (by decide) ?_
          exact j_zretP C0 hrt hlk (Or.inl rfl) dX4_hasPlaces_31
        · refine j_iconst C0 (v := 1) dX4_hasPlaces_26 (by decide) ?_
          refine j_goto C0 31 dX4_hasPlaces_27 (by decide) ?_
          exact j_zretP C0 hrt hlk (Or.inr rfl) dX4_hasPlaces_31
def f_X4_at (g : Mem) (d : Nat) (p0 : Int32) : Int32 := if (f_X4_hasPlace g d p0) = 0 then ((-1 : Int32)) else ((g (32 + d) (ix p0)))
theorem yk_X4_at : yokV yX4_at RX4 cX4_at 2 (some .int) 1 := ⟨w_199, w_197, w_198, w_7, by decide +kernel⟩
set_option maxHeartbeats 4000000 in
set_option maxRecDepth 100000 in
theorem c_X4_at (l : Launch) (z : ZC) (g : Mem) (d : Nat) (hd : d < 8) (p0 : Int32) (hI : In g) : ctC l yX4_at cX4_at 2 (some .int) 1 21 z g [.ref (zad z (24 + d)), .int p0] (qIC z (f_X4_at g d p0, g)) := by
  refine ct_of (own := RX4) (q := fun r => qIC z (r, g)) (res := f_X4_at g d p0) (lv := [(0, .ref (zad z (24 + d))), (1, .int p0)]) (enokC z) rfl (by decide) (Nat.le_of_ble_eq_true rfl) rfl (fun p e s m args below meth c C0 hrt hlk => ?_)
  unfold f_X4_at
  refine j_aload_n C0 0 dX4_at_0 rfl rfl ?_
  refine j_iload_n C0 1 dX4_at_1 rfl rfl ?_
  refine j_callVi C0 (c_X4_hasPlace l z _ d hd _) yk_X4_hasPlace w_200 (fun H locs hP _ => recvW C0 hP _ (by have := hd; omega) (cel_shelf hd) rfl) ⟨Nat.le_of_ble_eq_true rfl, Nat.le_of_ble_eq_true rfl⟩ rfl rfl (Nat.le_of_ble_eq_true rfl) dX4_at_2 ?_
  refine j_if_eq C0 17 dX4_at_5 (by decide) (fun c_5 => ?_) (fun c_5 => ?_)
  · refine j_iconst C0 (v := (-1)) dX4_at_17 (by decide) ?_
    exact j_iretP C0 hrt hlk dX4_at_18
  · have hv := vin_mono (hasPlace_in hI hd c_5) (by decide : 100 ≤ 100)
    refine j_aload_n C0 0 dX4_at_8 rfl rfl ?_
    refine g_Shelf_cells C0 hd w_131 dX4_at_9 ?_
    refine j_iload_n C0 1 dX4_at_12 rfl rfl ?_
    refine a_cells C0 hd hv dX4_at_13 ?_
    refine j_goto C0 18 dX4_at_14 (by decide) ?_
    exact j_iretP C0 hrt hlk dX4_at_18
def f_X4_digitAt (g : Mem) (d : Nat) (p0 : Int32) : Int32 := ((f_X4_at g d p0) - (48 : Int32))
theorem yk_X4_digitAt : yokV yX4_digitAt RX4 cX4_digitAt 2 (some .int) 1 := ⟨w_226, w_224, w_225, w_7, by decide +kernel⟩
set_option maxHeartbeats 4000000 in
set_option maxRecDepth 100000 in
theorem c_X4_digitAt (l : Launch) (z : ZC) (g : Mem) (d : Nat) (hd : d < 8) (p0 : Int32) (hI : In g) : ctC l yX4_digitAt cX4_digitAt 2 (some .int) 2 42 z g [.ref (zad z (24 + d)), .int p0] (qIC z (f_X4_digitAt g d p0, g)) := by
  refine ct_of (own := RX4) (q := fun r => qIC z (r, g)) (res := f_X4_digitAt g d p0) (lv := [(0, .ref (zad z (24 + d))), (1, .int p0)]) (enokC z) rfl (by decide) (Nat.le_of_ble_eq_true rfl) rfl (fun p e s m args below meth c C0 hrt hlk => ?_)
  unfold f_X4_digitAt
  refine j_aload_n C0 0 dX4_digitAt_0 rfl rfl ?_
  refine j_iload_n C0 1 dX4_digitAt_1 rfl rfl ?_
  refine j_callVi C0 (c_X4_at l z _ d hd _ hI) yk_X4_at w_227 (fun H locs hP _ => recvW C0 hP _ (by have := hd; omega) (cel_shelf hd) rfl) ⟨Nat.le_of_ble_eq_true rfl, Nat.le_of_ble_eq_true rfl⟩ rfl rfl (Nat.le_of_ble_eq_true rfl) dX4_digitAt_2 ?_
  refine j_bipush C0 (v := 48) dX4_digitAt_5 (by decide) ?_
  refine j_isub C0 dX4_digitAt_7 ?_
  exact j_iretP C0 hrt hlk dX4_digitAt_8
def f_X4_twoDigitsAt (g : Mem) (d : Nat) (p0 : Int32) : Int32 := (((10 : Int32) * (f_X4_digitAt g d p0)) + (f_X4_digitAt g d (p0 + (1 : Int32))))
theorem yk_X4_twoDigitsAt : yokV yX4_twoDigitsAt RX4 cX4_twoDigitsAt 2 (some .int) 1 := ⟨w_231, w_229, w_230, w_7, by decide +kernel⟩
set_option maxHeartbeats 4000000 in
set_option maxRecDepth 100000 in
theorem c_X4_twoDigitsAt (l : Launch) (z : ZC) (g : Mem) (d : Nat) (hd : d < 8) (p0 : Int32) (hI : In g) : ctC l yX4_twoDigitsAt cX4_twoDigitsAt 2 (some .int) 3 63 z g [.ref (zad z (24 + d)), .int p0] (qIC z (f_X4_twoDigitsAt g d p0, g)) := by
  refine ct_of (own := RX4) (q := fun r => qIC z (r, g)) (res := f_X4_twoDigitsAt g d p0) (lv := [(0, .ref (zad z (24 + d))), (1, .int p0)]) (enokC z) rfl (by decide) (Nat.le_of_ble_eq_true rfl) rfl (fun p e s m args below meth c C0 hrt hlk => ?_)
  unfold f_X4_twoDigitsAt
  refine j_bipush C0 (v := 10) dX4_twoDigitsAt_0 (by decide) ?_
  refine j_aload_n C0 0 dX4_twoDigitsAt_2 rfl rfl ?_
  refine j_iload_n C0 1 dX4_twoDigitsAt_3 rfl rfl ?_
  refine j_callVi C0 (c_X4_digitAt l z _ d hd _ hI) yk_X4_digitAt w_232 (fun H locs hP _ => recvW C0 hP _ (by have := hd; omega) (cel_shelf hd) rfl) ⟨Nat.le_of_ble_eq_true rfl, Nat.le_of_ble_eq_true rfl⟩ rfl rfl (Nat.le_of_ble_eq_true rfl) dX4_twoDigitsAt_4 ?_
  refine j_imul C0 dX4_twoDigitsAt_7 ?_
  refine j_aload_n C0 0 dX4_twoDigitsAt_8 rfl rfl ?_
  refine j_iload_n C0 1 dX4_twoDigitsAt_9 rfl rfl ?_
  refine j_iconst C0 (v := 1) dX4_twoDigitsAt_10 (by decide) ?_
  refine j_iadd C0 dX4_twoDigitsAt_11 ?_
  refine j_callVi C0 (c_X4_digitAt l z _ d hd _ hI) yk_X4_digitAt w_232 (fun H locs hP _ => recvW C0 hP _ (by have := hd; omega) (cel_shelf hd) rfl) ⟨Nat.le_of_ble_eq_true rfl, Nat.le_of_ble_eq_true rfl⟩ rfl rfl (Nat.le_of_ble_eq_true rfl) dX4_twoDigitsAt_12 ?_
  refine j_iadd C0 dX4_twoDigitsAt_15 ?_
  exact j_iretP C0 hrt hlk dX4_twoDigitsAt_16
def f_X4_lowestBits (g : Mem) (d : Nat) (p0 : Int32) : Int32 := if (g (24 + d) 4) = 0 then ((Int8.toInt32 (Int32.toInt8 p0))) else (if (g (24 + d) 4) = (1 : Int32) then ((Int16.toInt32 (Int32.toInt16 p0))) else (p0))
theorem yk_X4_lowestBits : yokV yX4_lowestBits RX4 cX4_lowestBits 2 (some .int) 1 := ⟨w_647, w_645, w_646, w_7, by decide +kernel⟩
set_option maxHeartbeats 4000000 in
set_option maxRecDepth 100000 in
theorem c_X4_lowestBits (l : Launch) (z : ZC) (g : Mem) (d : Nat) (hd : d < 8) (p0 : Int32) : ctC l yX4_lowestBits cX4_lowestBits 2 (some .int) 0 0 z g [.ref (zad z (24 + d)), .int p0] (qIC z (f_X4_lowestBits g d p0, g)) := by
  refine ct_of (own := RX4) (q := fun r => qIC z (r, g)) (res := f_X4_lowestBits g d p0) (lv := [(0, .ref (zad z (24 + d))), (1, .int p0)]) (enokC z) rfl (by decide) (Nat.le_of_ble_eq_true rfl) rfl (fun p e s m args below meth c C0 hrt hlk => ?_)
  unfold f_X4_lowestBits
  refine j_aload_n C0 0 dX4_lowestBits_0 rfl rfl ?_
  refine g_Shelf_sort C0 hd w_140 dX4_lowestBits_1 ?_
  refine j_if_ne C0 10 dX4_lowestBits_4 (by decide) (fun c_4 => ?_) (fun c_4 => ?_)
  · refine j_iload_n C0 1 dX4_lowestBits_7 rfl rfl ?_
    refine j_i2b C0 dX4_lowestBits_8 ?_
    exact j_iretP C0 hrt hlk dX4_lowestBits_9
  · refine j_aload_n C0 0 dX4_lowestBits_10 rfl rfl ?_
    refine g_Shelf_sort C0 hd w_140 dX4_lowestBits_11 ?_
    refine j_iconst C0 (v := 1) dX4_lowestBits_14 (by decide) ?_
    refine j_icmp_ne C0 23 dX4_lowestBits_15 (by decide) (fun c_15 => ?_) (fun c_15 => ?_)
    · refine j_iload_n C0 1 dX4_lowestBits_18 rfl rfl ?_
      refine j_i2s C0 dX4_lowestBits_19 ?_
      refine j_goto C0 24 dX4_lowestBits_20 (by decide) ?_
      exact j_iretP C0 hrt hlk dX4_lowestBits_24
    · refine j_iload_n C0 1 dX4_lowestBits_23 rfl rfl ?_
      exact j_iretP C0 hrt hlk dX4_lowestBits_24
def f_X4_leastNumber (g : Mem) (d : Nat) : Int32 := if (g (24 + d) 4) = 0 then ((-128 : Int32)) else (if (g (24 + d) 4) = (1 : Int32) then ((-32768 : Int32)) else ((-2147483648 : Int32)))
theorem yk_X4_leastNumber : yokV yX4_leastNumber RX4 cX4_leastNumber 1 (some .int) 0 := ⟨w_584, w_582, w_583, w_7, by decide +kernel⟩
set_option maxHeartbeats 4000000 in
set_option maxRecDepth 100000 in
theorem c_X4_leastNumber (l : Launch) (z : ZC) (g : Mem) (d : Nat) (hd : d < 8) : ctC l yX4_leastNumber cX4_leastNumber 1 (some .int) 0 0 z g [.ref (zad z (24 + d))] (qIC z (f_X4_leastNumber g d, g)) := by
  refine ct_of (own := RX4) (q := fun r => qIC z (r, g)) (res := f_X4_leastNumber g d) (lv := [(0, .ref (zad z (24 + d)))]) (enokC z) rfl (by decide) (Nat.le_of_ble_eq_true rfl) rfl (fun p e s m args below meth c C0 hrt hlk => ?_)
  unfold f_X4_leastNumber
  refine j_aload_n C0 0 dX4_leastNumber_0 rfl rfl ?_
  refine g_Shelf_sort C0 hd w_140 dX4_leastNumber_1 ?_
  refine j_if_ne C0 10 dX4_leastNumber_4 (by decide) (fun c_4 => ?_) (fun c_4 => ?_)
  · refine j_bipush C0 (v := (-128)) dX4_leastNumber_7 (by decide) ?_
    exact j_iretP C0 hrt hlk dX4_leastNumber_9
  · refine j_aload_n C0 0 dX4_leastNumber_10 rfl rfl ?_
    refine g_Shelf_sort C0 hd w_140 dX4_leastNumber_11 ?_
    refine j_iconst C0 (v := 1) dX4_leastNumber_14 (by decide) ?_
    refine j_icmp_ne C0 24 dX4_leastNumber_15 (by decide) (fun c_15 => ?_) (fun c_15 => ?_)
    · refine j_sipush C0 (v := (-32768)) dX4_leastNumber_18 (by decide) ?_
      refine j_goto C0 26 dX4_leastNumber_21 (by decide) ?_
      exact j_iretP C0 hrt hlk dX4_leastNumber_26
    · refine j_ldc C0 dX4_leastNumber_24 w_585 ?_
      exact j_iretP C0 hrt hlk dX4_leastNumber_26
def f_X4_holdKind_m1 (g : Mem) (d : Nat) (w p1 : Int32) : Mem := up g (24 + d) 1 (1 : Int32)
def f_X4_holdKind_m2 (g : Mem) (d : Nat) (w p1 : Int32) : Mem := up (f_X4_holdKind_m1 g d w p1) (24 + d) 2 w
def f_X4_holdKind_m3 (g : Mem) (d : Nat) (w p1 : Int32) : Mem := up (f_X4_holdKind_m2 g d w p1) (24 + d) 3 p1
def f_X4_holdKind (g : Mem) (d : Nat) (w p1 : Int32) : Mem := (f_X4_holdKind_m3 g d w p1)
theorem yk_X4_holdKind : yokV yX4_holdKind RX4 cX4_holdKind 3 none 2 := ⟨w_630, w_628, w_629, w_7, by decide +kernel⟩
set_option maxHeartbeats 4000000 in
set_option maxRecDepth 100000 in
theorem c_X4_holdKind (l : Launch) (z : ZC) (g : Mem) (d : Nat) (hd : d < 8) (w p1 : Int32) (hw : vp_in w 8) (hI : In g) : ctC l yX4_holdKind cX4_holdKind 3 none 0 0 z g [.ref (zad z (24 + d)), .ref (zaE z (ix w)), .int p1] (qVC z (f_X4_holdKind g d w p1)) := by
  refine ct_of (own := RX4) (q := fun r => qVC z r) (res := f_X4_holdKind g d w p1) (lv := [(0, .ref (zad z (24 + d))), (1, .ref (zaE z (ix w))), (2, .int p1)]) (enokC z) rfl (by decide) (Nat.le_of_ble_eq_true rfl) rfl (fun p e s m args below meth c C0 hrt hlk => ?_)
  unfold f_X4_holdKind
  refine j_aload_n C0 0 dX4_holdKind_0 rfl rfl ?_
  refine j_iconst C0 (v := 1) dX4_holdKind_1 (by decide) ?_
  refine p_Shelf_holds C0 hd w_133 dX4_holdKind_2 ?_
  refine j_aload_n C0 0 dX4_holdKind_5 rfl rfl ?_
  refine j_aload_n C0 1 dX4_holdKind_6 rfl rfl ?_
  refine p_Shelf_kind C0 hd w_135 dX4_holdKind_7 ?_
  refine j_aload_n C0 0 dX4_holdKind_10 rfl rfl ?_
  refine j_iload_n C0 2 dX4_holdKind_11 rfl rfl ?_
  refine p_Shelf_figure C0 hd w_137 dX4_holdKind_12 ?_
  exact j_vret C0 hrt hlk dX4_holdKind_15
