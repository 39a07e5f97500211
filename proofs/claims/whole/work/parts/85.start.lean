theorem RI_0 : RI z0 z0 := by
  have e0 : (0 : Int32).toInt = 0 := rfl
  have v0 : ∀ n : Nat, 0 < n → vp_in (0 : Int32) n := fun n hn => vin_of (by rw [e0]; omega) (by rw [e0]; omega)
  have n0 : (0 : Int) ≤ (0 : Int32).toInt := by decide
  have n8 : (0 : Int32).toInt ≤ (8 : Int) := by decide
  have n9 : (0 : Int32).toInt ≤ (9 : Int) := by decide
  have n99 : (0 : Int32).toInt ≤ (99 : Int) := by decide
  have n100 : (0 : Int32).toInt ≤ (100 : Int) := by decide
  have n999 : (0 : Int32).toInt ≤ (999 : Int) := by decide
  have x1 : ¬ (0 : Int32) = 1 := by decide
  have x2 : ¬ (0 : Int32) = 2 := by decide
  have hi0 : ∀ i : Nat, ¬ (i : Int) < (0 : Int32).toInt := fun i => by rw [e0]; omega
  have hF : FR z0 0 z0 1 := ⟨rfl, rfl, rfl, ⟨n0, n8⟩, fun i hi => absurd hi (hi0 i)⟩
  have hB : RB z0 1 := ⟨⟨n0, n9⟩, ⟨n0, n99⟩, fun i hi => absurd hi (hi0 i)⟩
  have hS : SRs z0 z0 := fun d hd => ⟨rfl, Or.inl rfl, fun h => absurd h x1, fun h => absurd h x2⟩
  have hI : In z0 := ⟨fun k hk => v0 8 (by omega), fun d hd => v0 8 (by omega), fun t ht => ⟨n0, n8⟩, fun d hd => ⟨n0, n100⟩, fun f => n0⟩
  have hM : InM z0 := ⟨⟨n0, n8⟩, ⟨n0, n8⟩, fun d hd => ⟨n0, n100⟩⟩
  exact ⟨⟨⟨hF, hB, ⟨n0, n999⟩⟩, hS, rfl, fun h => absurd rfl h⟩, hI, hM, fun x hx h8 => absurd h8 x2⟩
section START
variable {args : Array Value} {s : State}
theorem st_K (hts : ∀ w ∈ lw_tbl, w.before args s = true) : ∃ (D : va_G) (I C S : ClassId), va_K D vwCl [(I, .int), (C, .object RX3), (S, .object RX4)] s := by
  have hw : ∀ w ∈ WLg, w.before args s = true := fun w h => hts w (WLg_in w h)
  obtain ⟨c0, i0, k0⟩ := u_known (C := RX0) (T := TX0) (N := 4) (n := 4) hw inW0 (hw _ w_29)
  obtain ⟨c1, i1, k1⟩ := u_known (C := RX2) (T := TX2) (N := 5) (n := 5) hw inW2 (hw _ w_101)
  obtain ⟨c2, i2, k2⟩ := u_known (C := RX3) (T := TX3) (N := 8) (n := 8) hw inW3 (hw _ w_36)
  obtain ⟨c3, i3, k3⟩ := u_known (C := RX4) (T := TX4) (N := 6) (n := 6) hw inW4 (hw _ w_125)
  obtain ⟨c4, i4, k4⟩ := u_known (C := RX5) (T := TX5) (N := 6) (n := 6) hw inW5 (hw _ w_19)
  obtain ⟨c5, i5, k5⟩ := u_known (C := RX6) (T := TX6) (N := 20) (n := 20) hw inW6 (hw _ w_795)
  obtain ⟨I, kI, pI, a1, a2, a3⟩ := Cond.arrayClass_spec (hw _ w_124)
  obtain ⟨pC, C, kC, b1, b2, b3, b4, b5⟩ := Cond.arrayOver_spec (n := RX3) (hts _ (List.mem_of_getElem? (i := 76) (by decide +kernel)))
  obtain ⟨pS, S, kS, d1, d2, d3, d4, d5⟩ := Cond.arrayOver_spec (n := RX4) (hts _ (List.mem_of_getElem? (i := 68) (by decide +kernel)))
  refine ⟨(fun k => if k = 0 then c0 else if k = 1 then c1 else if k = 2 then c2 else if k = 3 then c3 else if k = 4 then c4 else c5, fun k => if k = 0 then i0 else if k = 1 then i1 else if k = 2 then i2 else if k = 3 then i3 else if k = 4 then i4 else i5), I, C, S, fun k q hq => ?_, fun k q hq => ?_⟩
  · match k, hq with
    | 0, hq => cases hq; exact k0
    | 1, hq => cases hq; exact k1
    | 2, hq => cases hq; exact k2
    | 3, hq => cases hq; exact k3
    | 4, hq => cases hq; exact k4
    | 5, hq => cases hq; exact k5
    | k + 6, hq => cases hq
  · match k, hq with
    | 0, hq => cases hq; exact ⟨fun n z => ⟨fun k h => (by cases h), kI, a2, pI, a3⟩, a1⟩
    | 1, hq => cases hq; exact ⟨fun n z => ⟨fun k h => (by cases h), kC, b3, pC, b4⟩, kC, pC, b3, b4, b1, b5⟩
    | 2, hq => cases hq; exact ⟨fun n z => ⟨fun k h => (by cases h), kS, d3, pS, d4⟩, kS, pS, d3, d4, d1, d5⟩
    | k + 3, hq => cases hq
abbrev kdD : String := "LCakesToTheWatched$Kind;"
abbrev ksD : String := "[LCakesToTheWatched$Kind;"
abbrev gvC : Cond := Cond.and given_1 narrow_1
theorem f_lays : ∀ i, i < kNm.length → Cond.laysStatic RX1 (kNm.getD i "") kdD ∈ lw_tbl := by decide +kernel
theorem f_exact : ∀ i, i < kNm.length → Cond.exactly (.static RX1 (kNm.getD i "") kdD) RX1 ∈ flatC gvC := by decide +kernel
theorem f_fields : ∀ q ∈ kFl, ∀ i, i < kNm.length → Cond.eq (.field (.static RX1 (kNm.getD i "") kdD) q.1 q.2.1 q.2.2.1) (.int (q.2.2.2.getD i 0)) ∈ flatC gvC := by decide +kernel
theorem f_apart : ∀ i, i < kNm.length → ∀ j, j < kNm.length → i ≠ j → (Cond.not (.eq (.static RX1 (kNm.getD i "") kdD) (.static RX1 (kNm.getD j "") kdD)) ∈ flatC gvC ∨ Cond.not (.eq (.static RX1 (kNm.getD j "") kdD) (.static RX1 (kNm.getD i "") kdD)) ∈ flatC gvC) := by decide +kernel
theorem f_elems : ∀ j, j < 8 → Cond.eq (.elem (.static RX5 "KINDS" ksD) (.int (Int32.ofNat j))) (.static RX1 (kNm.getD j "") kdD) ∈ flatC gvC := by decide +kernel
theorem st_E (hts : ∀ w ∈ lw_tbl, w.before args s = true) (hgv : gvC.before args s = true) {A : Nat → Prop} (hA : ∀ a : Nat, a < s.heap.size → ¬ A a) : ∃ (aE : Nat → Nat) (aK : Nat), va_En RX1 kdD kNm kFl aE A s s.heap ∧ va_Z RX5 "KINDS" ksD (.ref aK) A s s.heap ∧ va_T (.object RX1) aK 8 (fun j => .ref (aE j)) A s s.heap := by
  have hs := flat_of_before _ hgv
  have hini : (Cond.initialized RX1).before args s = true := hts _ (WLg_in _ w_5)
  have hini5 : (Cond.initialized RX5).before args s = true := hts _ (WLg_in _ w_1)
  obtain ⟨aE, hE, hv⟩ := va_Enof2 (A := A) (nm := kNm) (F := kFl) (fun i hi => hts _ (f_lays i hi)) hini (fun i hi => hs _ (f_exact i hi)) (fun q hq i hi => hs _ (f_fields q hq i hi)) (fun i j hi hj hij => (f_apart i hi j hj hij).imp (hs _) (hs _)) hA
  obtain ⟨aK, hk, hT⟩ := va_Tof (A := A) (tm := .static RX5 "KINDS" ksD) (ty := .object RX1) (N := 8) (f := fun j => .ref (aE j)) (by decide) (hs _ (by decide +kernel)) (va_eqt (hs _ (by decide +kernel))) (fun j hj => va_eqv (hs _ (f_elems j hj)) (hv j hj)) hA
  exact ⟨aE, aK, hE, va_Zref (hts _ (List.mem_of_getElem? (i := 282) (by decide +kernel))) hini5 hk hA, hT⟩
theorem st_T (hts : ∀ w ∈ lw_tbl, w.before args s = true) (hgv : gvC.before args s = true) {A : Nat → Prop} (hA : ∀ a : Nat, a < s.heap.size → ¬ A a) : exT A s s.heap := by
  have hs := flat_of_before _ hgv
  have hini : (Cond.initialized Bundle.tN).before args s = true := hts _ (by decide +kernel)
  exact ⟨vx_Zqof (hts _ (List.mem_of_getElem? (i := 749) (by decide +kernel))) hini (hs _ (by decide +kernel)) hA, vx_Zqof (hts _ (List.mem_of_getElem? (i := 751) (by decide +kernel))) hini (hs _ (by decide +kernel)) hA⟩
theorem st_R (hs : ∀ w ∈ flatC gvC, w.before args s = true) {own tx : String} {k : Nat} (h1 : (Cond.stringRef own k tx).before args s = true) (h2 : Cond.exactly (.string own k) "java/lang/String" ∈ flatC gvC) : ∃ a : Nat, vk_R own k tx a s := by
  obtain ⟨a, c, cell, k2, q1, q2⟩ := Cond.exactly_spec (hs _ h2)
  exact ⟨a, vk_R.of h1 q1⟩
theorem f_exL : ∀ w ∈ exL, w ∈ lw_tbl := by decide +kernel
theorem st_S (hts : ∀ w ∈ lw_tbl, w.before args s = true) (hgv : gvC.before args s = true) : exS s := by
  have hs := flat_of_before _ hgv
  obtain ⟨a1, h1⟩ := st_R (own := RX1) (k := 65) (tx := "an expert's failure") hs (hts _ (List.mem_of_getElem? (i := 763) (by decide +kernel))) (by decide +kernel)
  obtain ⟨a2, h2⟩ := st_R (own := RX1) (k := 72) (tx := "a taster's failure") hs (hts _ (List.mem_of_getElem? (i := 799) (by decide +kernel))) (by decide +kernel)
  obtain ⟨a3, h3⟩ := st_R (own := RX1) (k := 77) (tx := "a failure") hs (hts _ (List.mem_of_getElem? (i := 815) (by decide +kernel))) (by decide +kernel)
  obtain ⟨a4, h4⟩ := st_R (own := RX5) (k := 305) (tx := "no such shelf") hs (hts _ (List.mem_of_getElem? (i := 831) (by decide +kernel))) (by decide +kernel)
  obtain ⟨a5, h5⟩ := st_R (own := RX5) (k := 312) (tx := "no row, or no such place") hs (hts _ (List.mem_of_getElem? (i := 833) (by decide +kernel))) (by decide +kernel)
  exact ⟨a1, a2, a3, a4, a5, h1, h2, h3, h4, h5, fun w hw => (ot_args (exL_ot w hw).1).trans (hts w (f_exL w hw)), va_Nc.of (hs _ (by decide +kernel)), va_Nc.of (hs _ (by decide +kernel)), va_Nc.of (hs _ (by decide +kernel))⟩
theorem st_N (hts : ∀ w ∈ lw_tbl, w.before args s = true) : NW s := ⟨va_Nw.of rfl (hts _ (List.mem_of_getElem? (i := 78) (by decide +kernel))), va_Nw.of rfl (hts _ (List.mem_of_getElem? (i := 143) (by decide +kernel))), va_Nw.of rfl (hts _ (List.mem_of_getElem? (i := 167) (by decide +kernel)))⟩
theorem st_AO (hts : ∀ w ∈ lw_tbl, w.before args s = true) : va_AO RX3 s ∧ va_AO RX4 s := ⟨va_AO.of (hts _ (List.mem_of_getElem? (i := 76) (by decide +kernel))), va_AO.of (hts _ (List.mem_of_getElem? (i := 68) (by decide +kernel)))⟩
end START
