
def PLw (z : ZC) (y : ZM) (o : Nat) (cL : ClassId) (N0 : Nat) (cg mg : Mem) (f : Nat → Int64) (H : Heap) : Prop := N0 ≤ H.size ∧ va_P (zD z) vwCl (wd 52 (zad z) (celC z) cg) H ∧ va_P (yD y) vwCl (wd 14 (yad y) (celM y) mg) H ∧ va_P (zD z) vwCl (oW o cL f) H
def FX (s : State) (A : Nat → Prop) (z : ZC) (y : ZM) (b L : Nat) (xs : Nat → Int32) (o : Nat) (cL : ClassId) (N0 : Nat) : Prop :=
  ((∀ g : Mem, va_D (zA z) (wd 52 (zad z) (celC z) g)) ∧ (∀ g : Mem, va_D (yA y) (wd 14 (yad y) (celM y) g)) ∧ va_K (zD z) vwCl (tyC z) s ∧ va_K (yD y) vwCl (tyM y) s ∧ va_K (zD z) vwCl [(cL, .long)] s) ∧
  (enX z A s s.heap ∧ exS s) ∧
  ((∀ q, zA z q → A q) ∧ (∀ q, yA y q → A q) ∧ A o ∧ (∀ q, N0 ≤ q → zA z q) ∧ (∀ q, N0 ≤ q → yA y q)) ∧
  ((∀ k, k < 14 → ¬ zA z (yad y k) ∧ yad y k < N0) ∧ (∀ k, k < 52 → ¬ yA y (zad z k) ∧ zad z k < N0) ∧ (¬ zA z o ∧ ¬ yA y o ∧ o < N0) ∧ ∀ k, k < 14 → yad y k ≠ o) ∧
  (va_X b L xs s s.heap ∧ b < s.heap.size ∧ ¬ A b)
theorem pk {D : va_G} {ws : va_W} {H H1 : Heap} {A1 : Nat → Prop} {N0 : Nat} (hP : va_P D vwCl ws H) (h : ∀ (k : Nat) (q : Nat × va_E), ws[k]? = some q → ¬ A1 q.1 ∧ q.1 < N0) (hN : N0 ≤ H.size) (hk : ∀ q : Nat, q < H.size → ¬ A1 q → H1[q]? = H[q]?) : va_P D vwCl ws H1 := fun k q hq => (hP k q hq).kept (hk _ (by have := (h k q hq).2; omega) (h k q hq).1)
theorem oW_at {o : Nat} {cL : ClassId} {f : Nat → Int64} {k : Nat} {q : Nat × va_E} (h : (oW o cL f)[k]? = some q) : q.1 = o := by
  cases k with
  | zero => exact (congrArg Prod.fst (Option.some.inj h)).symm
  | succ k => cases h
section FXX
variable {s : State} {A : Nat → Prop} {z : ZC} {y : ZM} {b L : Nat} {xs : Nat → Int32} {o : Nat} {cL : ClassId} {N0 : Nat} {cg mg : Mem} {f : Nat → Int64} {H : Heap} {locs : List Loc}
theorem FX.recC (F : FX s A z y b L xs o cL N0) (hP : PLw z y o cL N0 cg mg f H) : ∃ cell : Cell, H[zad z 46]? = some cell ∧ cell.vm.isStatics = false ∧ s.vm.findClass RX5 = some cell.cls :=
  va_recv (q := (RX5, TX5, 6)) F.1.2.2.1 hP.2.1 (show vwCl[4]? = some (RX5, TX5, 6) from rfl) (q0 := 46) ((wd_at (by decide)).trans (by rw [cel_main]))
theorem FX.recM (F : FX s A z y b L xs o cL N0) (hP : PLw z y o cL N0 cg mg f H) : ∃ cell : Cell, H[yad y 0]? = some cell ∧ cell.vm.isStatics = false ∧ s.vm.findClass RX6 = some cell.cls :=
  va_recv (q := (RX6, TX6, 20)) F.1.2.2.2.1 hP.2.2.1 (show vwCl[5]? = some (RX6, TX6, 20) from rfl) (q0 := 0) ((wd_at (by decide)).trans (by rw [celM_0]))
theorem FX.preX (F : FX s A z y b L xs o cL N0) (hP : PLw z y o cL N0 cg mg f H) (hS : va_S A s.heap H locs) (U : State) (hU : U.heap = H) (hW : s.WarmedH U.vm) : preX z cg U := by
  have hE : enX z A U H := enokX z A s U s.heap H hW.alike hS.2.1 F.2.1.1
  exact ⟨⟨fun q hq => F.2.2.1.2.2.2.1 q (by rw [hU] at hq; exact Nat.le_trans hP.1 hq), by rw [hU]; exact hP.2.1, va_K.moved hW.alike F.1.2.2.1, F.1.1, by rw [hU]; exact ⟨enC_narrow hE.1 F.2.2.1.1, exT_narrow hE.2 F.2.2.1.1⟩⟩, exS_warm hW F.2.1.2⟩
theorem FX.preC (F : FX s A z y b L xs o cL N0) (hP : PLw z y o cL N0 cg mg f H) (hS : va_S A s.heap H locs) (U : State) (hU : U.heap = H) (hW : s.WarmedH U.vm) : pre (zD z) (tyC z) 52 (zad z) (celC z) (enC z) (zA z) cg U := by
  obtain ⟨⟨h1, h2, h3, h4, h5⟩, h6⟩ := F.preX hP hS U hU hW
  exact ⟨h1, h2, h3, h4, h5.1⟩
theorem FX.preM (F : FX s A z y b L xs o cL N0) (hP : PLw z y o cL N0 cg mg f H) (U : State) (hU : U.heap = H) (hW : s.WarmedH U.vm) : pre (yD y) (tyM y) 14 (yad y) (celM y) enM (yA y) mg U :=
  ⟨fun q hq => F.2.2.1.2.2.2.2 q (by rw [hU] at hq; exact Nat.le_trans hP.1 hq), by rw [hU]; exact hP.2.2.1, va_K.moved hW.alike F.1.2.2.2.1, F.1.2.1, trivial⟩
theorem FX.postC (F : FX s A z y b L xs o cL N0) {g1 : Mem} {H1 : Heap} (hP : PLw z y o cL N0 cg mg f H) (h1 : va_P (zD z) vwCl (wd 52 (zad z) (celC z) g1) H1) (hs : H.size ≤ H1.size) (hk : ∀ q : Nat, q < H.size → ¬ zA z q → H1[q]? = H[q]?) : PLw z y o cL N0 g1 mg f H1 :=
  ⟨Nat.le_trans hP.1 hs, h1, pk hP.2.2.1 (fun k q hq => by obtain ⟨hkn, rfl⟩ := wd_in hq; exact F.2.2.2.1.1 k hkn) hP.1 hk, pk hP.2.2.2 (fun k q hq => by rw [oW_at hq]; exact ⟨F.2.2.2.1.2.2.1.1, F.2.2.2.1.2.2.1.2.2⟩) hP.1 hk⟩
theorem FX.postM (F : FX s A z y b L xs o cL N0) {g1 : Mem} {H1 : Heap} (hP : PLw z y o cL N0 cg mg f H) (h1 : va_P (yD y) vwCl (wd 14 (yad y) (celM y) g1) H1) (hs : H.size ≤ H1.size) (hk : ∀ q : Nat, q < H.size → ¬ yA y q → H1[q]? = H[q]?) : PLw z y o cL N0 cg g1 f H1 :=
  ⟨Nat.le_trans hP.1 hs, pk hP.2.1 (fun k q hq => by obtain ⟨hkn, rfl⟩ := wd_in hq; exact F.2.2.2.1.2.1 k hkn) hP.1 hk, h1, pk hP.2.2.2 (fun k q hq => by rw [oW_at hq]; exact ⟨F.2.2.2.1.2.2.1.2.1, F.2.2.2.1.2.2.1.2.2⟩) hP.1 hk⟩
theorem FX.postE (F : FX s A z y b L xs o cL N0) {g1 : Mem} {f1 : Nat → Int64} {H1 : Heap} (hP : PLw z y o cL N0 cg mg f H) (h1 : va_P (zD z) vwCl (wd 52 (zad z) (celC z) g1) H1 ∧ va_P (zD z) vwCl (oW o cL f1) H1) (hs : H.size ≤ H1.size) (hk : ∀ q : Nat, q < H.size → ¬ eA z o q → H1[q]? = H[q]?) : PLw z y o cL N0 g1 mg f1 H1 :=
  ⟨Nat.le_trans hP.1 hs, h1.1, pk (A1 := eA z o) hP.2.2.1 (fun k q hq => by
    obtain ⟨hkn, rfl⟩ := wd_in hq
    exact ⟨fun w => w.elim (F.2.2.2.1.1 k hkn).1 (F.2.2.2.1.2.2.2 k hkn), (F.2.2.2.1.1 k hkn).2⟩) hP.1 hk, h1.2⟩
end FXX
theorem vx_va {p : Program} {l : Launch} {e : Env} {R : Room} {s : State} {m : MethodId} {args : Array Value} {below : List Frame} {meth : Method} {c : Code} {H : Heap} {locs : List Loc} {cells slots mc ms : Nat} {g : JFrame} {rest : List Value} {Qa : State → Outcome → State → Prop} {free : Addr → Prop} (h : vx_Run p l e R s m args below meth c H locs cells slots mc ms g rest Qa noX free) : va_Run p l e R s m args below meth c H locs cells slots mc ms g rest Qa free := fun T hT X => (h T hT X).resolve_right (by
  rintro ⟨q, st₀, t, T', L, E, ce, h1, h2, h3, h4, h5, h6, h7⟩
  exact h6)
section QX
variable {p : Program} {l : Launch} {e : Env} {R : Room} {s : State} {m : MethodId} {args : Array Value} {below : List Frame} {meth : Method} {c : Code} {cc : ByteArray} {nL : Nat} {own : String} {A : Nat → Prop} {kc ks : Nat} {Q : State → Prop} {pc : Nat} {lv : List (Nat × Value)} {st : List Value} {z : ZC} {y : ZM} {b L : Nat} {xs : Nat → Int32} {o : Nat} {cL : ClassId} {N0 : Nat} {cg mg : Mem} {f : Nat → Int64}
theorem q_ci (C0 : jb p s m args c cc nL own) (F : FX s A z y b L xs o cL N0) {yn : MethodName} {idx maxL fr lo na : Nat} {bytes : ByteArray} {rt : Option FieldType} {As rest : List Value} {g1 : Mem} {r1 : Int32} (hM : ctC l yn bytes maxL rt fr lo z cg (.ref (zad z 46) :: As) (qIC z (r1, g1))) (hy : yokV yn RX5 bytes maxL rt na) (hw : Cond.methodLink own idx yn ∈ WLg) (hR : fr + 1 ≤ R.frames ∧ 8 + (maxL + 11) + lo ≤ R.locals) (hRc : kc ≤ R.cells ∧ ks ≤ R.slots) (hn : As.length = na) (hst : st = As.reverse ++ .ref (zad z 46) :: rest) (hW : (rest.map fun v => v.category).sum ≤ 8) (hd : decode cc pc = .ok (.invokevirtual idx, 3)) (kk : jl p l e R s m args below meth c A kc ks nL Q (PLw z y o cL N0 g1 mg f) (pc + 3) lv (.int r1 :: rest)) : jl p l e R s m args below meth c A kc ks nL Q (PLw z y o cL N0 cg mg f) pc lv st :=
  l_callVi C0 hM hy hw (enokC z) (fun H locs hP hS => ⟨F.recC hP, fun U hU hW => F.preC hP hS U hU hW⟩) F.2.2.1.1 (fun H H1 hP h1 hs hk => F.postC hP h1 hs hk) hR hRc hn hst hW hd kk
theorem q_cl (C0 : jb p s m args c cc nL own) (F : FX s A z y b L xs o cL N0) {yn : MethodName} {idx maxL fr lo na : Nat} {bytes : ByteArray} {rt : Option FieldType} {As rest : List Value} {g1 : Mem} {r1 : Int64} (hM : ctC l yn bytes maxL rt fr lo z cg (.ref (zad z 46) :: As) (qLC z (r1, g1))) (hy : yokV yn RX5 bytes maxL rt na) (hw : Cond.methodLink own idx yn ∈ WLg) (hR : fr + 1 ≤ R.frames ∧ 8 + (maxL + 11) + lo ≤ R.locals) (hRc : kc ≤ R.cells ∧ ks ≤ R.slots) (hn : As.length = na) (hst : st = As.reverse ++ .ref (zad z 46) :: rest) (hW : (rest.map fun v => v.category).sum ≤ 8) (hd : decode cc pc = .ok (.invokevirtual idx, 3)) (kk : jl p l e R s m args below meth c A kc ks nL Q (PLw z y o cL N0 g1 mg f) (pc + 3) lv (.long r1 :: rest)) : jl p l e R s m args below meth c A kc ks nL Q (PLw z y o cL N0 cg mg f) pc lv st :=
  l_callVl C0 hM hy hw (enokC z) (fun H locs hP hS => ⟨F.recC hP, fun U hU hW => F.preC hP hS U hU hW⟩) F.2.2.1.1 (fun H H1 hP h1 hs hk => F.postC hP h1 hs hk) hR hRc hn hst hW hd kk
theorem q_mi (C0 : jb p s m args c cc nL own) (F : FX s A z y b L xs o cL N0) {yn : MethodName} {idx maxL fr lo na : Nat} {bytes : ByteArray} {rt : Option FieldType} {As rest : List Value} {g1 : Mem} {r1 : Int32} (hM : ctM l yn bytes maxL rt fr lo y mg (.ref (yad y 0) :: As) (qIM y (r1, g1))) (hy : yokV yn RX6 bytes maxL rt na) (hw : Cond.methodLink own idx yn ∈ WLg) (hR : fr + 1 ≤ R.frames ∧ 8 + (maxL + 11) + lo ≤ R.locals) (hRc : kc ≤ R.cells ∧ ks ≤ R.slots) (hn : As.length = na) (hst : st = As.reverse ++ .ref (yad y 0) :: rest) (hW : (rest.map fun v => v.category).sum ≤ 8) (hd : decode cc pc = .ok (.invokevirtual idx, 3)) (kk : jl p l e R s m args below meth c A kc ks nL Q (PLw z y o cL N0 cg g1 f) (pc + 3) lv (.int r1 :: rest)) : jl p l e R s m args below meth c A kc ks nL Q (PLw z y o cL N0 cg mg f) pc lv st :=
  l_callVi C0 hM hy hw enokM (fun H locs hP hS => ⟨F.recM hP, fun U hU hW => F.preM hP U hU hW⟩) F.2.2.1.2.1 (fun H H1 hP h1 hs hk => F.postM hP h1 hs hk) hR hRc hn hst hW hd kk
theorem q_ml (C0 : jb p s m args c cc nL own) (F : FX s A z y b L xs o cL N0) {yn : MethodName} {idx maxL fr lo na : Nat} {bytes : ByteArray} {rt : Option FieldType} {As rest : List Value} {g1 : Mem} {r1 : Int64} (hM : ctM l yn bytes maxL rt fr lo y mg (.ref (yad y 0) :: As) (qLM y (r1, g1))) (hy : yokV yn RX6 bytes maxL rt na) (hw : Cond.methodLink own idx yn ∈ WLg) (hR : fr + 1 ≤ R.frames ∧ 8 + (maxL + 11) + lo ≤ R.locals) (hRc : kc ≤ R.cells ∧ ks ≤ R.slots) (hn : As.length = na) (hst : st = As.reverse ++ .ref (yad y 0) :: rest) (hW : (rest.map fun v => v.category).sum ≤ 8) (hd : decode cc pc = .ok (.invokevirtual idx, 3)) (kk : jl p l e R s m args below meth c A kc ks nL Q (PLw z y o cL N0 cg g1 f) (pc + 3) lv (.long r1 :: rest)) : jl p l e R s m args below meth c A kc ks nL Q (PLw z y o cL N0 cg mg f) pc lv st :=
  l_callVl C0 hM hy hw enokM (fun H locs hP hS => ⟨F.recM hP, fun U hU hW => F.preM hP U hU hW⟩) F.2.2.1.2.1 (fun H H1 hP h1 hs hk => F.postM hP h1 hs hk) hR hRc hn hst hW hd kk
theorem q_toss (C0 : jb p s m args c cc nL own) (F : FX s A z y b L xs o cL N0) (hfl : l.stackTraces = false) {p0 : Int32} {idx : Nat} {rest : List Value} (hI : In cg) (hw : Cond.methodLink own idx yX5_toss ∈ WLg) (hR : 13 ≤ R.frames ∧ 325 ≤ R.locals) (hRc : kc + 1 ≤ R.cells ∧ ks + 6 ≤ R.slots) (hW : (rest.map fun v => v.category).sum ≤ 8) (hd : decode cc pc = .ok (.invokevirtual idx, 3)) (kk : jl p l e R s m args below meth c A (kc + 1) (ks + 6) nL Q (PLw z y o cL N0 cg mg f) (pc + 3) lv (.int (f_X5_toss cg p0) :: rest)) : jl p l e R s m args below meth c A kc ks nL Q (PLw z y o cL N0 cg mg f) pc lv (.int p0 :: .ref (zad z 46) :: rest) := by
  intro H locs ls hP hS hl
  have gG : GoodIn WLg (wsV own idx RX5 yX5_toss (Cond.codeWith yX5_toss cX5_toss 6 (some .int) tossH :: WLg)) := fun w h => gWL w (by
    rcases List.mem_append.mp h with h | h
    · simp only [List.mem_cons, List.not_mem_nil, or_false] at h
      rcases h with rfl | rfl | rfl | rfl
      · exact hw
      · exact w_668
      · exact w_669
      · exact w_1
    · rcases List.mem_cons.mp h with rfl | h
      · exact w_tossH
      · exact h)
  refine va_calli (vx_va (vx_runVX (C := RX5) (hh := tossH) (bytes := cX5_toss) (maxL := 6) (ret := some .int) (As := [.int p0]) (rest := rest) ⟨C0.1, C0.2.1, C0.2.2.1, C0.2.2.2.1, C0.2.2.2.2⟩ (c_X5_toss l hfl z cg p0 hI) (vx_cwVW 1 C0.2.2.2.2 gG rfl rfl rfl (by decide +kernel) ⟨hR.1, hR.2⟩) ⟨preX_blind, F.recC hP, fun U hU hW => ⟨rfl, F.preX hP hS U hU hW⟩⟩ rfl rfl hl.1 rfl (lv_room hW) hd hRc)) hS (fun q _ h => F.2.2.1.1 q h) F.2.2.1.1 (fun r u t H1 locs1 ht hvm hp hb hsz hk hS1 => ?_)
  have hp : r = f_X5_toss cg p0 := hp
  subst hp
  rw [ht] at hb
  exact kk H1 locs1 ls (F.postC hP hb hsz hk) hS1 hl
theorem q_elem (C0 : jb p s m args c cc nL own) (F : FX s A z y b L xs o cL N0) (hfl : l.stackTraces = false) {p0 p1 : Int32} {idx : Nat} {rest : List Value} (hI : In cg) (hw : Cond.methodLink own idx yL_element ∈ WLg) (hR : 8 ≤ R.frames ∧ 141 ≤ R.locals) (hRc : kc + 1 ≤ R.cells ∧ ks + 6 ≤ R.slots) (hW : (rest.map fun v => v.category).sum ≤ 8) (hd : decode cc pc = .ok (.invokestatic idx, 3)) (kk : jl p l e R s m args below meth c A (kc + 1) (ks + 6) nL Q (PLw z y o cL N0 cg mg (oL (f_X5_element cg p0 p1) f)) (pc + 3) lv (.int (rL (f_X5_element cg p0 p1)) :: rest)) : jl p l e R s m args below meth c A kc ks nL Q (PLw z y o cL N0 cg mg f) pc lv (.ref o :: .int p1 :: .int p0 :: .ref (zad z 46) :: rest) := by
  intro H locs ls hP hS hl
  have gG : GoodIn WLg (va_wsS own idx yL_element (Cond.codeWith yL_element cL_element 5 (some .int) elH :: WLg)) := fun w h => gWL w (by
    rcases List.mem_append.mp h with h | h
    · simp only [List.mem_cons, List.not_mem_nil, or_false] at h
      rcases h with rfl | rfl | rfl
      · exact hw
      · exact w_782
      · exact w_0
    · rcases List.mem_cons.mp h with rfl | h
      · exact w_elH
      · exact h)
  have hAe : ∀ q, eA z o q → A q := fun q h => h.elim (F.2.2.1.1 q) (fun h => by rw [h]; exact F.2.2.1.2.2.1)
  refine va_calli (vx_va (vx_runSX (hh := elH) (bytes := cL_element) (maxL := 5) (ret := some .int) (As := [.ref (zad z 46), .int p0, .int p1, .ref o]) (rest := rest) ⟨C0.1, C0.2.1, C0.2.2.1, C0.2.2.2.1, C0.2.2.2.2⟩ (c_L_element l hfl z cg p0 p1 hI o cL f) (vx_cwSW 4 C0.2.2.2.2 gG rfl rfl rfl (by decide +kernel) ⟨hR.1, hR.2⟩) ⟨preE_blind, fun U hU hW => ?_⟩ rfl rfl hl.1 rfl (lv_room hW) hd hRc)) hS (fun q _ h => hAe q h) hAe (fun r u t H1 locs1 ht hvm hp hb hsz hk hS1 => ?_)
  · have hE : enX z A U H := enokX z A s U s.heap H hW.alike hS.2.1 F.2.1.1
    obtain ⟨⟨h1, h2, h3, h4, h5⟩, h6⟩ := F.preX hP hS U hU hW
    exact ⟨rfl, h1, h2, h3, h4, by rw [hU]; exact enC_narrow hE.1 hAe, by rw [hU]; exact exT_narrow hE.2 hAe, h6, by rw [hU]; exact hP.2.2.2, va_K.moved hW.alike F.1.2.2.2.2, F.2.2.2.1.2.2.1.1⟩
  · have hp : r = rL (f_X5_element cg p0 p1) := hp
    subst hp
    rw [ht] at hb
    exact kk H1 locs1 ls (F.postE hP hb hsz hk) hS1 hl
theorem q_xs (C0 : jb p s m args c cc nL own) (F : FX s A z y b L xs o cL N0) {PH : Heap → Prop} {i : Int32} (hi : vp_in i L) (hd : decode cc pc = .ok (.iaload, 1)) (kk : jl p l e R s m args below meth c A kc ks nL Q PH (pc + 1) lv (.int (xs (ix i)) :: st)) : jl p l e R s m args below meth c A kc ks nL Q PH pc lv (.int i :: .ref b :: st) := fun H locs ls hP hS hl => va_sld C0.1 C0.2.1 F.2.2.2.2.1 F.2.2.2.2.2.1 F.2.2.2.2.2.2 hS hi hd (kk H locs ls hP hS hl)
theorem q_len (C0 : jb p s m args c cc nL own) (F : FX s A z y b L xs o cL N0) {PH : Heap → Prop} (hd : decode cc pc = .ok (.arraylength, 1)) (kk : jl p l e R s m args below meth c A kc ks nL Q PH (pc + 1) lv (.int (Int32.ofNat L) :: st)) : jl p l e R s m args below meth c A kc ks nL Q PH pc lv (.ref b :: st) := fun H locs ls hP hS hl => va_slen C0.1 C0.2.1 F.2.2.2.2.1 F.2.2.2.2.2.1 F.2.2.2.2.2.2 hS hd (kk H locs ls hP hS hl)
theorem q_wide {PH : Heap → Prop} {kc2 ks2 : Nat} (h : kc ≤ kc2 ∧ ks ≤ ks2) (kk : jl p l e R s m args below meth c A kc2 ks2 nL Q PH pc lv st) : jl p l e R s m args below meth c A kc ks nL Q PH pc lv st := fun H locs ls hP hS hl => l_wide h.1 h.2 (kk H locs ls hP hS hl)
theorem l_lload_ (C0 : jb p s m args c cc nL own) : True := trivial
end QX
