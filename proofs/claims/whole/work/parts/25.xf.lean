abbrev elH : List (Nat × Nat × Nat × Nat) := [(0, 9, 12, 13), (0, 9, 16, 15)]
theorem w_elH : Cond.codeWith yL_element cL_element 5 (some .int) elH ∈ WLg := wAt 824 (by decide +kernel) (by decide +kernel)
def eA (z : ZC) (o : Nat) : Nat → Prop := fun q => zA z q ∨ q = o
def oW (o : Nat) (cL : ClassId) (f : Nat → Int64) : va_W := [(o, .inl (cL, 1, .inr (.inl f)))]
def preE (z : ZC) (g : Mem) (o : Nat) (cL : ClassId) (f : Nat → Int64) (U : State) : Prop :=
  (∀ q : Nat, U.heap.size ≤ q → zA z q) ∧ va_P (zD z) vwCl (wd 52 (zad z) (celC z) g) U.heap ∧ va_K (zD z) vwCl (tyC z) U ∧ (∀ g : Mem, va_D (zA z) (wd 52 (zad z) (celC z) g)) ∧ enC z (eA z o) U U.heap ∧ exT (eA z o) U U.heap ∧ exS U ∧ va_P (zD z) vwCl (oW o cL f) U.heap ∧ va_K (zD z) vwCl [(cL, .long)] U ∧ ¬ zA z o
theorem enC_narrow {z : ZC} {A B : Nat → Prop} {U : State} {H : Heap} (h : enC z A U H) (hAB : ∀ q, B q → A q) : enC z B U H := ⟨h.1.narrow hAB, h.2.1.narrow hAB, h.2.2.narrow hAB⟩
theorem exT_narrow {A B : Nat → Prop} {U : State} {H : Heap} (h : exT A U H) (hAB : ∀ q, B q → A q) : exT B U H := ⟨h.1.narrow hAB, h.2.narrow hAB⟩
theorem exT_moved {A : Nat → Prop} {U V : State} {H H1 : Heap} (hA : U.vm.Alike V.vm) (hk : ∀ q : Nat, q < H.size → ¬ A q → H1[q]? = H[q]?) (h : exT A U H) : exT A V H1 := ⟨(h.1.moved hA).kept hk, (h.2.moved hA).kept hk⟩
theorem preE_blind {z : ZC} {g : Mem} {o : Nat} {cL : ClassId} {f : Nat → Int64} {As : List Value} : FrameBlind (va_Pc As (preE z g o cL f)) := fun a U fr mk q => by
  obtain ⟨q0, h1, h2, h3, h4, h5, h6, h7, h8, h9, h10⟩ := q
  exact ⟨q0, h1, h2, va_K.moved (u := U) (U := U.calling fr mk a) (Vm.Alike.refl U.vm) h3, h4, enokC z (eA z o) U (U.calling fr mk a) U.heap U.heap (Vm.Alike.refl U.vm) (fun _ _ _ => rfl) h5, exT_moved (U := U) (V := U.calling fr mk a) (H := U.heap) (H1 := U.heap) (Vm.Alike.refl U.vm) (fun _ _ _ => rfl) h6, exS_calling h7, h8, va_K.moved (u := U) (U := U.calling fr mk a) (Vm.Alike.refl U.vm) h9, h10⟩
def rL (r : Int32 × Int64) : Int32 := if r.1 = 0 then 0 else if r.1 = 2 then 1 else 2
def oL (r : Int32 × Int64) (f : Nat → Int64) : Nat → Int64 := if r.1 = 0 then vp_updL f 0 r.2 else f
def qE (z : ZC) (g : Mem) (o : Nat) (cL : ClassId) (v : Int32) (f : Nat → Int64) : Array Value → State → Outcome → State → Prop := va_Qi (fun x (_ : Unit) => x = v) (fun _ t => va_P (zD z) vwCl (wd 52 (zad z) (celC z) g) t.heap ∧ va_P (zD z) vwCl (oW o cL f) t.heap) (eA z o)
theorem jn_l {D : va_G} {cl : List vw_C} {H : Heap} {ws : va_W} {a n : Nat} {e e2 : va_E} (hn : ws.length = n) (h : va_P D cl ((ws ++ [(a, e)]).set n (a, e2)) H) : va_P D cl ws H ∧ va_P D cl [(a, e2)] H := by
  subst hn
  have e1 : (ws ++ [(a, e)]).set ws.length (a, e2) = ws ++ [(a, e2)] := by simp
  rw [e1] at h
  refine ⟨h.by id (fun k q hk => ?_), h.by (fun k => ws.length + k) (fun k q hk => ?_)⟩
  · show (ws ++ _)[k]? = some q
    rw [List.getElem?_append_left (List.getElem?_eq_some_iff.mp hk).1]
    exact hk
  · rw [List.getElem?_append_right (Nat.le_add_right _ _), Nat.add_sub_cancel_left]
    exact hk
theorem element_c (g : Mem) (a b : Int32) : (f_X5_element g a b).1 = 0 ∨ (f_X5_element g a b).1 = 2 ∨ (f_X5_element g a b).1 = 3 := by
  unfold f_X5_element
  repeat' split
  all_goals first | exact Or.inl rfl | exact Or.inr (Or.inl rfl) | exact Or.inr (Or.inr rfl)
section XE
variable {p : Program} {l : Launch} {e : Env} {R : Room} {s : State} {m : MethodId} {args : Array Value} {below : List Frame} {meth : Method} {c : Code} {cc : ByteArray} {nL : Nat} {own : String} {z : ZC} {g : Mem} {pc : Nat} {lv : List (Nat × Value)}
theorem xe_iret (C0 : jb p s m args c cc nL own) {v : Int32} {o : Nat} {cL : ClassId} {f : Nat → Int64} {XC : String → State → State → Prop} (hr : meth.sig.returnType = some .int) (hk : meth.locks = false) (hd : decode cc pc = .ok (.ireturn, 1)) : jl p l e R s m args below meth c (eA z o) 1 6 nL (vx_MQ below (qE z g o cL v f) XC args s 1 6 (eA z o)) (fun H => va_P (zD z) vwCl (wd 52 (zad z) (celC z) g) H ∧ va_P (zD z) vwCl (oW o cL f) H) pc lv [.int v] :=
  fun H locs ls hP hS hl => vx_ret (W.iret C0.1 C0.2.1 hr (fun t ht hW => ⟨⟨v, (), rfl, rfl, by show va_P _ vwCl (wd 52 (zad z) (celC z) g) t.heap ∧ va_P _ vwCl (oW o cL f) t.heap; rw [ht]; exact hP⟩, hS.F ht⟩) hS.2.2 hd hk)
end XE
set_option maxHeartbeats 4000000 in
theorem c_L_element (l : Launch) (hfl : l.stackTraces = false) (z : ZC) (g : Mem) (a b : Int32) (hI : In g) (o : Nat) (cL : ClassId) (f : Nat → Int64) :
    vx_Met l yL_element (Cond.codeWith yL_element cL_element 5 (some .int) elH :: WLg) { frames := 7, cells := 1, slots := 6, locals := 117 } (va_Pc [.ref (zad z 46), .int a, .int b, .ref o] (preE z g o cL f)) (qE z g o cL (rL (f_X5_element g a b)) (oL (f_X5_element g a b) f)) noX 1 6 (eA z o) := by
  refine vx_ofWH (cc := cL_element) (maxL := 5) (ret := some .int) (hh := elH) (by decide) rfl ?_
  intro p e s m args below meth c s₁ B hml hv
  obtain ⟨rfl, hA, hP, hK, hD, hE, hT, hX, hO, hKo, hno⟩ := hv
  have hts := atoms_spec (ws := Cond.codeWith yL_element cL_element 5 (some .int) elH :: WLg) B.pre
  have htab := vx_table (x := yL_element) B (hts _ List.mem_cons_self)
  have hl := lv_entry [.ref (zad z 46), .int a, .int b, .ref o] (n := 5) (Nat.le_of_ble_eq_true rfl)
  rw [lg_entry_eq]
  generalize (lg_sl [.ref (zad z 46), .int a, .int b, .ref o] ++ List.replicate (5 - (lg_sl [.ref (zad z 46), .int a, .int b, .ref o]).length) Slot.unset).toArray = ls at hl ⊢
  have hr := B.returns
  have hk := B.notSynchronized
  generalize hargs : ([.ref (zad z 46), .int a, .int b, .ref o] : List Value).toArray = args at *
  have CB : jb p s m args c cL_element 5 RL := ⟨B.exec, B.bytes, hml, findClass_of_methodNamed B.named, fun w hw => hts w (List.mem_cons_of_mem _ hw)⟩
  have CJ : jcC p s m args c cL_element 5 RL z := ⟨CB.1, CB.2.1, CB.2.2.1, CB.2.2.2.1, CB.2.2.2.2, hK, hD, enC_narrow hE (fun q h => Or.inl h), hA, enokC z⟩
  have hXW : exW s := by
    obtain ⟨_, _, _, _, _, _, _, _, _, _, h⟩ := hX
    exact h
  have key : jl p l e { frames := 7, cells := 1, slots := 6, locals := 117 } s m args below meth c (eA z o) 0 0 5 (vx_MQ below (qE z g o cL (rL (f_X5_element g a b)) (oL (f_X5_element g a b) f)) noX args s 1 6 (eA z o)) (fun H => va_P (zD z) vwCl (wd 52 (zad z) (celC z) g) H ∧ va_P (zD z) vwCl (oW o cL f) H) 0 [(0, .ref (zad z 46)), (1, .int a), (2, .int b), (3, .ref o)] [] := by
    refine l_aload_n CB 3 dL_element_0 rfl rfl ?_
    refine l_iconst CB (v := 0) dL_element_1 (by decide) ?_
    refine l_aload_n CB 0 dL_element_2 rfl rfl ?_
    refine l_iload_n CB 1 dL_element_3 rfl rfl ?_
    refine l_iload_n CB 2 dL_element_4 rfl rfl ?_
    intro H locs ls hP hS hl
    refine vx_calll (vx_runV (As := [.int a, .int b]) (rest := [.int 0, .ref o]) ⟨CB.1, CB.2.1, CB.2.2.1, CB.2.2.2.1, CB.2.2.2.2⟩ (c_X5_element l hfl z g a b hI) (cwV 2 CB.2.2.2.2 (gV yk_X5_element w_786) rfl rfl rfl yk_X5_element.2.2.2.2 ⟨by decide, by decide⟩)
      ⟨preX_blind, recvW CJ hP.1 46 (by decide) cel_main rfl, fun U hU hW => ⟨rfl, ⟨fun q hq => hA q (Nat.le_trans hS.1 (by rw [hU] at hq; exact hq)), by rw [hU]; exact hP.1, va_K.moved hW.alike hK, hD, by rw [hU]; exact enC_narrow (enokC z (eA z o) s U s.heap H hW.alike hS.2.1 hE) (fun q h => Or.inl h), by rw [hU]; exact exT_narrow (exT_moved hW.alike hS.2.1 hT) (fun q h => Or.inl h)⟩, exS_warm hW hX⟩⟩ rfl rfl hl.1 rfl (lv_room (Nat.le_of_ble_eq_true rfl)) dL_element_5 ⟨by decide, by decide⟩) hS (fun q _ h => Or.inl h) (fun q h => Or.inl h) (fun q _ h => Or.inl h) ?_ ?_
    · intro E ce q9 u t H1 locs1 ht hal hp hb hsz hkp hS1 hcell hv hcl
      obtain ⟨rfl, hP1⟩ := hb
      rw [ht] at hP1
      have hO1 : va_P (zD z) vwCl (oW o cL f) H1 := hP.2.kept (fun k q hk => by
        have ho := vx_lt hP.2 (k := 0) (q := (o, .inl (cL, 1, .inr (.inl f)))) rfl
        cases k with
        | zero =>
          cases Option.some.inj hk
          exact hkp o ho hno
        | succ k => exact nomatch hk)
      have cast : ∀ w ∈ exL, w.before args s = true := fun w hw => (ot_args (exL_ot w hw).1).trans (hXW.1 w hw)
      have eo : oL (f_X5_element g a b) f = f := by unfold oL; rw [if_neg hp]
      rw [eo]
      rcases (element_c g a b).resolve_left hp with h2 | h3
      · have e1 : exN (f_X5_element g a b).1 = "java/lang/IllegalArgumentException" := by rw [h2]; rfl
        rw [e1] at hcl
        have er : rL (f_X5_element g a b) = 1 := by unfold rL; rw [if_neg hp, if_pos h2]
        rw [er]
        refine vx_catch CB.2.2.2.1 [] ⟨0, 9, 12, 13⟩ [⟨0, 9, 16, 15⟩] htab (fun z hz => nomatch hz) (by decide) (by decide) (CB.2.2.2.2 _ w_784) (cast _ (by decide)) hcell hv hcl ?_
        have K : jl p l e { frames := 7, cells := 1, slots := 6, locals := 117 } s m args below meth c (eA z o) 1 6 5 (vx_MQ below (qE z g o cL 1 f) noX args s 1 6 (eA z o)) (fun H => va_P (zD z) vwCl (wd 52 (zad z) (celC z) g) H ∧ va_P (zD z) vwCl (oW o cL f) H) 12 [(0, .ref (zad z 46)), (1, .int a), (2, .int b), (3, .ref o)] [.ref q9] := by
          refine l_astore CB (lv' := [(4, _), (0, _), (1, _), (2, _), (3, _)]) dL_element_12 (by decide) rfl ?_
          refine l_iconst CB (v := 1) dL_element_14 (by decide) ?_
          exact xe_iret CB hr hk dL_element_15
        exact K H1 locs1 ls ⟨hP1, hO1⟩ hS1 hl
      · have h2 : ¬ (f_X5_element g a b).1 = 2 := by rw [h3]; decide
        have e1 : exN (f_X5_element g a b).1 = "java/lang/IllegalStateException" := by rw [h3]; rfl
        rw [e1] at hcl
        have er : rL (f_X5_element g a b) = 2 := by unfold rL; rw [if_neg hp, if_neg h2]
        rw [er]
        refine vx_catch CB.2.2.2.1 [⟨0, 9, 12, 13⟩] ⟨0, 9, 16, 15⟩ [] htab (fun z hz => by
          have hz := List.mem_singleton.mp hz
          subst hz
          exact Or.inr ⟨by decide, _, CB.2.2.2.2 _ w_784, hXW.2.2.2⟩) (by decide) (by decide) (CB.2.2.2.2 _ w_785) (cast _ (by decide)) hcell hv hcl ?_
        have K : jl p l e { frames := 7, cells := 1, slots := 6, locals := 117 } s m args below meth c (eA z o) 1 6 5 (vx_MQ below (qE z g o cL 2 f) noX args s 1 6 (eA z o)) (fun H => va_P (zD z) vwCl (wd 52 (zad z) (celC z) g) H ∧ va_P (zD z) vwCl (oW o cL f) H) 16 [(0, .ref (zad z 46)), (1, .int a), (2, .int b), (3, .ref o)] [.ref q9] := by
          refine l_astore CB (lv' := [(4, _), (0, _), (1, _), (2, _), (3, _)]) dL_element_16 (by decide) rfl ?_
          refine l_iconst CB (v := 2) dL_element_18 (by decide) ?_
          exact xe_iret CB hr hk dL_element_19
        exact K H1 locs1 ls ⟨hP1, hO1⟩ hS1 hl
    · intro r1 u t H1 locs1 ht hal hp hb hsz hkp hS1
      rw [ht] at hb
      obtain ⟨hp0, hp1⟩ := hp
      subst hp1
      have hO1 : va_P (zD z) vwCl (oW o cL f) H1 := hP.2.kept (fun k q hk => by
        have ho := vx_lt hP.2 (k := 0) (q := (o, .inl (cL, 1, .inr (.inl f)))) rfl
        cases k with
        | zero =>
          cases Option.some.inj hk
          exact hkp o ho hno
        | succ k => exact nomatch hk)
      have eo : oL (f_X5_element g a b) f = vp_updL f 0 (f_X5_element g a b).2 := by unfold oL; rw [if_pos hp0]
      have er : rL (f_X5_element g a b) = 0 := by unfold rL; rw [if_pos hp0]
      rw [eo, er]
      have hDo1 : va_D (eA z o) (oW o cL f) := by
        refine ⟨fun i j x y hi hj _ => ?_, fun k q hk => ?_⟩
        · cases i with
          | zero =>
            cases j with
            | zero => rfl
            | succ j => exact nomatch hj
          | succ i => exact nomatch hi
        · cases k with
          | zero => cases Option.some.inj hk; exact Or.inr rfl
          | succ k => exact nomatch hk
      have hDo : va_D (eA z o) (wd 52 (zad z) (celC z) g ++ oW o cL f) := by
        refine ((hD g).weaken (fun _ _ _ h => Or.inl h)).app hDo1 (fun i j x y hi hj he => ?_)
        cases j with
        | zero =>
          cases Option.some.inj hj
          have h9 := (hD g).2 i x hi
          rw [he] at h9
          exact hno h9
        | succ j => exact nomatch hj
      have hlen : (wd 52 (zad z) (celC z) g).length = 52 := by simp [wd]
      refine va_last (ws := wd 52 (zad z) (celC z) g ++ oW o cL f) CB.1 CB.2.1 hKo (hb.app hO1) hDo hS1 52 0 (cA := cL) (n := 1) (f := f) (by rw [List.getElem?_append_right (Nat.le_of_eq hlen), hlen]; rfl) rfl (i := 0) (by unfold vp_in; decide) dL_element_8 (fun H2 locs2 hP2 _ hS2 => ?_)
      have hP3 := jn_l hlen hP2
      have K : jl p l e { frames := 7, cells := 1, slots := 6, locals := 117 } s m args below meth c (eA z o) 1 6 5 (vx_MQ below (qE z g o cL 0 (vp_updL f 0 (f_X5_element g a b).2)) noX args s 1 6 (eA z o)) (fun H => va_P (zD z) vwCl (wd 52 (zad z) (celC z) g) H ∧ va_P (zD z) vwCl (oW o cL (vp_updL f 0 (f_X5_element g a b).2)) H) 9 [(0, .ref (zad z 46)), (1, .int a), (2, .int b), (3, .ref o)] [] := by
        refine l_goto CB 20 dL_element_9 (by decide) ?_
        refine l_iconst CB (v := 0) dL_element_20 (by decide) ?_
        exact xe_iret CB hr hk dL_element_21
      exact K H2 locs2 ls hP3 hS2 hl
  exact key s.heap [] ls ⟨hP, hO⟩ va_S.rf hl
