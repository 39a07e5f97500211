def f_toss_tail (w f : Int32) : Int32 := if f_X1_failWith w f = 0 then -15 else if f_X1_failWith w f = 1 then 200 + f_X1_costWith w f else if f_X1_failWith w f = 2 then 100 + f else f
abbrev tossH : List (Nat × Nat × Nat × Nat) := [(33, 41, 42, 331), (33, 41, 55, 303), (33, 41, 63, 310)]
theorem w_tossH : Cond.codeWith yX5_toss cX5_toss 6 (some .int) tossH ∈ WLg := wAt 711 (by decide +kernel) (by decide +kernel)
abbrev noX : String → State → State → Prop := fun _ _ _ => False
theorem jcX_of {p : Program} {s : State} {m : MethodId} {args : Array Value} {c : Code} {cc : ByteArray} {nL : Nat} {own : String} {z : ZC} (C0 : jcC p s m args c cc nL own z) (hE : exT (zA z) s s.heap) : jc p s m args c cc nL own WLg (zA z) (zD z) (tyC z) 52 (zad z) (celC z) (enX z) :=
  ⟨C0.1, C0.2.1, C0.2.2.1, C0.2.2.2.1, C0.2.2.2.2.1, C0.2.2.2.2.2.1, C0.2.2.2.2.2.2.1, ⟨C0.2.2.2.2.2.2.2.1, hE⟩, C0.2.2.2.2.2.2.2.2.1, enokX z⟩
section XT
variable {p : Program} {l : Launch} {e : Env} {R : Room} {s : State} {m : MethodId} {args : Array Value} {below : List Frame} {meth : Method} {c : Code} {cc : ByteArray} {nL : Nat} {own : String} {z : ZC} {g : Mem} {pc : Nat} {lv : List (Nat × Value)}
theorem xl_iret (C0 : jcC p s m args c cc nL own z) {v : Int32} {XC : String → State → State → Prop} (hr : meth.sig.returnType = some .int) (hk : meth.locks = false) (hd : decode cc pc = .ok (.ireturn, 1)) : jl p l e R s m args below meth c (zA z) 1 6 nL (vx_MQ below (qIC z (v, g)) XC args s 1 6 (zA z)) (fun H => va_P (zD z) vwCl (wd 52 (zad z) (celC z) g) H) pc lv [.int v] :=
  fun H locs ls hP hS hl => vx_ret (W.iret C0.1 C0.2.1 hr (fun t ht hW => ⟨⟨v, (), rfl, rfl, by show va_P _ vwCl (wd 52 (zad z) (celC z) g) t.heap; rw [ht]; exact hP⟩, hS.F ht⟩) hS.2.2 hd hk)
theorem x_iret (C0 : jcC p s m args c cc nL own z) {v : Int32} {XC : String → State → State → Prop} (hr : meth.sig.returnType = some .int) (hk : meth.locks = false) (hd : decode cc pc = .ok (.ireturn, 1)) : jj p l e R s m args below meth c (zA z) (zD z) 52 (zad z) (celC z) nL (fun r => vx_MQ below (qIC z (r, g)) XC args s 1 6 (zA z)) v g pc lv [.int v] :=
  fun H locs ls hP hS hl => l_wide (Nat.zero_le 1) (Nat.zero_le 6) (xl_iret C0 hr hk hd H locs ls hP hS hl)
/-- a body with handlers that lets nothing through -/
theorem ctXH_of {y : MethodName} {maxL : Nat} {rt : Option FieldType} {hh : List (Nat × Nat × Nat × Nat)} {fr lo : Nat} {As : List Value} {ρ : Type} {Qr : ρ → Array Value → State → Outcome → State → Prop} {XCr : ρ → String → State → State → Prop} {res : ρ}
    (how : y.cls = own) (hy : plainName y.cls = true) (hlen : (lg_sl As).length ≤ maxL) (hlv : lv_args 0 As = lv)
    (body : ∀ (p : Program) (e : Env) (s : State) (m : MethodId) (args : Array Value) (below : List Frame) (meth : Method) (c : Code), jcC p s m args c cc maxL own z → exS s → exT (zA z) s s.heap → c.exceptionTable.toList = tableOf hh → meth.sig.returnType = rt → meth.locks = false →
      jj p l e { frames := fr, cells := 1, slots := 6, locals := lo } s m args below meth c (zA z) (zD z) 52 (zad z) (celC z) maxL (fun r => vx_MQ below (Qr r) (XCr r) args s 1 6 (zA z)) res g 0 lv []) :
    vx_Met l y (Cond.codeWith y cc maxL rt hh :: WLg) { frames := fr, cells := 1, slots := 6, locals := lo } (va_Pc As (preX z g)) (Qr res) (XCr res) 1 6 (zA z) := by
  subst how
  refine vx_ofWH (cc := cc) (maxL := maxL) (ret := rt) (hh := hh) hy rfl ?_
  intro p e s m args below meth c s₁ B hml hv
  obtain ⟨rfl, ⟨hA, hP, hK, hD, hE, hT⟩, hX⟩ := hv
  have hts := atoms_spec (ws := Cond.codeWith y cc maxL rt hh :: WLg) B.pre
  have htab := vx_table (x := y) B (hts _ List.mem_cons_self)
  have hl := lv_entry As (n := maxL) hlen
  rw [lg_entry_eq]
  generalize (lg_sl As ++ List.replicate (maxL - (lg_sl As).length) Slot.unset).toArray = ls at hl ⊢
  rw [hlv] at hl
  exact body p e s m As.toArray below meth c ⟨B.exec, B.bytes, hml, findClass_of_methodNamed B.named, fun w hw => hts w (List.mem_cons_of_mem _ hw), hK, hD, hE, hA, enokC z⟩ hX hT htab B.returns B.notSynchronized s.heap [] ls hP va_S.rf hl
theorem failWith_3 (w f : Int32) : ¬ f_X1_failWith w f = 0 → ¬ f_X1_failWith w f = 1 → ¬ f_X1_failWith w f = 2 → f_X1_failWith w f = 3 := by
  unfold f_X1_failWith
  repeat' split
  all_goals first | (intros; rfl) | (intro h; exact absurd rfl h) | (intro _ h; exact absurd rfl h) | (intro _ _ h; exact absurd rfl h)
theorem toss_tail (C0 : jcC p s m args c cX5_toss 6 RX5 z) (hfl : l.stackTraces = false) (hX : exS s) (hE : exT (zA z) s s.heap) (htab : c.exceptionTable.toList = tableOf tossH) (hr : meth.sig.returnType = some .int) (hk : meth.locks = false) (hR : 12 ≤ R.frames ∧ 300 ≤ R.locals ∧ 1 ≤ R.cells ∧ 6 ≤ R.slots) {w f : Int32} (hw : vp_in w 8) :
    jj p l e R s m args below meth c (zA z) (zD z) 52 (zad z) (celC z) 6 (fun r => vx_MQ below (qIC z (r, g)) noX args s 1 6 (zA z)) (f_toss_tail w f) g 36 [(3, .ref (zaE z (ix w))), (4, .int f)] [.int f, .ref (zaE z (ix w))] := by
  intro H locs ls hP hS hl
  have hXW : exW s := by
    obtain ⟨_, _, _, _, _, _, _, _, _, _, h⟩ := hX
    exact h
  refine vx_callv (vx_runV (As := [.int f]) (rest := []) ⟨C0.1, C0.2.1, C0.2.2.1, C0.2.2.2.1, C0.2.2.2.2.1⟩ (c_X1_failWith l hfl z g w f hw) (cwV 1 C0.2.2.2.2.1 (gV yk_X1_failWith w_674) rfl rfl rfl yk_X1_failWith.2.2.2.2 ⟨by have := hR.1; show 6 + 1 ≤ R.frames; omega, by have := hR.2.1; show 8 + (2 + 11) + 95 ≤ R.locals; omega⟩)
    ⟨preX_blind, recvE C0 hw hS, fun U hU hW => ⟨rfl, pre_at (jcX_of C0 hE) hP hS hU hW, exS_warm hW hX⟩⟩ rfl rfl hl.1 rfl (lv_room (by decide)) dX5_toss_36 ⟨by show 0 + 1 ≤ R.cells; have := hR.2.2.1; omega, by show 0 + 6 ≤ R.slots; have := hR.2.2.2; omega⟩) hS (fun q _ h => h) (fun q h => h) (fun q _ h => h) ?_ ?_
  · intro E ce q9 u t H1 locs1 ht hal hp hb hsz hkp hS1 hcell hv hcl
    obtain ⟨rfl, hP1⟩ := hb
    rw [ht] at hP1
    have cast : ∀ w ∈ exL, w.before args s = true := fun w hw => (ot_args (exL_ot w hw).1).trans (hXW.1 w hw)
    by_cases h1 : f_X1_failWith w f = 1
    · have e1 : exN (f_X1_failWith w f) = "java/lang/UnsupportedOperationException" := by rw [h1]; rfl
      rw [e1] at hcl
      have er : f_toss_tail w f = 200 + f_X1_costWith w f := by unfold f_toss_tail; rw [if_neg hp, if_pos h1]
      rw [er]
      refine vx_catch C0.2.2.2.1 [] ⟨33, 41, 42, 331⟩ [⟨33, 41, 55, 303⟩, ⟨33, 41, 63, 310⟩] htab (fun z hz => nomatch hz) (by decide) (by decide) (C0.2.2.2.2.1 _ w_671) (cast _ (by decide)) hcell hv hcl ?_
      have K : jl p l e R s m args below meth c (zA z) 1 6 6 (vx_MQ below (qIC z (200 + f_X1_costWith w f, g)) noX args s 1 6 (zA z)) (fun H => va_P (zD z) vwCl (wd 52 (zad z) (celC z) g) H) 42 [(3, .ref (zaE z (ix w))), (4, .int f)] [.ref q9] := by
        refine l_astore (jb_of C0) (lv' := [(5, _), (3, _), (4, _)]) dX5_toss_42 (by decide) rfl ?_
        refine l_sipush (jb_of C0) (v := 200) dX5_toss_44 (by decide) ?_
        refine l_aload_n (jb_of C0) 1 dX5_toss_47 rfl rfl ?_
        refine l_iload (jb_of C0) 2 dX5_toss_48 rfl ?_
        refine l_callVi (jb_of C0) (P1 := fun H => va_P (zD z) vwCl (wd 52 (zad z) (celC z) g) H) (As := [.int f]) (rest := [.int 200]) (c_X1_costWith l z g w f hw) yk_X1_costWith w_663 (enokC z) (fun H locs hP hS => ⟨recvE C0 hw hS, fun U hU hW => pre_at C0 hP hS hU hW⟩) (fun q h => h) (fun _ _ _ h _ _ => h) ⟨by have := hR.1; omega, by have := hR.2.1; omega⟩ ⟨hR.2.2.1, hR.2.2.2⟩ rfl rfl (by decide) dX5_toss_50 ?_
        refine l_iadd (jb_of C0) dX5_toss_53 ?_
        exact xl_iret C0 hr hk dX5_toss_54
      exact K H1 locs1 ls hP1 hS1 hl
    · by_cases h2 : f_X1_failWith w f = 2
      · have e1 : exN (f_X1_failWith w f) = "java/lang/IllegalArgumentException" := by rw [h2]; rfl
        rw [e1] at hcl
        have er : f_toss_tail w f = 100 + f := by unfold f_toss_tail; rw [if_neg hp, if_neg h1, if_pos h2]
        rw [er]
        refine vx_catch C0.2.2.2.1 [⟨33, 41, 42, 331⟩] ⟨33, 41, 55, 303⟩ [⟨33, 41, 63, 310⟩] htab (fun z hz => by
          have hz := List.mem_singleton.mp hz
          subst hz
          exact Or.inr ⟨by decide, _, C0.2.2.2.2.1 _ w_671, hXW.2.1⟩) (by decide) (by decide) (C0.2.2.2.2.1 _ w_672) (cast _ (by decide)) hcell hv hcl ?_
        have K : jl p l e R s m args below meth c (zA z) 1 6 6 (vx_MQ below (qIC z (100 + f, g)) noX args s 1 6 (zA z)) (fun H => va_P (zD z) vwCl (wd 52 (zad z) (celC z) g) H) 55 [(3, .ref (zaE z (ix w))), (4, .int f)] [.ref q9] := by
          refine l_astore (jb_of C0) (lv' := [(5, _), (3, _), (4, _)]) dX5_toss_55 (by decide) rfl ?_
          refine l_bipush (jb_of C0) (v := 100) dX5_toss_57 (by decide) ?_
          refine l_iload (jb_of C0) 2 dX5_toss_59 rfl ?_
          refine l_iadd (jb_of C0) dX5_toss_61 ?_
          exact xl_iret C0 hr hk dX5_toss_62
        exact K H1 locs1 ls hP1 hS1 hl
      · have h3 := failWith_3 w f hp h1 h2
        have e1 : exN (f_X1_failWith w f) = "java/lang/IllegalStateException" := by rw [h3]; rfl
        rw [e1] at hcl
        have er : f_toss_tail w f = f := by unfold f_toss_tail; rw [if_neg hp, if_neg h1, if_neg h2]
        rw [er]
        refine vx_catch C0.2.2.2.1 [⟨33, 41, 42, 331⟩, ⟨33, 41, 55, 303⟩] ⟨33, 41, 63, 310⟩ [] htab (fun z hz => by
          rcases List.mem_cons.mp hz with rfl | hz
          · exact Or.inr ⟨by decide, _, C0.2.2.2.2.1 _ w_671, hXW.2.2.1⟩
          · have hz := List.mem_singleton.mp hz
            subst hz
            exact Or.inr ⟨by decide, _, C0.2.2.2.2.1 _ w_672, hXW.2.2.2⟩) (by decide) (by decide) (C0.2.2.2.2.1 _ w_673) (cast _ (by decide)) hcell hv hcl ?_
        have K : jl p l e R s m args below meth c (zA z) 1 6 6 (vx_MQ below (qIC z (f, g)) noX args s 1 6 (zA z)) (fun H => va_P (zD z) vwCl (wd 52 (zad z) (celC z) g) H) 63 [(3, .ref (zaE z (ix w))), (4, .int f)] [.ref q9] := by
          refine l_astore (jb_of C0) (lv' := [(5, _), (3, _), (4, _)]) dX5_toss_63 (by decide) rfl ?_
          refine l_iload (jb_of C0) 2 dX5_toss_65 rfl ?_
          exact xl_iret C0 hr hk dX5_toss_67
        exact K H1 locs1 ls hP1 hS1 hl
  · intro u t H1 locs1 ht hal hp hb hsz hkp hS1
    rw [ht] at hb
    have er : f_toss_tail w f = -15 := by unfold f_toss_tail; rw [if_pos hp]
    rw [er]
    have K : jl p l e R s m args below meth c (zA z) 1 6 6 (vx_MQ below (qIC z (-15, g)) noX args s 1 6 (zA z)) (fun H => va_P (zD z) vwCl (wd 52 (zad z) (celC z) g) H) 39 [(3, .ref (zaE z (ix w))), (4, .int f)] [] := by
      refine l_bipush (jb_of C0) (v := -15) dX5_toss_39 (by decide) ?_
      exact xl_iret C0 hr hk dX5_toss_41
    exact K H1 locs1 ls hb hS1 hl
end XT
