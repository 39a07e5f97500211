theorem fin_end {p : Program} {l : Launch} {e : Env} {s : State} {m : MethodId} {below : List Frame} {meth : Method} {c : Code} {b : Nat} (C0 : jb p s m #[Value.ref b] c cL_law 8 RL) (hr : meth.sig.returnType = ret) (hk : meth.locks = false) {PH : Heap → Prop} {kc ks : Nat} {lv : List (Nat × Value)} (h : kc ≤ 601024 ∧ ks ≤ 7293034) : jl p l e room_1 s m #[Value.ref b] below meth c (fun q => s.heap.size ≤ q) kc ks 8 (lw_Z below #[Value.ref b] s) PH 1590 lv [] := by
  refine l_iconst C0 (v := 1) dL_law_1590 (by decide) ?_
  intro H locs ls hP hS hl
  refine va_forget (fun q hq => hS.2.2 q hq) ?_
  refine W.widen (k := 601024) (n := 7293034) h.1 h.2 ?_
  exact lw_ret C0.1 C0.2.1 hr hk dL_law_1591
theorem PW_nil {D : va_G} {A : Nat → Prop} {H : Heap} : PW D A [] H := ⟨fun k q h => (by cases h), fun i j p q h => (by cases h), fun k q h => (by cases h)⟩
/-- YOUR PART: from the entry, for every script of at most 3072 ints, the law comes to its end with true ('hflags': the launch's flags, for a law that throws: no stack traces) -/
theorem whole_start {p : Program} {e : Env} {s : State} {m : MethodId} {below : List Frame} {meth : Method} {c : Code} (l : Launch) (hflags : l.flags = flags0) {b L : Nat} {xs : Nat → Int32} (hL : L ≤ 3072) (C0 : lw_At p s m meth c b L xs) : W p l e room_1 s m #[Value.ref b] below meth c s.heap [] 0 0 (lw_Z below #[Value.ref b] s) (entryFrame m ([Value.ref b] : List Value).toArray 8) := by
  obtain ⟨hx, hb, hr, hml, hown, hts, hX, hbl, hlocks, hgv⟩ := C0
  have hfl : l.stackTraces = false := by
    show (!l.flags.contains noTraceFlag) = false
    rw [hflags]
    decide +kernel
  have CB : jb p s m #[Value.ref b] c cL_law 8 RL := ⟨hx, hb, hml, hown, fun w hw => hts w (WLg_in w hw)⟩
  have hA : ∀ q : Nat, s.heap.size ≤ q → (fun q : Nat => s.heap.size ≤ q) q := fun _ h => h
  have hA2 : ∀ a : Nat, a < s.heap.size → ¬ (fun q : Nat => s.heap.size ≤ q) a := fun a h => Nat.not_le.mpr h
  obtain ⟨D, I, C, S, hK⟩ := st_K hts
  obtain ⟨aE, aK, hE⟩ := st_E hts hgv hA2
  have hT := st_T hts hgv hA2
  have hSx := st_S hts hgv
  have hN := st_N hts
  have hEX : EX aE (fun q : Nat => s.heap.size ≤ q) s s.heap := ⟨hE.1, st_AO hts⟩
  have hl := lv_entry ([.ref b]) (n := 8) (Nat.le_of_ble_eq_true rfl)
  rw [lg_entry_eq]
  generalize (lg_sl ([.ref b]) ++ List.replicate (8 - (lg_sl ([.ref b])).length) Slot.unset).toArray = ls at hl ⊢
  have hl : lv_has ls 8 [(0, .ref b)] := hl
  have key : jl p l e room_1 s m #[Value.ref b] below meth c (fun q => s.heap.size ≤ q) 0 0 8 (lw_Z below #[Value.ref b] s) (PW D (fun q => s.heap.size ≤ q) []) 0 [(0, .ref b)] [] := by
    refine n_new CB hK hA inW5 tyX5 tyX5_ok w_18 w_19 w_1 (ci := 4) rfl [.null, .null, .null, .null, .null, .int 0] (by decide) (by decide) dL_law_0 (fun h5 => ?_)
    refine l_dup CB dL_law_3 rfl ?_
    refine n_ctor CB hK hA hEX hN (k5_init (I := I) (C := C) (S := S) rfl rfl rfl) yok5 w_20 _ (by decide) (by decide) (show 1 ≤ 8 from by decide) dL_law_4 (fun u => ?_)
    refine l_astore_n CB (lv' := [(1, _), (0, _)]) dL_law_7 rfl (by decide) rfl ?_
    refine n_new CB hK hA inW6 tyX6 tyX6_ok w_794 w_795 w_8 (ci := 5) rfl [.null, .null, .null, .null, .int 0, .int 0, .int 0, .int 0, .null, .null, .null, .int 0, .int 0, .null, .null, .null, .null, .null, .null, .int 0] (by decide) (by decide) dL_law_8 (fun h6 => ?_)
    refine l_dup CB dL_law_11 rfl ?_
    refine n_ctor CB hK hA hEX hN (k6_init (I := I) rfl) yok6 w_796 _ (by decide) (by decide) (show 1 ≤ 8 from by decide) dL_law_12 (fun v => ?_)
    refine l_astore_n CB (lv' := [(2, _), (1, _), (0, _)]) dL_law_15 rfl (by decide) rfl ?_
    refine l_iconst CB (v := 1) dL_law_16 (by decide) ?_
    refine n_newl CB hK hA (N := 1) (by decide) (by decide) (by decide) (by decide) dL_law_17 (fun o cL hKL => ?_)
    refine l_astore_n CB (lv' := [(3, _), (2, _), (1, _), (0, _)]) dL_law_19 rfl (by decide) rfl ?_
    refine l_iconst CB (v := 0) dL_law_20 (by decide) ?_
    refine l_istore CB (lv' := [(4, _), (3, _), (2, _), (1, _), (0, _)]) dL_law_21 (by decide) rfl ?_
    intro H locs ls hP hS hl
    have hP2 : PW D (fun q => s.heap.size ≤ q) (WO5 I C S aE h5 u ++ (WO6 I h6 v ++ [(o, .inl (cL, 1, .inr (.inl (fun _ => 0))))])) H := by
      rw [← List.append_assoc]
      exact hP
    obtain ⟨F, hPL⟩ := FX_of (aK := aK) hK hKL hE hT hSx hX hbl (Nat.not_le.mpr hbl) hA hS hP2
    exact rounds CB F hfl hL (fun kc ks cg mg f i h => fin_end CB hr hlocks h) 513 0 rfl z0 z0 (fun _ => 0) RI_0 H locs ls hPL hS hl
  exact key s.heap [] ls PW_nil va_S.rf hl
