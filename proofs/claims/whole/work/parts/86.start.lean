theorem n_newl {p : Program} {l : Launch} {e : Env} {R : Room} {s : State} {m : MethodId} {args : Array Value} {below : List Frame} {meth : Method} {c : Code} {cc : ByteArray} {nL : Nat} {own : String} {A : Nat → Prop} {kc ks : Nat} {Q : State → Prop} {pc : Nat} {lv : List (Nat × Value)} {st : List Value} {D : va_G} {tys : List (ClassId × FieldType)} {ws : va_W} (C0 : jb p s m args c cc nL own) (hK : va_K D vwCl tys s) (hA : ∀ q, s.heap.size ≤ q → A q) {n : Int32} {N : Nat} (hn : ¬ n < 0) (hN : n.toNatClampNeg = N) (hb : N * 8 ≤ 536870912) (hc : kc + 1 ≤ R.cells ∧ ks + N ≤ R.slots) (hd : decode cc pc = .ok (.newarray .long, 2)) (kk : ∀ (q : Nat) (cL : ClassId), va_K D vwCl [(cL, .long)] s → jl p l e R s m args below meth c A (kc + 1) (ks + N) nL Q (PW D A (ws ++ [(q, .inl (cL, N, .inr (.inl (fun _ => 0))))])) (pc + 2) lv (.ref q :: st)) : jl p l e R s m args below meth c A kc ks nL Q (PW D A ws) pc lv (.int n :: st) := fun H locs ls hP hS hl => by
  refine va_newa (atype := .long) C0.1 C0.2.1 (C0.2.2.2.2 _ w_1162) (ty := .long) rfl hK hP.1 hP.2 hS hA (a0 := (N, .inr (.inl (fun _ => 0)))) (fun _ => rfl) hn hN hb hc.1 hc.2 hd (fun q cA H1 hK1 hP1 hD1 hS1 => ?_)
  exact kk q cA ⟨hK1.1, fun k r h => by
    match k, h with
    | 0, h =>
      cases h
      exact hK1.2 tys.length (cA, .long) (by rw [List.getElem?_append_right (Nat.le_refl _), Nat.sub_self]; rfl)
    | k + 1, h => cases h⟩ H1 locs ls ⟨hP1, hD1⟩ hS1 hl
theorem DC2 {A A2 : Nat → Prop} {I C S : ClassId} {aE : Nat → Nat} {h : Nat} {u : Nat → Nat → Nat} (hd : va_D A (WO5 I C S aE h u)) (hA : ∀ k, k < 52 → A2 (adC h u k)) (z : ZC) (hz : zad z = adC h u) (g : Mem) : va_D A2 (wd 52 (zad z) (celC z) g) :=
  ⟨(DC (aK := 0) (D := zD z) (A2 := A) hd (fun _ h => h) z hz g).1, fun k q hq => by
    obtain ⟨hk, rfl⟩ := wd_in hq
    show A2 (zad z k)
    rw [hz]
    exact hA k hk⟩
theorem DM2 {A A2 : Nat → Prop} {I : ClassId} {h : Nat} {u : Nat → Nat} (hd : va_D A (WO6 I h u)) (hA : ∀ k, k < 14 → A2 (adM h u k)) (z : ZM) (hz : yad z = adM h u) (g : Mem) : va_D A2 (wd 14 (yad z) (celM z) g) :=
  ⟨(DM (A2 := A) hd (fun _ h => h) z hz g).1, fun k q hq => by
    obtain ⟨hk, rfl⟩ := wd_in hq
    show A2 (yad z k)
    rw [hz]
    exact hA k hk⟩
theorem ap_l {X Y : va_W} {k : Nat} {q : Nat × va_E} (h : X[k]? = some q) : (X ++ Y)[k]? = some q := by
  rw [List.getElem?_append_left (List.getElem?_eq_some_iff.mp h).1]
  exact h
theorem ap_r {X Y : va_W} {k : Nat} {q : Nat × va_E} (h : Y[k]? = some q) : (X ++ Y)[X.length + k]? = some q := by
  rw [List.getElem?_append_right (by omega), show X.length + k - X.length = k from by omega]
  exact h
theorem pw_l {D : va_G} {A : Nat → Prop} {X Y : va_W} {H : Heap} (h : PW D A (X ++ Y) H) : PW D A X H :=
  ⟨fun k q hq => h.1 k q (ap_l hq), fun i j p q hp hq e => h.2.1 i j p q (ap_l hp) (ap_l hq) e, fun k q hq => h.2.2 k q (ap_l hq)⟩
theorem pw_r {D : va_G} {A : Nat → Prop} {X Y : va_W} {H : Heap} (h : PW D A (X ++ Y) H) : PW D A Y H :=
  ⟨fun k q hq => h.1 _ q (ap_r hq), fun i j p q hp hq e => by have := h.2.1 _ _ p q (ap_r hp) (ap_r hq) e; omega, fun k q hq => h.2.2 _ q (ap_r hq)⟩
theorem pw_x {D : va_G} {A : Nat → Prop} {X Y : va_W} {H : Heap} (h : PW D A (X ++ Y) H) {i j : Nat} {p q : Nat × va_E} (hp : X[i]? = some p) (hq : Y[j]? = some q) : p.1 ≠ q.1 := fun e => by
  have h1 := h.2.1 _ _ p q (ap_l hp) (ap_r hq) e
  have h2 := (List.getElem?_eq_some_iff.mp hp).1
  omega
/-- all that the loop needs, out of the cells that were made -/
theorem FX_of {s : State} {D : va_G} {I C S cL : ClassId} {aE : Nat → Nat} {aK h5 h6 o b L : Nat} {u : Nat → Nat → Nat} {v : Nat → Nat} {xs : Nat → Int32} {H : Heap} {locs : List Loc} {A : Nat → Prop} (hK : va_K D vwCl [(I, .int), (C, .object RX3), (S, .object RX4)] s) (hL : va_K D vwCl [(cL, .long)] s)
    (hE : va_En RX1 kdD kNm kFl aE A s s.heap ∧ va_Z RX5 "KINDS" ksD (.ref aK) A s s.heap ∧ va_T (.object RX1) aK 8 (fun j => .ref (aE j)) A s s.heap) (hT : exT A s s.heap) (hX : exS s) (hv : va_X b L xs s s.heap) (hb : b < s.heap.size) (hbA : ¬ A b) (hA : ∀ q, s.heap.size ≤ q → A q) (hS : va_S A s.heap H locs)
    (hP : PW D A (WO5 I C S aE h5 u ++ (WO6 I h6 v ++ [(o, .inl (cL, 1, .inr (.inl (fun _ => 0))))])) H) :
    FX s A (mkC D I C S aE aK h5 u (fun q => (∃ k, k < 52 ∧ q = adC h5 u k) ∨ H.size ≤ q)) (mkM D I h6 v (fun q => (∃ k, k < 14 ∧ q = adM h6 v k) ∨ H.size ≤ q)) b L xs o cL H.size ∧ PLw (mkC D I C S aE aK h5 u (fun q => (∃ k, k < 52 ∧ q = adC h5 u k) ∨ H.size ≤ q)) (mkM D I h6 v (fun q => (∃ k, k < 14 ∧ q = adM h6 v k) ∨ H.size ≤ q)) o cL H.size z0 z0 (fun _ => 0) H := by
  have P5 := pw_l hP
  have P6 := pw_l (pw_r hP)
  have PO := pw_r (pw_r hP)
  have lo : ([(o, .inl (cL, 1, .inr (.inl (fun _ => 0))))] : va_W)[0]? = some (o, .inl (cL, 1, .inr (.inl (fun _ => 0)))) := rfl
  have x56 : ∀ k, k < 52 → ∀ j, j < 14 → adC h5 u k ≠ adM h6 v j := fun k hk j hj => by
    obtain ⟨e1, q1⟩ := lC I C S aE h5 u k hk
    obtain ⟨e2, q2⟩ := lM I h6 v j hj
    exact pw_x hP q1 (ap_l q2)
  have x5o : ∀ k, k < 52 → adC h5 u k ≠ o := fun k hk => by
    obtain ⟨e1, q1⟩ := lC I C S aE h5 u k hk
    exact pw_x hP q1 (ap_r lo)
  have x6o : ∀ j, j < 14 → adM h6 v j ≠ o := fun j hj => by
    obtain ⟨e2, q2⟩ := lM I h6 v j hj
    exact pw_x (pw_r hP) q2 lo
  have a5 : ∀ k, k < 52 → A (adC h5 u k) ∧ adC h5 u k < H.size := fun k hk => by
    obtain ⟨e1, q1⟩ := lC I C S aE h5 u k hk
    exact ⟨P5.2.2 _ _ q1, (P5.1 _ _ q1).lt⟩
  have a6 : ∀ k, k < 14 → A (adM h6 v k) ∧ adM h6 v k < H.size := fun k hk => by
    obtain ⟨e1, q1⟩ := lM I h6 v k hk
    exact ⟨P6.2.2 _ _ q1, (P6.1 _ _ q1).lt⟩
  have ao : A o ∧ o < H.size := ⟨PO.2.2 0 _ lo, (PO.1 0 _ lo).lt⟩
  have hHA : ∀ q, H.size ≤ q → A q := fun q h => hA q (Nat.le_trans hS.1 h)
  refine ⟨⟨⟨fun g => DC2 P5.2 (fun k hk => Or.inl ⟨k, hk, rfl⟩) _ rfl g, fun g => DM2 P6.2 (fun k hk => Or.inl ⟨k, hk, rfl⟩) _ rfl g, hK, ⟨hK.1, fun k q h => ?_⟩, hL⟩, ⟨⟨hE, hT⟩, hX⟩, ⟨?_, ?_, ao.1, fun q h => Or.inr h, fun q h => Or.inr h⟩, ⟨fun k hk => ⟨?_, (a6 k hk).2⟩, fun k hk => ⟨?_, (a5 k hk).2⟩, ⟨?_, ?_, ao.2⟩, x6o⟩, hv, hb, hbA⟩, Nat.le_refl _, PC P5.1, PM P6.1, PO.1⟩
  · match k, h with
    | 0, h => exact hK.2 0 q h
    | k + 1, h => cases h
  · rintro q (⟨k, hk, rfl⟩ | h)
    · exact (a5 k hk).1
    · exact hHA q h
  · rintro q (⟨k, hk, rfl⟩ | h)
    · exact (a6 k hk).1
    · exact hHA q h
  · rintro (⟨j, hj, e⟩ | h)
    · exact x56 j hj k hk e.symm
    · exact absurd (a6 k hk).2 (Nat.not_lt.mpr h)
  · rintro (⟨j, hj, e⟩ | h)
    · exact x56 k hk j hj e
    · exact absurd (a5 k hk).2 (Nat.not_lt.mpr h)
  · rintro (⟨j, hj, e⟩ | h)
    · exact x5o j hj e.symm
    · exact absurd ao.2 (Nat.not_lt.mpr h)
  · rintro (⟨j, hj, e⟩ | h)
    · exact x6o j hj e.symm
    · exact absurd ao.2 (Nat.not_lt.mpr h)
