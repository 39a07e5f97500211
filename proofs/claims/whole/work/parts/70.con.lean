/-- the heap holds these cells, and they are apart -/
def PW (D : va_G) (A : Nat → Prop) (ws : va_W) (H : Heap) : Prop := va_P D vwCl ws H ∧ va_D A ws
/-- the kinds, and what the tables say of the classes' arrays -/
def EX (aE : Nat → Nat) (A : Nat → Prop) (U : State) (H : Heap) : Prop := va_En RX1 "LCakesToTheWatched$Kind;" kNm kFl aE A U H ∧ va_AO RX3 U ∧ va_AO RX4 U
theorem EX.moved {aE : Nat → Nat} {A : Nat → Prop} {U V : State} {H H1 : Heap} (hA : U.vm.Alike V.vm) (hk : ∀ q : Nat, q < H.size → ¬ A q → H1[q]? = H[q]?) (h : EX aE A U H) : EX aE A V H1 := ⟨(h.1.moved hA).kept hk, h.2.1.moved hA, h.2.2.moved hA⟩
theorem EX.narrow {aE : Nat → Nat} {A B : Nat → Prop} {U : State} {H : Heap} (h : EX aE A U H) (hAB : ∀ q, B q → A q) : EX aE B U H := ⟨h.1.narrow hAB, h.2⟩
/-- the private constructors of nest mates -/
def NW (U : State) : Prop := va_Nw (.methodLinkNest RX0 17 yX3_init RX5) U ∧ va_Nw (.methodLinkNest RX5 30 yX2_init RX5) U ∧ va_Nw (.methodLinkNest RX5 35 yX4_init RX5) U
theorem NW.same {U V : State} (hv : U.vm = V.vm) (h : NW U) : NW V := ⟨h.1.same rfl hv, h.2.1.same rfl hv, h.2.2.same rfl hv⟩
theorem NW.warm {s U : State} (hW : s.WarmedH U.vm) (h : NW s) : NW U := ⟨va_Nw.warmM hW h.1, va_Nw.warmM hW h.2.1, va_Nw.warmM hW h.2.2⟩
def preN (D : va_G) (tys : List (ClassId × FieldType)) (aE : Nat → Nat) (h0 : Nat) (e0 : va_E) (sz : Nat) (U : State) : Prop := U.heap.size = sz ∧ va_P D vwCl [(h0, e0)] U.heap ∧ va_K D vwCl tys U ∧ EX aE (va_A [(h0, e0)] sz) U U.heap ∧ NW U
/-- a constructor's contract -/
def ctN (l : Launch) (y : MethodName) (cc : ByteArray) (maxL fr lo mc ms : Nat) (e0 : va_E) {S : Type} (WO : Nat → S → va_W) (D : va_G) (tys : List (ClassId × FieldType)) (aE : Nat → Nat) : Prop :=
  ∀ h0 sz : Nat, Met l y (Cond.code y cc maxL none :: WLg) { frames := fr, cells := mc, slots := ms, locals := lo } (va_Pc [.ref h0] (preN D tys aE h0 e0 sz)) (va_Qv (fun _ : S => True) (fun u t => va_P D vwCl (WO h0 u) t.heap ∧ va_D (va_A [(h0, e0)] sz) (WO h0 u)) (va_A [(h0, e0)] sz)) mc ms (va_A [(h0, e0)] sz)
def yokI (y : MethodName) (cc : ByteArray) (maxL : Nat) : Prop := Cond.code y cc maxL none ∈ WLg ∧ Cond.instanceMethod y ∈ WLg ∧ Cond.initialized y.cls ∈ WLg ∧ y.name = "<init>" ∧ (y.cls ≠ "java/lang/invoke/MethodHandle" ∧ y.cls ≠ "java/lang/invoke/VarHandle" ∧ (parseMethodDescriptor y.desc).map (fun d => d.parameters.length) = some 0)
theorem preN_blind {D : va_G} {tys : List (ClassId × FieldType)} {aE : Nat → Nat} {h0 : Nat} {e0 : va_E} {sz : Nat} {As : List Value} : FrameBlind (va_Pc As (preN D tys aE h0 e0 sz)) := fun a U fr mk q => by
  obtain ⟨q0, h1, h2, h3, h4, h5⟩ := q
  exact ⟨q0, h1, h2, va_K.moved (u := U) (U := U.calling fr mk a) (Vm.Alike.refl U.vm) h3, EX.moved (U := U) (V := U.calling fr mk a) (H := U.heap) (H1 := U.heap) (Vm.Alike.refl U.vm) (fun _ _ _ => rfl) h4, NW.same (V := U.calling fr mk a) rfl h5⟩
theorem PW_join {D : va_G} {A : Nat → Prop} {X w1 : va_W} {b : Nat} {e0 : va_E} {H H1 : Heap} (hP : PW D A (X ++ [(b, e0)]) H) (hk : ∀ q : Nat, q < H.size → ¬ va_A [(b, e0)] H.size q → H1[q]? = H[q]?) (h1 : va_P D vwCl w1 H1) (d1 : va_D (va_A [(b, e0)] H.size) w1) (hA : ∀ q, H.size ≤ q → A q) : PW D A (X ++ w1) H1 := by
  have inX : ∀ (k : Nat) (q : Nat × va_E), X[k]? = some q → k < X.length ∧ (X ++ [(b, e0)])[k]? = some q := fun k q h => by
    have hk := (List.getElem?_eq_some_iff.mp h).1
    exact ⟨hk, by rw [List.getElem?_append_left hk]; exact h⟩
  have lb : (X ++ [(b, e0)])[X.length]? = some (b, e0) := by rw [List.getElem?_append_right (Nat.le_refl _), Nat.sub_self]; rfl
  have nb : ∀ (k : Nat) (q : Nat × va_E), X[k]? = some q → q.1 ≠ b ∧ q.1 < H.size := fun k q h => by
    obtain ⟨k1, k2⟩ := inX k q h
    refine ⟨fun e => ?_, (hP.1 k q k2).lt⟩
    have := hP.2.1 k X.length q (b, e0) k2 lb e
    omega
  have na : ∀ (k : Nat) (q : Nat × va_E), X[k]? = some q → ¬ va_A [(b, e0)] H.size q.1 := fun k q h => by
    obtain ⟨n1, n2⟩ := nb k q h
    rintro (⟨j, e, hj⟩ | hj)
    · cases j with
      | zero => exact n1 (congrArg Prod.fst (Option.some.inj hj)).symm
      | succ j => cases hj
    · omega
  have a1 : ∀ q, va_A [(b, e0)] H.size q → A q := fun q h => by
    rcases h with ⟨j, e, hj⟩ | hj
    · cases j with
      | zero =>
        have : b = q := congrArg Prod.fst (Option.some.inj hj)
        rw [← this]
        exact hP.2.2 X.length (b, e0) lb
      | succ j => cases hj
    · exact hA q hj
  have hX : va_P D vwCl X H1 := fun k q h => (hP.1 k q (inX k q h).2).kept (hk q.1 (nb k q h).2 (na k q h))
  refine ⟨hX.app h1, fun i j p q hp hq e => ?_, fun k q h => ?_⟩
  · by_cases hi : i < X.length
    · rw [List.getElem?_append_left hi] at hp
      by_cases hj : j < X.length
      · rw [List.getElem?_append_left hj] at hq
        exact hP.2.1 i j p q (inX i p hp).2 (inX j q hq).2 e
      · rw [List.getElem?_append_right (by omega)] at hq
        exact absurd (e ▸ d1.2 _ q hq) (na i p hp)
    · rw [List.getElem?_append_right (by omega)] at hp
      by_cases hj : j < X.length
      · rw [List.getElem?_append_left hj] at hq
        exact absurd (e.symm ▸ d1.2 _ p hp) (na j q hq)
      · rw [List.getElem?_append_right (by omega)] at hq
        have := d1.1 _ _ p q hp hq e
        omega
  · by_cases hi : k < X.length
    · rw [List.getElem?_append_left hi] at h
      exact hP.2.2 k q (inX k q h).2
    · rw [List.getElem?_append_right (by omega)] at h
      exact a1 _ (d1.2 _ q h)
section NWX
variable {p : Program} {l : Launch} {e : Env} {R : Room} {s : State} {m : MethodId} {args : Array Value} {below : List Frame} {meth : Method} {c : Code} {cc : ByteArray} {nL : Nat} {own : String} {A : Nat → Prop} {kc ks : Nat} {Q : State → Prop} {pc : Nat} {lv : List (Nat × Value)} {st : List Value} {D : va_G} {tys : List (ClassId × FieldType)} {ws : va_W} {aE : Nat → Nat}
theorem n_obj (C0 : jb p s m args c cc nL own) {PH : Heap → Prop} {a idx : Nat} (hw : Cond.methodLink own idx objectInit ∈ WLg) (hR : 1 ≤ R.frames ∧ (st.map fun v => v.category).sum + 12 ≤ R.locals) (hd : decode cc pc = .ok (.invokespecial idx, 3)) (kk : jl p l e R s m args below meth c A kc ks nL Q PH (pc + 3) lv st) : jl p l e R s m args below meth c A kc ks nL Q PH pc lv (.ref a :: st) := fun H locs ls hP hS hl => by
  refine W.objInit C0.1 C0.2.1 C0.2.2.2.1 (C0.2.2.2.2 _ hw) (C0.2.2.2.2 _ w_24) (C0.2.2.2.2 _ w_25) rfl (by rw [C0.2.2.1]; exact hl.1) rfl hd hR.1 (by show 2 * 0 + _ + 12 ≤ R.locals; omega) ?_
  exact kk H locs ls hP hS hl
theorem n_newi (C0 : jb p s m args c cc nL own) (hK : va_K D vwCl tys s) (hA : ∀ q, s.heap.size ≤ q → A q) (t0 : Nat) {I : ClassId} (ht : tys[t0]? = some (I, .int)) {n : Int32} {N : Nat} (hn : ¬ n < 0) (hN : n.toNatClampNeg = N) (hb : N * 4 ≤ 536870912) (hc : kc + 1 ≤ R.cells ∧ ks + N ≤ R.slots) (hd : decode cc pc = .ok (.newarray .int, 2)) (kk : ∀ q : Nat, jl p l e R s m args below meth c A (kc + 1) (ks + N) nL Q (PW D A (ws ++ [(q, .inl (I, N, .inl (fun _ => 0)))])) (pc + 2) lv (.ref q :: st)) : jl p l e R s m args below meth c A kc ks nL Q (PW D A ws) pc lv (.int n :: st) := fun H locs ls hP hS hl => by
  refine va_newa (atype := .int) C0.1 C0.2.1 (C0.2.2.2.2 _ w_124) (ty := .int) rfl hK hP.1 hP.2 hS hA (a0 := (N, .inl (fun _ => 0))) (fun _ => rfl) hn hN hb hc.1 hc.2 hd (fun q cA H1 hK1 hP1 hD1 hS1 => ?_)
  have e1 : s.vm.findClass ("[" ++ (FieldType.int).toString) = some cA := (hK1.2 tys.length (cA, .int) (by rw [List.getElem?_append_right (Nat.le_refl _), Nat.sub_self]; rfl)).2
  have e2 : s.vm.findClass ("[" ++ (FieldType.int).toString) = some I := (hK.2 t0 (I, .int) ht).2
  have : cA = I := Option.some.inj (e1.symm.trans e2)
  subst this
  exact kk q H1 locs ls ⟨hP1, hD1⟩ hS1 hl
theorem n_newq (C0 : jb p s m args c cc nL own) (hK : va_K D vwCl tys s) (hA : ∀ q, s.heap.size ≤ q → A q) (t0 : Nat) {I : ClassId} {C : String} (hO : va_AO C s) (ht : tys[t0]? = some (I, .object C)) {idx : Nat} (hw : Cond.classLink own idx C ∈ WLg) {n : Int32} {N : Nat} (hn : ¬ n < 0) (hN : n.toNatClampNeg = N) (hb : N * 4 ≤ 536870912) (hc : kc + 1 ≤ R.cells ∧ ks + N ≤ R.slots) (hd : decode cc pc = .ok (.anewarray idx, 3)) (kk : ∀ q : Nat, jl p l e R s m args below meth c A (kc + 1) (ks + N) nL Q (PW D A (ws ++ [(q, .inl (I, N, .inr (.inr (.inr (.inr (fun _ => none))))))])) (pc + 3) lv (.ref q :: st)) : jl p l e R s m args below meth c A kc ks nL Q (PW D A ws) pc lv (.int n :: st) := fun H locs ls hP hS hl => by
  refine va_newq C0.1 C0.2.1 C0.2.2.2.1 (C0.2.2.2.2 _ hw) hO hK hP.1 hP.2 hS hA hn hN hb hc.1 hc.2 hd (fun q cA H1 hK1 hP1 hD1 hS1 => ?_)
  obtain ⟨_, _, _, _, _, e1⟩ := (hK1.2 tys.length (cA, .object C) (by rw [List.getElem?_append_right (Nat.le_refl _), Nat.sub_self]; rfl)).2
  obtain ⟨_, _, _, _, _, e2⟩ := (hK.2 t0 (I, .object C) ht).2
  have : cA = I := Option.some.inj (e1.symm.trans e2)
  subst this
  exact kk q H1 locs ls ⟨hP1, hD1⟩ hS1 hl
theorem n_new (C0 : jb p s m args c cc nL own) (hK : va_K D vwCl tys s) (hA : ∀ q, s.heap.size ≤ q → A q) {C : String} {T : u_T} {N ci idx : Nat} (hin : ∀ w ∈ u_ws C T N, w ∈ WLg) (ty : Nat → FieldType) (hty : ∀ k, k < N → parseFieldDescriptor (T k).2.2.1 = some (ty k)) (hcl : Cond.classLink own idx C ∈ WLg) (hinst : Cond.instantiable C N ∈ WLg) (hini : Cond.initialized C ∈ WLg) (hc0 : vwCl[ci]? = some (C, T, N)) (fs : List Value) (hfs : ∀ j, j < N → defaultValue (ty j) = vp_V fs j) (hc : kc + 1 ≤ R.cells ∧ ks + N ≤ R.slots) (hd : decode cc pc = .ok (.new idx, 3)) (kk : ∀ q : Nat, jl p l e R s m args below meth c A (kc + 1) (ks + N) nL Q (PW D A (ws ++ [(q, .inr (ci, fs))])) (pc + 3) lv (.ref q :: st)) : jl p l e R s m args below meth c A kc ks nL Q (PW D A ws) pc lv st := fun H locs ls hP hS hl => by
  refine va_new C0.1 C0.2.1 C0.2.2.2.2 hin ty hty C0.2.2.2.1 (C0.2.2.2.2 _ hcl) (C0.2.2.2.2 _ hinst) (C0.2.2.2.2 _ hini) hK hP.1 hP.2 hS hA hc0 (fs := fs) hfs hc.1 hc.2 hd (fun q H1 hP1 hD1 hS1 => ?_)
  exact kk q H1 locs ls ⟨hP1, hD1⟩ hS1 hl
theorem n_put (C0 : jb p s m args c cc nL own) (hK : va_K D vwCl tys s) {C : String} {T : u_T} {N ci idx : Nat} (hin : ∀ w ∈ u_ws C T N, w ∈ WLg) (ty0 : Nat → FieldType) (hty : ∀ k, k < N → parseFieldDescriptor (T k).2.2.1 = some (ty0 k)) (hnm : ∀ a, a < N → ∀ b, b < N → a ≠ b → (T a).2.1 ≠ (T b).2.1) (q0 : Nat) {a : Nat} {fs : List Value} (he : ws[q0]? = some (a, .inr (ci, fs))) (hc : vwCl[ci]? = some (C, T, N)) (k : Nat) (hk : k < N) (hl9 : Cond.fieldLink own idx (T k).1 (T k).2.1 (T k).2.2.1 ∈ WLg) (hfin : (T k).2.2.2 = false) {ty : FieldType} {v : Value} (hd9 : parseFieldDescriptor (T k).2.2.1 = some ty) (hn : narrow ty v = v) (hfit : fits ty v = true) (hl8 : k < fs.length) (hd : decode cc pc = .ok (.putfield idx, 3)) (kk : jl p l e R s m args below meth c A kc ks nL Q (PW D A (ws.set q0 (a, .inr (ci, fs.set k v)))) (pc + 3) lv st) : jl p l e R s m args below meth c A kc ks nL Q (PW D A ws) pc lv (v :: .ref a :: st) := fun H locs ls hP hS hl =>
  va_put C0.1 C0.2.1 C0.2.2.2.2 hin ty0 hty hnm C0.2.2.2.1 hK hP.1 hP.2 hS q0 he hc k hk (C0.2.2.2.2 _ hl9) (fun _ h => h) hfin hd9 hn hfit hl8 hd (fun H1 locs1 hP1 hD1 hS1 => kk H1 locs1 ls ⟨hP1, hD1⟩ hS1 hl)
theorem n_putF (C0 : jb p s m args c cc nL own) (hK : va_K D vwCl tys s) (hnm2 : meth.name = "<init>") {C : String} {T : u_T} {N ci idx : Nat} (hin : ∀ w ∈ u_ws C T N, w ∈ WLg) (ty0 : Nat → FieldType) (hty : ∀ k, k < N → parseFieldDescriptor (T k).2.2.1 = some (ty0 k)) (hnm : ∀ a, a < N → ∀ b, b < N → a ≠ b → (T a).2.1 ≠ (T b).2.1) (q0 : Nat) {a : Nat} {fs : List Value} (he : ws[q0]? = some (a, .inr (ci, fs))) (hc : vwCl[ci]? = some (C, T, N)) (k : Nat) (hk : k < N) (hl9 : Cond.fieldLink own idx (T k).1 (T k).2.1 (T k).2.2.1 ∈ WLg) (hfin : (T k).2.2.2 = true) (hdecl : (T k).1 = own) {ty : FieldType} {v : Value} (hd9 : parseFieldDescriptor (T k).2.2.1 = some ty) (hn : narrow ty v = v) (hfit : fits ty v = true) (hl8 : k < fs.length) (hd : decode cc pc = .ok (.putfield idx, 3)) (kk : jl p l e R s m args below meth c A kc ks nL Q (PW D A (ws.set q0 (a, .inr (ci, fs.set k v)))) (pc + 3) lv st) : jl p l e R s m args below meth c A kc ks nL Q (PW D A ws) pc lv (v :: .ref a :: st) := fun H locs ls hP hS hl =>
  va_putF C0.1 C0.2.1 C0.2.2.2.2 hin ty0 hty hnm C0.2.2.2.1 hK hP.1 hP.2 hS q0 he hc k hk (C0.2.2.2.2 _ hl9) (fun _ h => h) hfin hnm2 hdecl hd9 hn hfit hl8 hd (fun H1 locs1 hP1 hD1 hS1 => kk H1 locs1 ls ⟨hP1, hD1⟩ hS1 hl)
theorem n_get (C0 : jb p s m args c cc nL own) (hK : va_K D vwCl tys s) {C : String} {T : u_T} {N ci idx : Nat} (hin : ∀ w ∈ u_ws C T N, w ∈ WLg) (q0 : Nat) {a : Nat} {fs : List Value} (he : ws[q0]? = some (a, .inr (ci, fs))) (hc : vwCl[ci]? = some (C, T, N)) (k : Nat) (hk : k < N) (hl9 : Cond.fieldLink own idx (T k).1 (T k).2.1 (T k).2.2.1 ∈ WLg) {v : Value} (hv : fs[k]? = some v) (hd : decode cc pc = .ok (.getfield idx, 3)) (kk : jl p l e R s m args below meth c A kc ks nL Q (PW D A ws) (pc + 3) lv (v :: st)) : jl p l e R s m args below meth c A kc ks nL Q (PW D A ws) pc lv (.ref a :: st) := fun H locs ls hP hS hl =>
  va_get C0.1 C0.2.1 C0.2.2.2.2 hin C0.2.2.2.1 hK hP.1 q0 he hc k hk (C0.2.2.2.2 _ hl9) (fun _ h => h) hv hd (kk H locs ls hP hS hl)
theorem n_aast (C0 : jb p s m args c cc nL own) (hK : va_K D vwCl tys s) (q0 t0 qk ci : Nat) {cA : ClassId} {r : vw_C} {a n v : Nat} {vs : List Value} {f : Nat → Option Nat} (ha : ws[q0]? = some (a, .inl (cA, n, .inr (.inr (.inr (.inr f)))))) (ht : tys[t0]? = some (cA, .object r.1)) (hv : ws[qk]? = some (v, .inr (ci, vs))) (hc : vwCl[ci]? = some r) {i : Int32} (hin : vp_in i n) (hd : decode cc pc = .ok (.aastore, 1)) (kk : jl p l e R s m args below meth c A kc ks nL Q (PW D A (ws.set q0 (a, .inl (cA, n, .inr (.inr (.inr (.inr (va_up f i.toNatClampNeg (some v))))))))) (pc + 1) lv st) : jl p l e R s m args below meth c A kc ks nL Q (PW D A ws) pc lv (.ref v :: .int i :: .ref a :: st) := fun H locs ls hP hS hl =>
  va_astq C0.1 C0.2.1 hK hP.1 hP.2 hS q0 t0 qk ci ha ht hv hc hin hd (fun H1 locs1 hP1 hD1 hS1 => kk H1 locs1 ls ⟨hP1, hD1⟩ hS1 hl)
theorem n_GUEST (C0 : jb p s m args c cc nL own) {PH : Heap → Prop} (hE : EX aE A s s.heap) {idx : Nat} (hw : Cond.fieldLink own idx "CakesToTheWatched$Kind" "GUEST" "LCakesToTheWatched$Kind;" ∈ WLg) (hd : decode cc pc = .ok (.getstatic idx, 3)) (kk : jl p l e R s m args below meth c A kc ks nL Q PH (pc + 3) lv (.ref (aE 0) :: st)) : jl p l e R s m args below meth c A kc ks nL Q PH pc lv st := fun H locs ls hP hS hl =>
  va_gets C0.1 C0.2.1 (v := .ref (aE 0)) (hE.1.1 0 (by decide)).1 hS C0.2.2.2.1 (C0.2.2.2.2 _ hw) (fun _ h => h) hd (kk H locs ls hP hS hl)
theorem n_ctor (C0 : jb p s m args c cc nL own) (hK : va_K D vwCl tys s) (hA : ∀ q, s.heap.size ≤ q → A q) (hE : EX aE A s s.heap) (hN : NW s) {y : MethodName} {cY : ByteArray} {maxL fr lo mc ms idx : Nat} {e0 : va_E} {S : Type} {WO : Nat → S → va_W} (hM : ctN l y cY maxL fr lo mc ms e0 WO D tys aE) (hy : yokI y cY maxL) (hw : Cond.methodLink own idx y ∈ WLg) (X : va_W) {b : Nat} (hR : fr + 1 ≤ R.frames ∧ 8 + (maxL + 11) + lo ≤ R.locals) (hRc : kc + mc ≤ R.cells ∧ ks + ms ≤ R.slots) (hW : (st.map fun v => v.category).sum ≤ 8) (hd : decode cc pc = .ok (.invokespecial idx, 3)) (kk : ∀ u : S, jl p l e R s m args below meth c A (kc + mc) (ks + ms) nL Q (PW D A (X ++ WO b u)) (pc + 3) lv st) : jl p l e R s m args below meth c A kc ks nL Q (PW D A (X ++ [(b, e0)])) pc lv (.ref b :: st) := by
  intro H locs ls hP hS hl
  have lb : (X ++ [(b, e0)])[X.length]? = some (b, e0) := by rw [List.getElem?_append_right (Nat.le_refl _), Nat.sub_self]; rfl
  have hA2 : ∀ q, H.size ≤ q → A q := fun q h => hA q (Nat.le_trans hS.1 h)
  have a1 : ∀ q, va_A [(b, e0)] H.size q → A q := fun q h => by
    rcases h with ⟨j, e, hj⟩ | hj
    · cases j with
      | zero =>
        have : b = q := congrArg Prod.fst (Option.some.inj hj)
        rw [← this]
        exact hP.2.2 X.length (b, e0) lb
      | succ j => cases hj
    · exact hA2 q hj
  have gI : GoodIn WLg (Cond.code y cY maxL none :: WLg) := fun w h => gWL w (by
    rcases List.mem_cons.mp h with rfl | h
    · exact hy.1
    · exact h)
  have hPb : va_P D vwCl [(b, e0)] H := fun k q h => by
    cases k with
    | zero =>
      have : (b, e0) = q := Option.some.inj h
      rw [← this]
      exact hP.1 X.length (b, e0) lb
    | succ k => cases h
  refine va_callv (va_runI (As := []) (rest := st) ⟨C0.1, C0.2.1, C0.2.2.1, C0.2.2.2.1, C0.2.2.2.2⟩ (hM b H.size) (cwI 0 C0.2.2.2.2 gI rfl rfl rfl (C0.2.2.2.2 _ hy.2.2.1) (C0.2.2.2.2 _ hw) (C0.2.2.2.2 _ hy.2.1) hy.2.2.2.1 hy.2.2.2.2 hR) ⟨preN_blind, fun U hU hW => ⟨rfl, by rw [hU], by rw [hU]; exact hPb, va_K.moved hW.alike hK, by rw [hU]; exact (hE.moved hW.alike hS.2.1).narrow a1, NW.warm hW hN⟩⟩ rfl rfl hl.1 rfl (lv_room hW) hd hRc) hS (fun q _ h => a1 q h) a1 (fun u t H1 locs1 ht hvm hp hb hsz hk hS1 => ?_)
  rw [ht] at hb
  exact kk u H1 locs1 ls (PW_join hP hk hb.1 hb.2 hA2) hS1 hl
theorem n_ctorN (C0 : jb p s m args c cc nL own) (hK : va_K D vwCl tys s) (hA : ∀ q, s.heap.size ≤ q → A q) (hE : EX aE A s s.heap) (hN : NW s) {y : MethodName} {cY : ByteArray} {maxL fr lo mc ms idx : Nat} {e0 : va_E} {S : Type} {WO : Nat → S → va_W} (hM : ctN l y cY maxL fr lo mc ms e0 WO D tys aE) (hy : yokI y cY maxL) (hw : va_Nw (.methodLinkNest own idx y RX5) s) (X : va_W) {b : Nat} (hR : fr + 1 ≤ R.frames ∧ 8 + (maxL + 11) + lo ≤ R.locals) (hRc : kc + mc ≤ R.cells ∧ ks + ms ≤ R.slots) (hW : (st.map fun v => v.category).sum ≤ 8) (hd : decode cc pc = .ok (.invokespecial idx, 3)) (kk : ∀ u : S, jl p l e R s m args below meth c A (kc + mc) (ks + ms) nL Q (PW D A (X ++ WO b u)) (pc + 3) lv st) : jl p l e R s m args below meth c A kc ks nL Q (PW D A (X ++ [(b, e0)])) pc lv (.ref b :: st) := by
  intro H locs ls hP hS hl
  have lb : (X ++ [(b, e0)])[X.length]? = some (b, e0) := by rw [List.getElem?_append_right (Nat.le_refl _), Nat.sub_self]; rfl
  have hA2 : ∀ q, H.size ≤ q → A q := fun q h => hA q (Nat.le_trans hS.1 h)
  have a1 : ∀ q, va_A [(b, e0)] H.size q → A q := fun q h => by
    rcases h with ⟨j, e, hj⟩ | hj
    · cases j with
      | zero =>
        have : b = q := congrArg Prod.fst (Option.some.inj hj)
        rw [← this]
        exact hP.2.2 X.length (b, e0) lb
      | succ j => cases hj
    · exact hA2 q hj
  have gI : GoodIn WLg (Cond.code y cY maxL none :: WLg) := fun w h => gWL w (by
    rcases List.mem_cons.mp h with rfl | h
    · exact hy.1
    · exact h)
  have hPb : va_P D vwCl [(b, e0)] H := fun k q h => by
    cases k with
    | zero =>
      have : (b, e0) = q := Option.some.inj h
      rw [← this]
      exact hP.1 X.length (b, e0) lb
    | succ k => cases h
  refine va_callv (va_runIN (As := []) (rest := st) ⟨C0.1, C0.2.1, C0.2.2.1, C0.2.2.2.1, C0.2.2.2.2⟩ (hM b H.size) ⟨va_cnB 0 C0.2.2.2.2 gI rfl rfl rfl hw (C0.2.2.2.2 _ hy.2.2.1) hy.2.2.2.2 hR, hy.2.2.2.1, C0.2.2.2.2 _ hy.2.1⟩ ⟨preN_blind, fun U hU hW => ⟨rfl, by rw [hU], by rw [hU]; exact hPb, va_K.moved hW.alike hK, by rw [hU]; exact (hE.moved hW.alike hS.2.1).narrow a1, NW.warm hW hN⟩⟩ rfl rfl hl.1 rfl (lv_room hW) hd hRc) hS (fun q _ h => a1 q h) a1 (fun u t H1 locs1 ht hvm hp hb hsz hk hS1 => ?_)
  rw [ht] at hb
  exact kk u H1 locs1 ls (PW_join hP hk hb.1 hb.2 hA2) hS1 hl
theorem n_vret (C0 : jb p s m args c cc nL own) (hr : meth.sig.returnType = none) (hk : meth.locks = false) {S : Type} {WO : Nat → S → va_W} {h0 mc ms : Nat} (u : S) (hw : ws = WO h0 u) (hc : kc ≤ mc ∧ ks ≤ ms) (hd : decode cc pc = .ok (.return_, 1)) : jl p l e R s m args below meth c A kc ks nL (MQ below (va_Qv (fun _ : S => True) (fun u t => va_P D vwCl (WO h0 u) t.heap ∧ va_D A (WO h0 u)) A) args s mc ms A) (PW D A ws) pc lv [] := fun H locs ls hP hS hl => by
  subst hw
  refine W.widen (k := mc) (n := ms) hc.1 hc.2 ?_
  exact W.vret C0.1 C0.2.1 hr (fun t ht hW => ⟨⟨u, rfl, trivial, by show va_P D vwCl (WO h0 u) t.heap ∧ _; rw [ht]; exact hP⟩, hS.F ht⟩) hS.2.2 hd hk
theorem n_eq {w2 : va_W} (h : ws = w2) (kk : jl p l e R s m args below meth c A kc ks nL Q (PW D A w2) pc lv st) : jl p l e R s m args below meth c A kc ks nL Q (PW D A ws) pc lv st := by rw [h]; exact kk
end NWX
/-- a constructor's contract out of its walk -/
theorem ctN_of {l : Launch} {y : MethodName} {cc : ByteArray} {maxL fr lo mc ms : Nat} {e0 : va_E} {S : Type} {WO : Nat → S → va_W} {D : va_G} {tys : List (ClassId × FieldType)} {aE : Nat → Nat} {own : String} (how : y.cls = own) (hin : y.name = "<init>") (hy : plainName y.cls = true) (hlen : 1 ≤ maxL)
    (body : ∀ (h0 : Nat) (A : Nat → Prop) (p : Program) (e : Env) (s : State) (m : MethodId) (args : Array Value) (below : List Frame) (meth : Method) (c : Code), jb p s m args c cc maxL own → va_K D vwCl tys s → EX aE A s s.heap → NW s → (∀ q, s.heap.size ≤ q → A q) → meth.name = "<init>" → meth.sig.returnType = none → meth.locks = false →
      jl p l e { frames := fr, cells := mc, slots := ms, locals := lo } s m args below meth c A 0 0 maxL (MQ below (va_Qv (fun _ : S => True) (fun u t => va_P D vwCl (WO h0 u) t.heap ∧ va_D A (WO h0 u)) A) args s mc ms A) (PW D A [(h0, e0)]) 0 [(0, .ref h0)] []) : ctN l y cc maxL fr lo mc ms e0 WO D tys aE := by
  subst how
  intro h0 sz
  refine Met.ofW (cc := cc) (maxL := maxL) (ret := none) hy rfl ?_
  intro p e s m args below meth c s₁ B hml hv
  obtain ⟨rfl, hsz, hP, hK, hE, hNW⟩ := hv
  have hts := atoms_spec (ws := Cond.code y cc maxL none :: WLg) B.pre
  have hl := lv_entry [.ref h0] (n := maxL) (by show 1 ≤ maxL; exact hlen)
  rw [lg_entry_eq]
  generalize (lg_sl [.ref h0] ++ List.replicate (maxL - (lg_sl [.ref h0]).length) Slot.unset).toArray = ls at hl ⊢
  have hD : va_D (va_A [(h0, e0)] sz) [(h0, e0)] := by
    refine ⟨fun i j p q hi hj _ => ?_, fun k q h => va_A.in h⟩
    have h1 : i < 1 := (List.getElem?_eq_some_iff.mp hi).1
    have h2 : j < 1 := (List.getElem?_eq_some_iff.mp hj).1
    omega
  have hnm : meth.name = "<init>" := (name_of_methodNamed B.named B.method).1.trans hin
  exact body h0 (va_A [(h0, e0)] sz) p e s m [Value.ref h0].toArray below meth c ⟨B.exec, B.bytes, hml, findClass_of_methodNamed B.named, fun w hw => hts w (List.mem_cons_of_mem _ hw)⟩ hK hE hNW (fun q h => Or.inr (by omega)) hnm B.returns B.notSynchronized s.heap [] ls ⟨hP, hD⟩ va_S.rf hl
