/-- the words of throws that calls don't keep by themselves -/
def exL : List Cond := [.castable "java/lang/UnsupportedOperationException" "java/lang/UnsupportedOperationException", .castable "java/lang/IllegalArgumentException" "java/lang/IllegalArgumentException", .castable "java/lang/IllegalStateException" "java/lang/IllegalStateException", .declares (Bundle.initS "java/lang/RuntimeException"), .declares (Bundle.initS "java/lang/Exception"), .declares (Bundle.initS Bundle.tN)]
def exW (U : State) : Prop := (∀ w ∈ exL, w.before #[] U = true) ∧ va_Nc "java/lang/IllegalArgumentException" "java/lang/UnsupportedOperationException" U ∧ va_Nc "java/lang/IllegalStateException" "java/lang/UnsupportedOperationException" U ∧ va_Nc "java/lang/IllegalStateException" "java/lang/IllegalArgumentException" U
theorem exL_ot : ∀ w ∈ exL, w.onTables = true ∧ w.faceAtom = true := by decide
theorem ot_args {w : Cond} (h : w.onTables = true) {a b : Array Value} {U : State} : w.before a U = w.before b U := Cond.onTables_vm (A := a) (A' := b) (U := U) (U' := U) U.vm w h
theorem ot_vm {w : Cond} (h : w.onTables = true) {a b : Array Value} {U V : State} (e : U.vm = V.vm) : w.before a U = w.before b V := by
  have h1 := Cond.onTables_vm (A := a) (A' := b) (U := U) (U' := V) V.vm w h
  have h2 : U.setVm V.vm = U := by rw [← e]; rfl
  rw [h2] at h1
  exact h1
theorem exW_warm {s U : State} (hA : s.vm.Alike U.vm) (h : exW s) : exW U := ⟨fun w hw => by
  have h1 := Cond.faceAtom_setVm hA w (exL_ot w hw).2 (h.1 w hw)
  exact (ot_vm (a := #[]) (b := #[]) (U := U) (V := s.setVm U.vm) (exL_ot w hw).1 rfl).trans h1, va_Nc.moved hA h.2.1, va_Nc.moved hA h.2.2.1, va_Nc.moved hA h.2.2.2⟩
theorem exW_same {s U : State} (e : U.vm = s.vm) (h : exW s) : exW U := ⟨fun w hw => by
  rw [ot_vm (b := #[]) (exL_ot w hw).1 e]
  exact h.1 w hw, va_Nc.moved (by rw [e]; exact Vm.Alike.refl _) h.2.1, va_Nc.moved (by rw [e]; exact Vm.Alike.refl _) h.2.2.1, va_Nc.moved (by rw [e]; exact Vm.Alike.refl _) h.2.2.2⟩
/-- the texts of the exceptions stand somewhere -/
def exS (U : State) : Prop := ∃ a1 a2 a3 a4 a5 : Nat, vk_R RX1 65 "an expert's failure" a1 U ∧ vk_R RX1 72 "a taster's failure" a2 U ∧ vk_R RX1 77 "a failure" a3 U ∧ vk_R RX5 305 "no such shelf" a4 U ∧ vk_R RX5 312 "no row, or no such place" a5 U ∧ exW U
theorem exS_warm {s U : State} (hW : s.WarmedH U.vm) (h : exS s) : exS U := by
  obtain ⟨a1, a2, a3, a4, a5, h1, h2, h3, h4, h5, h6⟩ := h
  exact ⟨a1, a2, a3, a4, a5, vk_R.warm hW h1, vk_R.warm hW h2, vk_R.warm hW h3, vk_R.warm hW h4, vk_R.warm hW h5, exW_warm hW.alike h6⟩
theorem exS_calling {U : State} {g : JFrame} {mk : MethodId} {a : Array Value} (h : exS U) : exS (U.calling g mk a) := by
  obtain ⟨a1, a2, a3, a4, a5, h1, h2, h3, h4, h5, h6⟩ := h
  exact ⟨a1, a2, a3, a4, a5, vk_R.same rfl h1, vk_R.same rfl h2, vk_R.same rfl h3, vk_R.same rfl h4, vk_R.same rfl h5, exW_same (s := U) (U := U.calling g mk a) rfl h6⟩
def exT (A : Nat → Prop) (U : State) (H : Heap) : Prop := vx_Zq Bundle.tN "UNASSIGNED_STACK" Bundle.steD A U H ∧ vx_Zq Bundle.tN "SUPPRESSED_SENTINEL" Bundle.listD A U H
def enX (z : ZC) : (Nat → Prop) → State → Heap → Prop := fun A U H => enC z A U H ∧ exT A U H
theorem enokX (z : ZC) : enok (enX z) := fun A U V H H1 hA hk h => ⟨enokC z A U V H H1 hA hk h.1, (h.2.1.moved hA).kept hk, (h.2.2.moved hA).kept hk⟩
def preX (z : ZC) (g : Mem) (U : State) : Prop := pre (zD z) (tyC z) 52 (zad z) (celC z) (enX z) (zA z) g U ∧ exS U
theorem preX_blind {z : ZC} {g : Mem} {As : List Value} : FrameBlind (va_Pc As (preX z g)) := fun a U fr mk q => ⟨q.1, (pre_blind (enokX z) a U fr mk ⟨q.1, q.2.1⟩).2, exS_calling q.2.2⟩
/-- a body that may throw -/
theorem ctX_of {l : Launch} {y : MethodName} {cc : ByteArray} {maxL : Nat} {rt : Option FieldType} {fr lo : Nat} {z : ZC} {g : Mem} {As : List Value} {ρ : Type} {Qr : ρ → Array Value → State → Outcome → State → Prop} {XCr : ρ → String → State → State → Prop} {res : ρ} {lv : List (Nat × Value)}
    {own : String} (how : y.cls = own) (hy : plainName y.cls = true) (hlen : (lg_sl As).length ≤ maxL) (hlv : lv_args 0 As = lv)
    (body : ∀ (p : Program) (e : Env) (s : State) (m : MethodId) (args : Array Value) (below : List Frame) (meth : Method) (c : Code), jcC p s m args c cc maxL own z → exS s → exT (zA z) s s.heap → (∀ x ∈ c.exceptionTable.toList, False) → meth.sig.returnType = rt → meth.locks = false →
      jj p l e { frames := fr, cells := 1, slots := 6, locals := lo } s m args below meth c (zA z) (zD z) 52 (zad z) (celC z) maxL (fun r => vx_MQ below (Qr r) (XCr r) args s 1 6 (zA z)) res g 0 lv []) :
    vx_Met l y (Cond.code y cc maxL rt :: WLg) { frames := fr, cells := 1, slots := 6, locals := lo } (va_Pc As (preX z g)) (Qr res) (XCr res) 1 6 (zA z) := by
  subst how
  refine vx_ofW (cc := cc) (maxL := maxL) (ret := rt) hy rfl ?_
  intro p e s m args below meth c s₁ B hml hno hv
  obtain ⟨rfl, ⟨hA, hP, hK, hD, hE, hT⟩, hX⟩ := hv
  have hts := atoms_spec (ws := Cond.code y cc maxL rt :: WLg) B.pre
  have hl := lv_entry As (n := maxL) hlen
  rw [lg_entry_eq]
  generalize (lg_sl As ++ List.replicate (maxL - (lg_sl As).length) Slot.unset).toArray = ls at hl ⊢
  rw [hlv] at hl
  exact body p e s m As.toArray below meth c ⟨B.exec, B.bytes, hml, findClass_of_methodNamed B.named, fun w hw => hts w (List.mem_cons_of_mem _ hw), hK, hD, hE, hA, enokC z⟩ hX hT hno B.returns B.notSynchronized s.heap [] ls hP va_S.rf hl
/-- what a throw leaves: the world as it is -/
def exB (z : ZC) (g : Mem) (P : Prop) (E0 : String) : String → State → State → Prop := vx_X (fun _ : Unit => P) (fun E _ t => E = E0 ∧ va_P (zD z) vwCl (wd 52 (zad z) (celC z) g) t.heap) (zA z)
def exN (r : Int32) : String := if r = 1 then "java/lang/UnsupportedOperationException" else if r = 2 then "java/lang/IllegalArgumentException" else "java/lang/IllegalStateException"
def qXC (z : ZC) (g : Mem) (r : Int32) : Array Value → State → Outcome → State → Prop := va_Qv (fun _ : Unit => r = 0) (fun _ t => va_P (zD z) vwCl (wd 52 (zad z) (celC z) g) t.heap) (zA z)
def exXC (z : ZC) (g : Mem) (r : Int32) : String → State → State → Prop := exB z g (¬ r = 0) (exN r)
def qYC (z : ZC) (g : Mem) (r : Int32 × Int64) : Array Value → State → Outcome → State → Prop := va_Ql (fun v (_ : Unit) => r.1 = 0 ∧ v = r.2) (fun _ t => va_P (zD z) vwCl (wd 52 (zad z) (celC z) g) t.heap) (zA z)
def exYC (z : ZC) (g : Mem) (r : Int32 × Int64) : String → State → State → Prop := exB z g (¬ r.1 = 0) (exN r.1)
theorem l_wide {p : Program} {l : Launch} {e : Env} {R : Room} {s : State} {m : MethodId} {args : Array Value} {below : List Frame} {meth : Method} {c : Code} {H : Heap} {locs : List Loc} {cells slots k n : Nat} {Q : State → Prop} {g : JFrame} (h1 : cells ≤ k) (h2 : slots ≤ n) (kk : W p l e R s m args below meth c H locs k n Q g) : W p l e R s m args below meth c H locs cells slots Q g := fun T hT X => kk T hT (stand_widen X h1 h2)
theorem hat_ot {L : List Cond} (h : (∀ w ∈ L.filter goodWord, w ∈ WLg) ∧ ∀ w ∈ L.filter (fun w => !goodWord w), w ∈ exL) : ∀ w ∈ L, vx_ot w = true := by
  intro w hw
  unfold vx_ot
  by_cases g : goodWord w = true
  · rw [g, Bool.or_true]
  · have g2 : (!goodWord w) = true := by
      cases hgw : goodWord w
      · rfl
      · exact absurd hgw g
    rw [(exL_ot w (h.2 w (List.mem_filter.mpr ⟨hw, g2⟩))).1, Bool.true_or]
section XR
variable {p : Program} {l : Launch} {e : Env} {R : Room} {s : State} {m : MethodId} {args : Array Value} {below : List Frame} {meth : Method} {c : Code} {cc : ByteArray} {nL : Nat} {own : String} {z : ZC} {g : Mem} {pc : Nat} {lv : List (Nat × Value)}
theorem vx_ot_W {w : Cond} (h : w ∈ WLg) : vx_ot w = true := by
  have h2 : goodWord w = true := (List.mem_filter.mp h).2
  unfold vx_ot
  rw [h2, Bool.or_true]
theorem x_vret (C0 : jcC p s m args c cc nL own z) (hr : meth.sig.returnType = none) (hk : meth.locks = false) (hd : decode cc pc = .ok (.return_, 1)) : jj p l e R s m args below meth c (zA z) (zD z) 52 (zad z) (celC z) nL (fun r => vx_MQ below (qXC z g r) (exXC z g r) args s 1 6 (zA z)) (0 : Int32) g pc lv [] :=
  fun H locs ls hP hS hl => l_wide (Nat.zero_le 1) (Nat.zero_le 6) (vx_ret (W.vret C0.1 C0.2.1 hr (fun t ht hW => ⟨⟨(), rfl, rfl, by show va_P _ vwCl (wd 52 (zad z) (celC z) g) t.heap; rw [ht]; exact hP⟩, hS.F ht⟩) hS.2.2 hd hk))
theorem x_lret (C0 : jcC p s m args c cc nL own z) {v : Int64} (hr : meth.sig.returnType = some .long) (hk : meth.locks = false) (hd : decode cc pc = .ok (.lreturn, 1)) : jj p l e R s m args below meth c (zA z) (zD z) 52 (zad z) (celC z) nL (fun r => vx_MQ below (qYC z g r) (exYC z g r) args s 1 6 (zA z)) ((0 : Int32), v) g pc lv [.long v] :=
  fun H locs ls hP hS hl => l_wide (Nat.zero_le 1) (Nat.zero_le 6) (vx_ret (W.lret C0.1 C0.2.1 hr (fun t ht hW => ⟨⟨v, (), rfl, ⟨rfl, rfl⟩, by show va_P _ vwCl (wd 52 (zad z) (celC z) g) t.heap; rw [ht]; exact hP⟩, hS.F ht⟩) hS.2.2 hd hk))
theorem exB_hx {H : Heap} {locs : List Loc} {P : Prop} {E0 : String} (hp : P) (hP : va_P (zD z) vwCl (wd 52 (zad z) (celC z) g) H) (hS : va_S (zA z) s.heap H locs) : ∀ t : State, s.vm.Alike t.vm → H.size ≤ t.heap.size → (∀ q : Nat, q < H.size → t.heap[q]? = H[q]?) → exB z g P E0 E0 s t :=
  fun t _ hsz hq => ⟨(), hp, ⟨rfl, hP.kept (fun k q hk => hq q.1 (vx_lt hP hk))⟩, Nat.le_trans hS.1 hsz, fun q hq1 hA => (hq q (Nat.lt_of_lt_of_le hq1 hS.1)).trans (hS.2.1 q hq1 hA)⟩
theorem x_throwX (C0 : jcC p s m args c cc nL own z) (hfl : l.stackTraces = false) (hE : exT (zA z) s s.heap) (hno : ∀ x ∈ c.exceptionTable.toList, False) (res : Int32) (h0 : ¬ res = 0) {text : String} {names : List String} {ik is ic sa : Nat} (hcls : Bundle.fit (exN res) = true) (hnames : ∀ n ∈ names, Bundle.fit n = true) (hk : Cond.classLink own ik (exN res) ∈ WLg) (hini : Cond.initialized (exN res) ∈ WLg) (hat : (∀ w ∈ (vx_atS own ic (exN res) names).filter goodWord, w ∈ WLg) ∧ ∀ w ∈ (vx_atS own ic (exN res) names).filter (fun w => !goodWord w), w ∈ exL) (hW : exW s) (hstr : vk_R own is text sa s)
    (d0 : decode cc pc = .ok (.new ik, 3)) (d3 : decode cc (pc + 3) = .ok (.dup, 1)) (d4 : decode cc (pc + 4) = .ok (.ldc is, 2)) (d6 : decode cc (pc + 6) = .ok (.invokespecial ic, 3)) (d9 : decode cc (pc + 9) = .ok (.athrow, 1))
    (hR : names.length + 3 < R.frames ∧ 13 * (names.length + 1) + 43 ≤ R.locals ∧ 1 ≤ R.cells ∧ 6 ≤ R.slots) (hlocks : meth.locks = false) : jj p l e R s m args below meth c (zA z) (zD z) 52 (zad z) (celC z) nL (fun r => vx_MQ below (qXC z g r) (exXC z g r) args s 1 6 (zA z)) res g pc lv [] :=
  fun H locs ls hP hS hl => vx_throwS C0.1 C0.2.1 hfl C0.2.2.2.1 hcls hnames (C0.2.2.2.2.1 _ hk) (C0.2.2.2.2.1 _ hini) hstr (vx_hat (fun w hw => C0.2.2.2.2.1 _ (hat.1 w hw)) hat.2 (fun w hw => (ot_args (exL_ot w hw).1).trans (hW.1 w hw))) (fun w hw => (List.mem_cons.mp hw).elim (fun q => vx_ot_W (q ▸ hk)) (fun hw => (List.mem_cons.mp hw).elim (fun q => vx_ot_W (q ▸ hini)) (fun hw => hat_ot hat w hw))) hE.1 hE.2 hS (hl.1.trans C0.2.2.1.symm) d0 d3 d4 d6 d9 (fun x hx => absurd hx (fun q => hno x q)) hR.1 (by simpa using hR.2.1) hR.2.2.1 hR.2.2.2 hlocks (exB_hx (g := g) (P := ¬ res = 0) h0 hP hS) hS.2.2 (Nat.le_refl _) (Nat.le_refl _)
theorem x_throwY (C0 : jcC p s m args c cc nL own z) (hfl : l.stackTraces = false) (hE : exT (zA z) s s.heap) (hno : ∀ x ∈ c.exceptionTable.toList, False) (res : Int32 × Int64) (h0 : ¬ res.1 = 0) {text : String} {names : List String} {ik is ic sa : Nat} (hcls : Bundle.fit (exN res.1) = true) (hnames : ∀ n ∈ names, Bundle.fit n = true) (hk : Cond.classLink own ik (exN res.1) ∈ WLg) (hini : Cond.initialized (exN res.1) ∈ WLg) (hat : (∀ w ∈ (vx_atS own ic (exN res.1) names).filter goodWord, w ∈ WLg) ∧ ∀ w ∈ (vx_atS own ic (exN res.1) names).filter (fun w => !goodWord w), w ∈ exL) (hW : exW s) (hstr : vk_R own is text sa s)
    (d0 : decode cc pc = .ok (.new ik, 3)) (d3 : decode cc (pc + 3) = .ok (.dup, 1)) (d4 : decode cc (pc + 4) = .ok (.ldc is, 2)) (d6 : decode cc (pc + 6) = .ok (.invokespecial ic, 3)) (d9 : decode cc (pc + 9) = .ok (.athrow, 1))
    (hR : names.length + 3 < R.frames ∧ 13 * (names.length + 1) + 43 ≤ R.locals ∧ 1 ≤ R.cells ∧ 6 ≤ R.slots) (hlocks : meth.locks = false) : jj p l e R s m args below meth c (zA z) (zD z) 52 (zad z) (celC z) nL (fun r => vx_MQ below (qYC z g r) (exYC z g r) args s 1 6 (zA z)) res g pc lv [] :=
  fun H locs ls hP hS hl => vx_throwS C0.1 C0.2.1 hfl C0.2.2.2.1 hcls hnames (C0.2.2.2.2.1 _ hk) (C0.2.2.2.2.1 _ hini) hstr (vx_hat (fun w hw => C0.2.2.2.2.1 _ (hat.1 w hw)) hat.2 (fun w hw => (ot_args (exL_ot w hw).1).trans (hW.1 w hw))) (fun w hw => (List.mem_cons.mp hw).elim (fun q => vx_ot_W (q ▸ hk)) (fun hw => (List.mem_cons.mp hw).elim (fun q => vx_ot_W (q ▸ hini)) (fun hw => hat_ot hat w hw))) hE.1 hE.2 hS (hl.1.trans C0.2.2.1.symm) d0 d3 d4 d6 d9 (fun x hx => absurd hx (fun q => hno x q)) hR.1 (by simpa using hR.2.1) hR.2.2.1 hR.2.2.2 hlocks (exB_hx (g := g) (P := ¬ res.1 = 0) h0 hP hS) hS.2.2 (Nat.le_refl _) (Nat.le_refl _)
theorem x_throwWX (C0 : jcC p s m args c cc nL own z) (hfl : l.stackTraces = false) (hE : exT (zA z) s s.heap) (hno : ∀ x ∈ c.exceptionTable.toList, False) (res : Int32) (h0 : ¬ res = 0) {text : String} {names : List String} {ik is ic sa : Nat} (hcls : Bundle.fit (exN res) = true) (hnames : ∀ n ∈ names, Bundle.fit n = true) (hk : Cond.classLink own ik (exN res) ∈ WLg) (hini : Cond.initialized (exN res) ∈ WLg) (hat : (∀ w ∈ (vx_atS own ic (exN res) names).filter goodWord, w ∈ WLg) ∧ ∀ w ∈ (vx_atS own ic (exN res) names).filter (fun w => !goodWord w), w ∈ exL) (hW : exW s) (hstr : vk_R own is text sa s)
    (d0 : decode cc pc = .ok (.new ik, 3)) (d3 : decode cc (pc + 3) = .ok (.dup, 1)) (d4 : decode cc (pc + 4) = .ok (.ldc_w is, 3)) (d6 : decode cc (pc + 7) = .ok (.invokespecial ic, 3)) (d9 : decode cc (pc + 10) = .ok (.athrow, 1))
    (hR : names.length + 3 < R.frames ∧ 13 * (names.length + 1) + 43 ≤ R.locals ∧ 1 ≤ R.cells ∧ 6 ≤ R.slots) (hlocks : meth.locks = false) : jj p l e R s m args below meth c (zA z) (zD z) 52 (zad z) (celC z) nL (fun r => vx_MQ below (qXC z g r) (exXC z g r) args s 1 6 (zA z)) res g pc lv [] :=
  fun H locs ls hP hS hl => vx_throwSW C0.1 C0.2.1 hfl C0.2.2.2.1 hcls hnames (C0.2.2.2.2.1 _ hk) (C0.2.2.2.2.1 _ hini) hstr (vx_hat (fun w hw => C0.2.2.2.2.1 _ (hat.1 w hw)) hat.2 (fun w hw => (ot_args (exL_ot w hw).1).trans (hW.1 w hw))) (fun w hw => (List.mem_cons.mp hw).elim (fun q => vx_ot_W (q ▸ hk)) (fun hw => (List.mem_cons.mp hw).elim (fun q => vx_ot_W (q ▸ hini)) (fun hw => hat_ot hat w hw))) hE.1 hE.2 hS (hl.1.trans C0.2.2.1.symm) d0 d3 d4 d6 d9 (fun x hx => absurd hx (fun q => hno x q)) hR.1 (by simpa using hR.2.1) hR.2.2.1 hR.2.2.2 hlocks (exB_hx (g := g) (P := ¬ res = 0) h0 hP hS) hS.2.2 (Nat.le_refl _) (Nat.le_refl _)
theorem x_throwWY (C0 : jcC p s m args c cc nL own z) (hfl : l.stackTraces = false) (hE : exT (zA z) s s.heap) (hno : ∀ x ∈ c.exceptionTable.toList, False) (res : Int32 × Int64) (h0 : ¬ res.1 = 0) {text : String} {names : List String} {ik is ic sa : Nat} (hcls : Bundle.fit (exN res.1) = true) (hnames : ∀ n ∈ names, Bundle.fit n = true) (hk : Cond.classLink own ik (exN res.1) ∈ WLg) (hini : Cond.initialized (exN res.1) ∈ WLg) (hat : (∀ w ∈ (vx_atS own ic (exN res.1) names).filter goodWord, w ∈ WLg) ∧ ∀ w ∈ (vx_atS own ic (exN res.1) names).filter (fun w => !goodWord w), w ∈ exL) (hW : exW s) (hstr : vk_R own is text sa s)
    (d0 : decode cc pc = .ok (.new ik, 3)) (d3 : decode cc (pc + 3) = .ok (.dup, 1)) (d4 : decode cc (pc + 4) = .ok (.ldc_w is, 3)) (d6 : decode cc (pc + 7) = .ok (.invokespecial ic, 3)) (d9 : decode cc (pc + 10) = .ok (.athrow, 1))
    (hR : names.length + 3 < R.frames ∧ 13 * (names.length + 1) + 43 ≤ R.locals ∧ 1 ≤ R.cells ∧ 6 ≤ R.slots) (hlocks : meth.locks = false) : jj p l e R s m args below meth c (zA z) (zD z) 52 (zad z) (celC z) nL (fun r => vx_MQ below (qYC z g r) (exYC z g r) args s 1 6 (zA z)) res g pc lv [] :=
  fun H locs ls hP hS hl => vx_throwSW C0.1 C0.2.1 hfl C0.2.2.2.1 hcls hnames (C0.2.2.2.2.1 _ hk) (C0.2.2.2.2.1 _ hini) hstr (vx_hat (fun w hw => C0.2.2.2.2.1 _ (hat.1 w hw)) hat.2 (fun w hw => (ot_args (exL_ot w hw).1).trans (hW.1 w hw))) (fun w hw => (List.mem_cons.mp hw).elim (fun q => vx_ot_W (q ▸ hk)) (fun hw => (List.mem_cons.mp hw).elim (fun q => vx_ot_W (q ▸ hini)) (fun hw => hat_ot hat w hw))) hE.1 hE.2 hS (hl.1.trans C0.2.2.1.symm) d0 d3 d4 d6 d9 (fun x hx => absurd hx (fun q => hno x q)) hR.1 (by simpa using hR.2.1) hR.2.2.1 hR.2.2.2 hlocks (exB_hx (g := g) (P := ¬ res.1 = 0) h0 hP hS) hS.2.2 (Nat.le_refl _) (Nat.le_refl _)
end XR
theorem xat_RX1_67 : (∀ w ∈ (vx_atS RX1 67 "java/lang/UnsupportedOperationException" ["java/lang/RuntimeException", "java/lang/Exception"]).filter goodWord, w ∈ WLg) ∧ ∀ w ∈ (vx_atS RX1 67 "java/lang/UnsupportedOperationException" ["java/lang/RuntimeException", "java/lang/Exception"]).filter (fun w => !goodWord w), w ∈ exL := ⟨by decide +kernel, by decide +kernel⟩
theorem xat_RX1_74 : (∀ w ∈ (vx_atS RX1 74 "java/lang/IllegalArgumentException" ["java/lang/RuntimeException", "java/lang/Exception"]).filter goodWord, w ∈ WLg) ∧ ∀ w ∈ (vx_atS RX1 74 "java/lang/IllegalArgumentException" ["java/lang/RuntimeException", "java/lang/Exception"]).filter (fun w => !goodWord w), w ∈ exL := ⟨by decide +kernel, by decide +kernel⟩
theorem xat_RX1_79 : (∀ w ∈ (vx_atS RX1 79 "java/lang/IllegalStateException" ["java/lang/RuntimeException", "java/lang/Exception"]).filter goodWord, w ∈ WLg) ∧ ∀ w ∈ (vx_atS RX1 79 "java/lang/IllegalStateException" ["java/lang/RuntimeException", "java/lang/Exception"]).filter (fun w => !goodWord w), w ∈ exL := ⟨by decide +kernel, by decide +kernel⟩
theorem xat_RX5_307 : (∀ w ∈ (vx_atS RX5 307 "java/lang/IllegalArgumentException" ["java/lang/RuntimeException", "java/lang/Exception"]).filter goodWord, w ∈ WLg) ∧ ∀ w ∈ (vx_atS RX5 307 "java/lang/IllegalArgumentException" ["java/lang/RuntimeException", "java/lang/Exception"]).filter (fun w => !goodWord w), w ∈ exL := ⟨by decide +kernel, by decide +kernel⟩
theorem xat_RX5_314 : (∀ w ∈ (vx_atS RX5 314 "java/lang/IllegalStateException" ["java/lang/RuntimeException", "java/lang/Exception"]).filter goodWord, w ∈ WLg) ∧ ∀ w ∈ (vx_atS RX5 314 "java/lang/IllegalStateException" ["java/lang/RuntimeException", "java/lang/Exception"]).filter (fun w => !goodWord w), w ∈ exL := ⟨by decide +kernel, by decide +kernel⟩
