theorem w_658 : Cond.native arraycopyName ∈ WLg := wAt 699 (by decide +kernel) (by decide +kernel)
section JM
variable {p : Program} {l : Launch} {e : Env} {R : Room} {s : State} {m : MethodId} {args : Array Value} {below : List Frame} {meth : Method} {c : Code} {cc : ByteArray} {nL : Nat} {own : String} {A : Nat → Prop} {D : va_G} {tys : List (ClassId × FieldType)} {n : Nat} {ad : Nat → Nat} {cel : Cel} {EN : (Nat → Prop) → State → Heap → Prop} {ρ : Type} {Qf : ρ → State → Prop} {res : ρ} {g : Mem} {pc : Nat} {lv : List (Nat × Value)} {st : List Value}
theorem gU {own C owner : String} {idx : Nat} {x y : MethodName} {cc : ByteArray} {maxL : Nat} {rt : Option FieldType} (h1 : Cond.methodLink own idx x ∈ WLg) (h2 : Cond.sameMethod x.cls owner x.name x.desc ∈ WLg) (h3 : Cond.selects C x y ∈ WLg) (h4 : Cond.instanceMethod y ∈ WLg) (h5 : Cond.initialized y.cls ∈ WLg) (h6 : Cond.code y cc maxL rt ∈ WLg) : GoodIn WLg (va_wsU own idx C owner x y (Cond.code y cc maxL rt :: WLg)) := by
  intro w h
  have h7 : w ∈ ([.methodLink own idx x, .sameMethod x.cls owner x.name x.desc, .selects C x y, .instanceMethod y, .initialized y.cls] : List Cond) ∨ w = Cond.code y cc maxL rt ∨ w ∈ WLg := by
    rcases List.mem_append.mp h with h | h
    · exact Or.inl h
    · exact Or.inr (List.mem_cons.mp h)
  refine gWL w ?_
  rcases h7 with h7 | rfl | h7
  · simp only [List.mem_cons, List.not_mem_nil, or_false] at h7
    rcases h7 with rfl | rfl | rfl | rfl | rfl
    · exact h1
    · exact h2
    · exact h3
    · exact h4
    · exact h5
  · exact h6
  · exact h7
theorem gSX {own : String} {idx : Nat} {y : MethodName} {cc : ByteArray} {maxL : Nat} {rt : Option FieldType} (h1 : Cond.methodLink own idx y ∈ WLg) (h2 : Cond.static y ∈ WLg) (h3 : Cond.initialized y.cls ∈ WLg) (h6 : Cond.code y cc maxL rt ∈ WLg) : GoodIn WLg (va_wsS own idx y (Cond.code y cc maxL rt :: WLg)) := by
  intro w h
  have h7 : w ∈ ([.methodLink own idx y, .static y, .initialized y.cls] : List Cond) ∨ w = Cond.code y cc maxL rt ∨ w ∈ WLg := by
    rcases List.mem_append.mp h with h | h
    · exact Or.inl h
    · exact Or.inr (List.mem_cons.mp h)
  refine gWL w ?_
  rcases h7 with h7 | rfl | h7
  · simp only [List.mem_cons, List.not_mem_nil, or_false] at h7
    rcases h7 with rfl | rfl | rfl
    · exact h1
    · exact h2
    · exact h3
  · exact h6
  · exact h7
theorem j_callUi (C0 : jc p s m args c cc nL own WLg A D tys n ad cel EN) {x y : MethodName} {owner C : String} {idx maxL fr lo na : Nat} {bytes : ByteArray} {rt : Option FieldType} {As rest : List Value} {g1 : Mem} {b : Nat} {r1 : Int32} (hM : ct l y bytes maxL rt fr lo D tys n ad cel EN A g (.ref b :: As) (qI A D n ad cel (r1, g1))) (hG : GoodIn WLg (va_wsU own idx C owner x y (Cond.code y bytes maxL rt :: WLg))) (hyx : y = ⟨owner, x.name, x.desc⟩) (hdd : owner ≠ "java/lang/invoke/MethodHandle" ∧ owner ≠ "java/lang/invoke/VarHandle" ∧ (parseMethodDescriptor x.desc).map (fun d => d.parameters.length) = some na) (hrecv : ∀ (H : Heap) (locs : List Loc), va_P D vwCl (wd n ad cel g) H → va_S A s.heap H locs → ∃ cell : Cell, H[b]? = some cell ∧ cell.vm.isStatics = false ∧ s.vm.findClass C = some cell.cls) (hR : fr + 1 ≤ R.frames ∧ 8 + (maxL + 11) + lo ≤ R.locals) (hn : As.length = na) (hst : st = As.reverse ++ .ref b :: rest) (hW : (rest.map fun v => v.category).sum ≤ 8) (hd : decode cc pc = .ok (.invokevirtual idx, 3)) (kk : jj p l e R s m args below meth c A D n ad cel nL Qf (res) (g1) (pc + 3) (lv) (.int r1 :: rest)) : jj p l e R s m args below meth c A D n ad cel nL Qf (res) (g) (pc) (lv) (st) := by
  intro H locs ls hP hS hl
  subst hst
  refine va_calli (va_runU (As := As) (rest := rest) ⟨C0.1, C0.2.1, C0.2.2.1, C0.2.2.2.1, C0.2.2.2.2.1⟩ hM (va_cwU na C0.2.2.2.2.1 hG rfl rfl rfl hyx hdd hR) ⟨pre_blind C0.2.2.2.2.2.2.2.2.2, hrecv H locs hP hS, fun U hU hW => ⟨rfl, pre_at C0 hP hS hU hW⟩⟩ rfl hn hl.1 rfl (lv_room hW) hd ⟨Nat.zero_le _, Nat.zero_le _⟩) hS (fun q _ h => h) (fun q h => h) (fun r u t H1 locs1 ht hvm hp hb hsz hk hS1 => ?_)
  have hp : r = r1 := hp
  subst hp
  rw [ht] at hb
  exact kk H1 locs1 ls hb hS1 hl
theorem j_callXi (C0 : jc p s m args c cc nL own WLg A D tys n ad cel EN) {y : MethodName} {idx maxL fr lo na : Nat} {bytes : ByteArray} {rt : Option FieldType} {As rest : List Value} {g1 : Mem} {r1 : Int32} (hM : ct l y bytes maxL rt fr lo D tys n ad cel EN A g As (qI A D n ad cel (r1, g1))) (hG : GoodIn WLg (va_wsS own idx y (Cond.code y bytes maxL rt :: WLg))) (hdd : y.cls ≠ "java/lang/invoke/MethodHandle" ∧ y.cls ≠ "java/lang/invoke/VarHandle" ∧ (parseMethodDescriptor y.desc).map (fun d => d.parameters.length) = some na) (hR : fr + 1 ≤ R.frames ∧ 8 + (maxL + 11) + lo ≤ R.locals) (hn : As.length = na) (hst : st = As.reverse ++ rest) (hW : (rest.map fun v => v.category).sum ≤ 8) (hd : decode cc pc = .ok (.invokestatic idx, 3)) (kk : jj p l e R s m args below meth c A D n ad cel nL Qf (res) (g1) (pc + 3) (lv) (.int r1 :: rest)) : jj p l e R s m args below meth c A D n ad cel nL Qf (res) (g) (pc) (lv) (st) := by
  intro H locs ls hP hS hl
  subst hst
  refine va_calli (va_runS (As := As) (rest := rest) ⟨C0.1, C0.2.1, C0.2.2.1, C0.2.2.2.1, C0.2.2.2.2.1⟩ hM (va_cwS na C0.2.2.2.2.1 hG rfl rfl rfl hdd hR) ⟨pre_blind C0.2.2.2.2.2.2.2.2.2, fun U hU hW => ⟨rfl, pre_at C0 hP hS hU hW⟩⟩ rfl hn hl.1 rfl (lv_room hW) hd ⟨Nat.zero_le _, Nat.zero_le _⟩) hS (fun q _ h => h) (fun q h => h) (fun r u t H1 locs1 ht hvm hp hb hsz hk hS1 => ?_)
  have hp : r = r1 := hp
  subst hp
  rw [ht] at hb
  exact kk H1 locs1 ls hb hS1 hl
theorem j_mmaxl (C0 : jc p s m args c cc nL own WLg A D tys n ad cel EN) {idx : Nat} {x y : Int64} (hw : Cond.methodLink own idx Lib.MathLoose.max_long.x ∈ WLg) (hst : Cond.static Lib.MathLoose.max_long.x ∈ WLg) (hini : Cond.initialized "java/lang/Math" ∈ WLg) (hcd : Cond.code Lib.MathLoose.max_long.x Lib.MathLoose.max_long.code 4 (some .long) ∈ WLg) (hfr : 1 ≤ R.frames) (hlo : (st.map fun v => v.category).sum + 15 ≤ R.locals) (hd : decode cc pc = .ok (.invokestatic idx, 3)) (kk : jj p l e R s m args below meth c A D n ad cel nL Qf (res) (g) (pc + 3) (lv) (.long (if y < x then x else y) :: st)) : jj p l e R s m args below meth c A D n ad cel nL Qf (res) (g) (pc) (lv) (.long y :: .long x :: st) := fun H locs ls hP hS hl => va_mmax_long C0.1 C0.2.1 (C0.2.2.1.trans hl.1.symm) C0.2.2.2.1 (C0.2.2.2.2.1 _ hw) (C0.2.2.2.2.1 _ hst) (C0.2.2.2.2.1 _ hini) (C0.2.2.2.2.1 _ hcd) hfr hlo (Nat.zero_le _) (Nat.zero_le _) hd (kk H locs ls hP hS hl)
theorem j_iushr (C0 : jc p s m args c cc nL own WLg A D tys n ad cel EN) {x y : Int32} (hd : decode cc pc = .ok (.iushr, 1)) (kk : jj p l e R s m args below meth c A D n ad cel nL Qf (res) (g) (pc + 1) (lv) (.int ((x.toUInt32 >>> (y.toUInt32 &&& Int32.toUInt32 31)).toInt32) :: st)) : jj p l e R s m args below meth c A D n ad cel nL Qf (res) (g) (pc) (lv) (.int y :: .int x :: st) := fun H locs ls hP hS hl => lv_iushr C0.1 C0.2.1 hd rfl (kk H locs ls hP hS hl)
theorem j_copyi (C0 : jc p s m args c cc nL own WLg A D tys n ad cel EN) (k0 k1 : Nat) (hk0 : k0 < n) (hk1 : k1 < n) {cA : ClassId} {n0 n1 : Nat} (hc0 : ∀ r : Nat → Int32, cel r k0 = .inl (cA, n0, .inl r)) (hc1 : ∀ r : Nat → Int32, cel r k1 = .inl (cA, n1, .inl r)) (t0 : Nat) (ht : tys[t0]? = some (cA, .int)) {idx : Nat} (hw : Cond.methodLink own idx arraycopyName ∈ WLg) (hnat : Cond.native arraycopyName ∈ WLg) (hsta : Cond.static arraycopyName ∈ WLg) (hini : Cond.initialized "java/lang/System" ∈ WLg) {sp dp q : Int32} (h1 : ¬ sp < 0) (h2 : ¬ dp < 0) (h3 : ¬ q < 0) (h4 : ix sp + ix q ≤ n0) (h5 : ix dp + ix q ≤ n1) (hfr : 1 ≤ R.frames) (hlo : (st.map fun v => v.category).sum + (nativeFrameWords "java/lang/System" "arraycopy" 5 + 11) ≤ R.locals) (hd : decode cc pc = .ok (.invokestatic idx, 3)) (kk : jj p l e R s m args below meth c A D n ad cel nL Qf (res) (upR g k1 (va_cpy (g k0) (g k1) (ix sp) (ix dp) (ix q))) (pc + 3) (lv) (st)) : jj p l e R s m args below meth c A D n ad cel nL Qf (res) (g) (pc) (lv) (.int q :: .int dp :: .ref (ad k1) :: .int sp :: .ref (ad k0) :: st) := fun H locs ls hP hS hl => va_copyi C0.1 C0.2.1 (C0.2.2.1.trans hl.1.symm) C0.2.2.2.1 (C0.2.2.2.2.1 _ hw) (C0.2.2.2.2.1 _ hnat) (C0.2.2.2.2.1 _ hsta) (C0.2.2.2.2.1 _ hini) C0.2.2.2.2.2.1 hP (C0.2.2.2.2.2.2.1 g) hS k0 k1 t0 t0 ((wd_at hk0).trans (by rw [hc0])) ((wd_at hk1).trans (by rw [hc1])) ht ht rfl h1 h2 h3 h4 h5 (fun _ _ => rfl) hfr hlo hd (fun H1 locs1 hP1 _ hS1 => kk H1 locs1 ls (by rw [wd_setR hk1 (hc1 _).symm] at hP1; exact hP1) hS1 hl)
end JM

/-- a counter i that goes up to b and takes b itself -/
def lcE (i b : Int32) (n : Nat) : Prop := 0 ≤ i.toInt ∧ (b.toInt + 1 - i.toInt).toNat < n
theorem lcE_from {i b : Int32} {n : Nat} (h0 : 0 ≤ i.toInt) (h : b.toInt + 1 - i.toInt < n) (hn : 0 < n) : lcE i b n := by
  unfold lcE
  omega
theorem lcE_step {i b : Int32} {n : Nat} (h : lcE i b (n + 1)) (c : ¬ b < i) (hb : b.toInt ≤ 1000) : lcE (i + 1) b n := by
  have c2 : ¬ b.toInt < i.toInt := fun q => c (Int32.lt_iff_toInt_lt.mpr q)
  have h1 : (i + 1).toInt = i.toInt + 1 := inc_toInt (b := 2000) h.1 (by have : (2000 : Int32).toInt = 2000 := rfl; omega)
  have h2 := h.2
  have h3 := h.1
  unfold lcE
  omega
theorem inc2_toInt {i : Int32} (h0 : 0 ≤ i.toInt) (h : i.toInt ≤ 1000) : (i + 2).toInt = i.toInt + 2 := by
  obtain ⟨j, hj, rfl⟩ := nn_of h0
  rw [nI_toInt hj] at h ⊢
  rw [show (2 : Int32) = nI 2 from rfl, nI_add, nI_toInt (by omega)]
  omega
theorem add_toInt {i k : Int32} (h0 : 0 ≤ i.toInt) (h : i.toInt ≤ 100000) (k0 : 0 ≤ k.toInt) (hk : k.toInt ≤ 100000) : (i + k).toInt = i.toInt + k.toInt := by
  obtain ⟨j, hj, rfl⟩ := nn_of h0
  obtain ⟨q, hq, rfl⟩ := nn_of k0
  rw [nI_toInt hj] at h ⊢
  rw [nI_toInt hq] at hk ⊢
  rw [nI_add, nI_toInt (by omega)]
  omega
theorem div_toInt {i k : Int32} (h0 : 0 ≤ i.toInt) (k0 : 0 < k.toInt) : (i / k).toInt = i.toInt / k.toInt := by
  obtain ⟨j, hj, rfl⟩ := nn_of h0
  obtain ⟨q, hq, rfl⟩ := nn_of (Int.le_of_lt k0)
  rw [nI_toInt hq] at k0 ⊢
  rw [nI_toInt hj, pk_div hj (by omega) hq, nI_toInt (Nat.lt_of_le_of_lt (Nat.div_le_self _ _) hj)]
  omega
theorem mod_toInt {i k : Int32} (h0 : 0 ≤ i.toInt) (k0 : 0 < k.toInt) : (i - i / k * k).toInt = i.toInt % k.toInt := by
  obtain ⟨j, hj, rfl⟩ := nn_of h0
  obtain ⟨q, hq, rfl⟩ := nn_of (Int.le_of_lt k0)
  rw [nI_toInt hq] at k0 ⊢
  rw [nI_toInt hj, pk_rem hj (by omega) hq, nI_toInt (Nat.lt_of_le_of_lt (Nat.mod_le _ _) hj)]
  omega
theorem mul_toInt {i k : Int32} (h0 : 0 ≤ i.toInt) (h : i.toInt ≤ 10000) (k0 : 0 ≤ k.toInt) (hk : k.toInt ≤ 10000) : (i * k).toInt = i.toInt * k.toInt := by
  obtain ⟨j, hj, rfl⟩ := nn_of h0
  obtain ⟨q, hq, rfl⟩ := nn_of k0
  rw [nI_toInt hj] at h ⊢
  rw [nI_toInt hq] at hk ⊢
  have h3 : j * q ≤ 10000 * 10000 := Nat.mul_le_mul (by omega) (by omega)
  rw [pk_mul, nI_toInt (by omega)]
  omega
theorem lt0_iff {x : Int32} : x < 0 ↔ x.toInt < 0 := by
  rw [Int32.lt_iff_toInt_lt]
  rfl
theorem le0_iff {x : Int32} : 0 ≤ x ↔ 0 ≤ x.toInt := by
  rw [Int32.le_iff_toInt_le]
  rfl
theorem ne0_of {x : Int32} (h : ¬ x ≤ 0) : ¬ x = 0 := fun q => h (by rw [q]; decide)
theorem vin_of10 {x p l : Int32} (hp : vp_in p 8) (hl : vp_in l 8) (h : x = 10 * p + l) : vp_in (x / 10) 8 ∧ vp_in (x - x / 10 * 10) 8 := by
  have h1 := vp_in_iff.mp hp
  have h2 := vp_in_iff.mp hl
  have e10 : (10 : Int32).toInt = 10 := rfl
  have h3 : (10 * p).toInt = 10 * p.toInt := by rw [mul_toInt (by omega) (by omega) (by omega) (by omega), e10]
  have h4 : x.toInt = 10 * p.toInt + l.toInt := by rw [h, add_toInt (by omega) (by omega) (by omega) (by omega), h3]
  refine ⟨vp_in_iff.mpr ?_, vp_in_iff.mpr ?_⟩
  · rw [div_toInt (by omega) (by omega), e10]; omega
  · rw [mod_toInt (by omega) (by omega), e10]; omega
theorem bestTurn_inL {g : Mem} (hI : In g) {t : Nat} (ht : t < 3) : ∀ (n : Nat) (a1 a2 a3 : Int32), lc a3 (g (40 + t) 1) n → (a1 < 0 ∨ ∃ p l : Int32, vp_in p 8 ∧ vp_in l 8 ∧ a1 = 10 * p + l) → (f_X0_bestTurn_7 g t n a1 a2 a3 < 0 ∨ ∃ p l : Int32, vp_in p 8 ∧ vp_in l 8 ∧ f_X0_bestTurn_7 g t n a1 a2 a3 = 10 * p + l) := by
  intro n
  induction n with
  | zero => intro a1 a2 a3 hL h; exact absurd hL.2 (Nat.not_lt_zero _)
  | succ n ih =>
    intro a1 a2 a3 hL h
    rw [f_X0_bestTurn_7]
    split
    · exact h
    · have c := by assumption
      split
      · exact ih _ _ _ (lc_stepN hL c) h
      · split
        · exact ih _ _ _ (lc_stepN hL c) h
        · exact ih _ _ _ (lc_stepN hL c) (Or.inr ⟨a3, _, vin_lc hL c (In_sz hI ht), bestLookerAt_in hI ht (by assumption), rfl⟩)
theorem bestTurn_in {g : Mem} (hI : In g) {t : Nat} (ht : t < 3) {x : Int32} (hx : x = f_X0_bestTurn g t) (c : ¬ x < 0) : vp_in (x / 10) 8 ∧ vp_in (x - x / 10 * 10) 8 := by
  have h := bestTurn_inL hI ht 9 (-4) (-1) 0 (lc_0 (by have := In_sz hI ht; omega) (by decide)) (Or.inl (by decide))
  rw [hx] at c
  obtain ⟨p, l, hp, hl, h⟩ := h.resolve_left c
  exact vin_of10 hp hl (hx.trans h)
/-- all but the trial is as it was -/
def nx (k : Nat) : Prop := ¬ (16 ≤ k ∧ k < 24) ∧ k ≠ 42
def NX (g g2 : Mem) : Prop := ∀ k f : Nat, nx k → g2 k f = g k f
theorem NX.rf {g : Mem} : NX g g := fun _ _ _ => rfl
theorem NX.tr {g g2 g3 : Mem} (h : NX g g2) (h2 : NX g2 g3) : NX g g3 := fun k f q => (h2 k f q).trans (h k f q)
theorem NX_up {g g2 : Mem} (h : NX g g2) {k f : Nat} {v : Int32} (hk : (16 ≤ k ∧ k < 24) ∨ k = 42) : NX g (up g2 k f v) := fun j q hj => by
  rw [up_ne (Or.inl (by rintro rfl; unfold nx at hj; omega))]
  exact h j q hj
theorem nx_40 : nx 40 := by unfold nx; omega
theorem nx_sh {d : Nat} (hd : d < 8) : nx (24 + d) := by unfold nx; omega
theorem nx_sc {d : Nat} (hd : d < 8) : nx (32 + d) := by unfold nx; omega
theorem NX_turn {g : Mem} {p0 p1 : Int32} (h0 : vp_in p0 8) (h1 : vp_in p1 8) : NX g (m_X0_turn g 2 p0 p1) := by
  have k0 := vin_lt h0
  have k1 := vin_lt h1
  exact NX_up (NX_up (NX_up (NX_up (NX_up (NX_up NX.rf (by omega)) (by omega)) (by omega)) (by omega)) (by omega)) (by omega)
theorem NX_becomesP {g : Mem} {k k2 : Nat} (hk : 16 ≤ k ∧ k < 24) : NX g (f_X3_becomes g k k2) := fun j q hj => becomesP_hi (by rintro rfl; unfold nx at hj; omega)
theorem NX_becomesL {g : Mem} (hI : In g) {t2 : Nat} (ht2 : t2 < 2) : ∀ (n : Nat) (a2 : Int32) (g2 : Mem), NX g g2 → lc a2 (g (40 + t2) 1) n → NX g (f_X0_becomes_2 g 2 t2 n a2 g2) := by
  intro n
  induction n with
  | zero => intro a2 g2 h hL; exact absurd hL.2 (Nat.not_lt_zero _)
  | succ n ih =>
    intro a2 g2 h hL
    have hs : g2 (40 + t2) 1 = g (40 + t2) 1 := h _ _ (by unfold nx; omega)
    rw [f_X0_becomes_2]
    split
    · exact NX_up (NX_up (NX_up h (by omega)) (by omega)) (by omega)
    · have c := by assumption
      have hv : vp_in a2 8 := vin_lc hL (hs ▸ c) (In_sz hI (by omega))
      have := vin_lt hv
      exact ih _ _ (h.tr (NX_becomesP (by omega))) (lc_stepN hL (hs ▸ c))
theorem NX_becomes {g : Mem} (hI : In g) : NX g (f_X0_becomes g 2 0) := NX_becomesL hI (by decide) 9 0 g NX.rf (lc_0 (by have := In_sz hI lt3_0; omega) (by decide))
theorem NX_takeIn {g : Mem} (hI : In g) {w p1 p2 p3 : Int32} : NX g (m_X0_takeIn g 2 w p1 p2 p3) := by
  unfold m_X0_takeIn f_X0_takeIn
  split
  · have hvs : vp_in (g (40 + 2) 1) 8 := vin_of (In_sz0 hI lt3_2) (by have h1 := Int32.lt_iff_toInt_lt.mp (by assumption); have h8 : (8 : Int32).toInt = 8 := rfl; omega)
    have k0 := vin_lt hvs
    refine NX_up (NX_up (NX_up (fun j q hj => comeAs_hi ?_) (by omega)) (by omega)) (by omega)
    rintro rfl
    unfold nx at hj
    omega
  · exact NX.rf

