section FRQ
variable {cg mg mb m : Mem} {d : Int32}
/-- a place of the text, as the class has it, and as the reference has it -/
def Tx (mg : Mem) (d : Int32) (i : Nat) : Int32 := if (i : Int) < (mg 12 (ix d)).toInt then mg 13 (100 * ix d + i) else -1
def Hx (mg : Mem) (d : Int32) (i : Nat) : Int32 := if (i : Int) < (mg 12 (ix d)).toInt then mg 13 (100 * ix d + i) &&& 255 else -1
def dg (mg : Mem) (d : Int32) (i : Nat) : Int32 := f_X5_isWithin (Tx mg d i) 48 57
def on (mg : Mem) (d : Int32) (i : Nat) : Int32 := Tx mg d i - 48
def tw (mg : Mem) (d : Int32) (i : Nat) : Int32 := 10 * on mg d i + on mg d (i + 1)
def TXd (mg : Mem) (d : Int32) : Prop := vp_in d 8 ∧ (0 ≤ (mg 12 (ix d)).toInt ∧ (mg 12 (ix d)).toInt ≤ 100) ∧ ∀ j : Nat, j < 100 → -128 ≤ (mg 13 (100 * ix d + j)).toInt ∧ (mg 13 (100 * ix d + j)).toInt ≤ 127
theorem and255_all : ∀ j : Fin 256, ((Int32.ofInt ((j : Nat) - 128 : Int)) &&& 255).toInt = if ((j : Nat) : Int) < 128 then ((j : Nat) : Int) + 128 else ((j : Nat) : Int) - 128 := by decide +kernel
theorem and255 {x : Int32} (h0 : -128 ≤ x.toInt) (h1 : x.toInt ≤ 127) : (x &&& 255).toInt = if x.toInt < 0 then x.toInt + 256 else x.toInt := by
  have key := and255_all ⟨(x.toInt + 128).toNat, by omega⟩
  have e : (((x.toInt + 128).toNat : Nat) : Int) = x.toInt + 128 := by omega
  have e2 : Int32.ofInt ((((x.toInt + 128).toNat : Nat) : Int) - 128) = x := by
    rw [e, show x.toInt + 128 - 128 = x.toInt by omega]
    exact Int32.ofInt_toInt x
  have key2 : ((Int32.ofInt ((((x.toInt + 128).toNat : Nat) : Int) - 128)) &&& 255).toInt = if (((x.toInt + 128).toNat : Nat) : Int) < 128 then (((x.toInt + 128).toNat : Nat) : Int) + 128 else (((x.toInt + 128).toNat : Nat) : Int) - 128 := key
  rw [e2, e] at key2
  rw [key2]
  by_cases c : x.toInt < 0
  · rw [if_pos c, if_pos (by omega)]; omega
  · rw [if_neg c, if_neg (by omega)]; omega
theorem hx_iff (h : TXd mg d) (i : Nat) {c : Int32} (c0 : 0 ≤ c.toInt) (c1 : c.toInt < 128) : Hx mg d i = c ↔ Tx mg d i = c := by
  unfold Hx Tx
  by_cases l : (i : Int) < (mg 12 (ix d)).toInt
  · have hl := h.2.1
    rw [if_pos l, if_pos l]
    obtain ⟨b0, b1⟩ := h.2.2 i (by omega)
    have a := and255 b0 b1
    refine ⟨fun q => Int32.toInt_inj.mp ?_, fun q => Int32.toInt_inj.mp ?_⟩
    · rw [q] at a
      split at a <;> omega
    · rw [a, q, if_neg (by omega)]
  · rw [if_neg l, if_neg l]
theorem isIn_1 {x a b : Int32} : ¬ f_X6_isIn x a b = 0 ↔ (a.toInt ≤ x.toInt ∧ x.toInt ≤ b.toInt) := by
  refine ⟨fun h => isIn_in h, fun ⟨h1, h2⟩ => ?_⟩
  unfold f_X6_isIn
  rw [if_neg (fun q => by have := i_lt.mp q; omega), if_neg (fun q => by have := i_lt.mp q; omega)]
  decide
theorem dg_hx (h : TXd mg d) (i : Nat) : (dg mg d i = 0 ∧ f_X6_isIn (Hx mg d i) 48 57 = 0) ∨ (¬ dg mg d i = 0 ∧ ¬ f_X6_isIn (Hx mg d i) 48 57 = 0 ∧ Hx mg d i = Tx mg d i) := by
  have e48 : (48 : Int32).toInt = 48 := rfl
  have e57 : (57 : Int32).toInt = 57 := rfl
  unfold dg
  rw [isWithin_eq]
  by_cases a : f_X6_isIn (Tx mg d i) 48 57 = 0
  · left
    refine ⟨a, ?_⟩
    by_cases b : f_X6_isIn (Hx mg d i) 48 57 = 0
    · exact b
    · have hb := isIn_in b
      have := (hx_iff h i (c := Hx mg d i) (by omega) (by omega)).mp rfl
      rw [this] at a
      exact absurd a b
  · right
    have ha := isIn_in a
    have := (hx_iff h i (c := Tx mg d i) (by omega) (by omega)).mpr rfl
    rw [this]
    exact ⟨a, a, rfl⟩
/-- the reference reads at a place; what isn't its place or its numbers is as in mb -/
def PS (mb m : Mem) (pl : Nat) : Prop := RS mb m ∧ m 0 5 = nI pl
def TM (mg mb : Mem) (d : Int32) : Prop := mb 0 6 = 100 * d ∧ mb 0 7 = mg 12 (ix d) ∧ mb 13 = mg 13
theorem PS_num {pl : Nat} (h : PS mb m pl) {j : Nat} {v : Int32} : PS mb (up m 5 j v) pl := by
  refine ⟨fun k f hk hf => ?_, ?_⟩
  · rw [up_ne (Or.inl hk)]; exact h.1 k f hk hf
  · rw [up_ne (Or.inl (by decide))]; exact h.2
theorem PS_inc {pl : Nat} (h : PS mb m pl) : PS mb (up m 0 5 (m 0 5 + 1)) (pl + 1) := by
  refine ⟨fun k f hk hf => ?_, ?_⟩
  · rw [up_ne (by omega)]; exact h.1 k f hk hf
  · rw [up_eq, h.2, nI_1]
theorem here_Hx (tx : TXd mg d) (tm : TM mg mb d) {pl : Nat} (hp : pl ≤ 200) (h : PS mb m pl) : f_X6_here m = Hx mg d pl := by
  have e6 : m 0 6 = 100 * d := (h.1 0 6 (by decide) (by decide)).trans tm.1
  have e7 : m 0 7 = mg 12 (ix d) := (h.1 0 7 (by decide) (by decide)).trans tm.2.1
  have e13 : m 13 = mg 13 := (funext fun f => h.1 13 f (by decide) (by omega)).trans tm.2.2
  have ep : (nI pl).toInt = pl := nI_toInt (by omega)
  unfold f_X6_here Hx
  rw [e6, e7, e13, h.2]
  by_cases c : (pl : Int) < (mg 12 (ix d)).toInt
  · have hl := tx.2.1
    have : ¬ mg 12 (ix d) ≤ nI pl := fun q => by have := i_le.mp q; omega
    rw [if_pos c, if_neg this, elt_ix tx.1 (vin_of (by omega) (by rw [ep]; omega)), show ix (nI pl) = pl from nI_clamp (by omega)]
  · rw [if_neg c, if_pos (i_le.mpr (by omega))]
theorem add_sub48 (a b : Int32) : 10 * a + b - 48 = 10 * a + (b - 48) := Int32.toBitVec_inj.mp (by
  show (10 * a.toBitVec + b.toBitVec) - 48 = 10 * a.toBitVec + (b.toBitVec - 48)
  rw [BitVec.sub_eq_add_neg, BitVec.sub_eq_add_neg, BitVec.add_assoc])
theorem RN1 (tx : TXd mg d) (tm : TM mg mb d) {pl : Nat} (hp : pl ≤ 150) (h : PS mb m pl) {k : Int32} : (dg mg d pl = 0 ∧ r_X6_readsNumber m k 1 = 0 ∧ PS mb (m_X6_readsNumber m k 1) pl) ∨
    (¬ dg mg d pl = 0 ∧ r_X6_readsNumber m k 1 = 1 ∧ PS mb (m_X6_readsNumber m k 1) (pl + 1) ∧ m_X6_readsNumber m k 1 5 (ix k) = on mg d pl ∧ ∀ j, j ≠ ix k → m_X6_readsNumber m k 1 5 j = m 5 j) := by
  have n10 : ¬ (1 : Int32) ≤ 0 := by decide
  have n11 : (1 : Int32) ≤ 0 + 1 := by decide
  have h1 : PS mb (f_X6_readsNumber_m1 m k 1) pl := PS_num h
  have y := here_Hx tx tm (by omega) h1
  unfold r_X6_readsNumber m_X6_readsNumber f_X6_readsNumber
  rw [f_X6_readsNumber_9, if_neg n10, y]
  rcases dg_hx tx pl with ⟨a, b⟩ | ⟨a, b, c⟩
  · rw [if_pos b]
    exact Or.inl ⟨a, rfl, h1⟩
  · rw [if_neg b, f_X6_readsNumber_9, if_pos n11]
    refine Or.inr ⟨a, rfl, PS_inc (PS_num h1), ?_, fun j hj => ?_⟩
    · show f_X6_readsNumber_m3 m k 1 (f_X6_readsNumber_m1 m k 1) 5 (ix k) = _
      unfold f_X6_readsNumber_m3 f_X6_readsNumber_m2
      rw [up_ne (Or.inl (by decide)), up_eq, y, c]
      unfold f_X6_readsNumber_m1 on
      rw [up_eq, Int32.mul_zero, Int32.zero_add]
    · show f_X6_readsNumber_m3 m k 1 (f_X6_readsNumber_m1 m k 1) 5 j = _
      unfold f_X6_readsNumber_m3 f_X6_readsNumber_m2 f_X6_readsNumber_m1
      rw [up_ne (Or.inl (by decide)), up_ne (Or.inr hj), up_ne (Or.inr hj)]
theorem RN2 (tx : TXd mg d) (tm : TM mg mb d) {pl : Nat} (hp : pl ≤ 150) (h : PS mb m pl) {k : Int32} : (dg mg d pl = 0 ∧ r_X6_readsNumber m k 2 = 0 ∧ PS mb (m_X6_readsNumber m k 2) pl) ∨
    (¬ dg mg d pl = 0 ∧ dg mg d (pl + 1) = 0 ∧ r_X6_readsNumber m k 2 = 0 ∧ PS mb (m_X6_readsNumber m k 2) (pl + 1)) ∨
    (¬ dg mg d pl = 0 ∧ ¬ dg mg d (pl + 1) = 0 ∧ r_X6_readsNumber m k 2 = 1 ∧ PS mb (m_X6_readsNumber m k 2) (pl + 2) ∧ m_X6_readsNumber m k 2 5 (ix k) = tw mg d pl ∧ ∀ j, j ≠ ix k → m_X6_readsNumber m k 2 5 j = m 5 j) := by
  have n10 : ¬ (2 : Int32) ≤ 0 := by decide
  have n11 : ¬ (2 : Int32) ≤ 0 + 1 := by decide
  have n12 : (2 : Int32) ≤ 0 + 1 + 1 := by decide
  have h1 : PS mb (f_X6_readsNumber_m1 m k 2) pl := PS_num h
  have y := here_Hx tx tm (by omega) h1
  have h3 : PS mb (f_X6_readsNumber_m3 m k 2 (f_X6_readsNumber_m1 m k 2)) (pl + 1) := PS_inc (PS_num h1)
  have y3 := here_Hx tx tm (by omega) h3
  unfold r_X6_readsNumber m_X6_readsNumber f_X6_readsNumber
  rw [f_X6_readsNumber_9, if_neg n10, y]
  rcases dg_hx tx pl with ⟨a, b⟩ | ⟨a, b, c⟩
  · rw [if_pos b]
    exact Or.inl ⟨a, rfl, h1⟩
  · rw [if_neg b, f_X6_readsNumber_9, if_neg n11, y3]
    rcases dg_hx tx (pl + 1) with ⟨a3, b3⟩ | ⟨a3, b3, c3⟩
    · rw [if_pos b3]
      exact Or.inr (Or.inl ⟨a, a3, rfl, h3⟩)
    · rw [if_neg b3, f_X6_readsNumber_9, if_pos n12]
      refine Or.inr (Or.inr ⟨a, a3, rfl, PS_inc (PS_num h3), ?_, fun j hj => ?_⟩)
      · show f_X6_readsNumber_m3 m k 2 (f_X6_readsNumber_m3 m k 2 (f_X6_readsNumber_m1 m k 2)) 5 (ix k) = _
        have in1 : f_X6_readsNumber_m3 m k 2 (f_X6_readsNumber_m1 m k 2) 5 (ix k) = on mg d pl := by
          unfold f_X6_readsNumber_m3 f_X6_readsNumber_m2
          rw [up_ne (Or.inl (by decide)), up_eq, y, c]
          unfold f_X6_readsNumber_m1 on
          rw [up_eq, Int32.mul_zero, Int32.zero_add]
        generalize f_X6_readsNumber_m3 m k 2 (f_X6_readsNumber_m1 m k 2) = mm at *
        unfold f_X6_readsNumber_m3 f_X6_readsNumber_m2
        rw [up_ne (Or.inl (by decide)), up_eq, y3, c3, in1]
        unfold tw
        exact add_sub48 _ _
      · show f_X6_readsNumber_m3 m k 2 (f_X6_readsNumber_m3 m k 2 (f_X6_readsNumber_m1 m k 2)) 5 j = _
        unfold f_X6_readsNumber_m3 f_X6_readsNumber_m2 f_X6_readsNumber_m1
        rw [up_ne (Or.inl (by decide)), up_ne (Or.inr hj), up_ne (Or.inl (by decide)), up_ne (Or.inr hj), up_ne (Or.inr hj)]
/-- the numbers of a statement, as read -/
def NUM (mg : Mem) (d : Int32) (pl : Nat) (m : Mem) : Prop :=
  (Tx mg d pl = 99 → m 5 0 = tw mg d (pl + 1)) ∧ (Tx mg d pl = 104 → m 5 0 = on mg d (pl + 1) ∧ m 5 1 = tw mg d (pl + 2)) ∧ (Tx mg d pl = 108 → m 5 0 = on mg d (pl + 1) ∧ m 5 1 = tw mg d (pl + 2)) ∧
  (Tx mg d pl = 112 → m 5 0 = on mg d (pl + 1) ∧ m 5 1 = on mg d (pl + 2) ∧ m 5 2 = tw mg d (pl + 3) ∧ m 5 3 = tw mg d (pl + 5)) ∧ (Tx mg d pl = 116 → m 5 0 = on mg d (pl + 1) ∧ m 5 1 = on mg d (pl + 2))
/-- how many digits behind the letter -/
def DB (mg : Mem) (d : Int32) (pl : Nat) : Nat := ix (f_X5_digitsBehind (Tx mg d pl))
def GL (mg : Mem) (d : Int32) (pl : Nat) : Prop := 0 ≤ f_X5_digitsBehind (Tx mg d pl)
/-- what reading a statement comes to -/
def OUT (mg mb : Mem) (d : Int32) (pl : Nat) (r : Int32) (m : Mem) : Prop :=
  (¬ GL mg d pl ∧ r = 0 ∧ PS mb m pl) ∨
  (GL mg d pl ∧ ((∃ j, 1 ≤ j ∧ j ≤ DB mg d pl ∧ (∀ i, 1 ≤ i → i < j → ¬ dg mg d (pl + i) = 0) ∧ dg mg d (pl + j) = 0 ∧ r = 0 ∧ PS mb m (pl + j)) ∨
    ((∀ i, 1 ≤ i → i ≤ DB mg d pl → ¬ dg mg d (pl + i) = 0) ∧ ((¬ Tx mg d (pl + DB mg d pl + 1) = 59 ∧ r = 0 ∧ PS mb m (pl + DB mg d pl + 1)) ∨ (Tx mg d (pl + DB mg d pl + 1) = 59 ∧ r = 1 ∧ PS mb m (pl + DB mg d pl + 2) ∧ NUM mg d pl m)))))
theorem OUT_j {pl j : Nat} {r : Int32} (g : GL mg d pl) (h1 : 1 ≤ j) (h2 : j ≤ DB mg d pl) (h3 : ∀ i, 1 ≤ i → i < j → ¬ dg mg d (pl + i) = 0) (h4 : dg mg d (pl + j) = 0) (hr : r = 0) (hp : PS mb m (pl + j)) : OUT mg mb d pl r m := Or.inr ⟨g, Or.inl ⟨j, h1, h2, h3, h4, hr, hp⟩⟩
theorem OUT_s {pl D : Nat} {r : Int32} (g : GL mg d pl) (hD : DB mg d pl = D) (h3 : ∀ i, 1 ≤ i → i ≤ D → ¬ dg mg d (pl + i) = 0) (h4 : ¬ Tx mg d (pl + D + 1) = 59) (hr : r = 0) (hp : PS mb m (pl + D + 1)) : OUT mg mb d pl r m := by
  subst hD
  exact Or.inr ⟨g, Or.inr ⟨h3, Or.inl ⟨h4, hr, hp⟩⟩⟩
theorem OUT_k {pl D : Nat} {r : Int32} (g : GL mg d pl) (hD : DB mg d pl = D) (h3 : ∀ i, 1 ≤ i → i ≤ D → ¬ dg mg d (pl + i) = 0) (h4 : Tx mg d (pl + D + 1) = 59) (hr : r = 1) (hp : PS mb m (pl + D + 2)) (hn : NUM mg d pl m) : OUT mg mb d pl r m := by
  subst hD
  exact Or.inr ⟨g, Or.inr ⟨h3, Or.inr ⟨h4, hr, hp, hn⟩⟩⟩

theorem RS_99 (tx : TXd mg d) (tm : TM mg mb d) {pl : Nat} (hp : pl ≤ 100) (h : PS mb m pl) (c : Tx mg d pl = 99) : OUT mg mb d pl (r_X6_readsStatement m) (m_X6_readsStatement m) := by
  have e0 := here_Hx tx tm (by omega) h
  have cl : ∀ c2 : Int32, 0 ≤ c2.toInt → c2.toInt < 128 → (f_X6_here m = c2 ↔ Tx mg d pl = c2) := fun c2 x y => by rw [e0]; exact hx_iff tx pl x y
  have gl : GL mg d pl := by unfold GL; rw [c]; decide
  have db : DB mg d pl = 2 := by unfold DB; rw [c]; decide
  have n1 : ¬ (1 : Int32) = 0 := by decide
  have n01 : ¬ (0 : Int32) = 1 := by decide
  have b0 : PS mb (f_X6_readsStatement_m1 m) (pl + 1) := PS_inc h
  unfold r_X6_readsStatement m_X6_readsStatement f_X6_readsStatement
  rw [if_pos ((cl 99 (by decide) (by decide)).mpr c)]
  rcases RN2 tx tm (k := 0) (by omega) b0 with ⟨z1, r1, b1⟩ | ⟨z1, z2, r1, b1⟩ | ⟨z1, z2, r1, b1, v1, o1⟩
  · rw [r1, if_pos rfl]
    dsimp only
    exact OUT_j gl (j := 1) (by decide) (by rw [db]; decide) (fun i x y => absurd x (by omega)) z1 rfl b1
  · rw [r1, if_pos rfl]
    dsimp only
    exact OUT_j gl (j := 2) (by decide) (by rw [db]; decide) (fun i x y => by
      have w : i = 1 := by omega
      subst w
      exact z1) z2 rfl b1
  · rw [r1, if_neg n1]
    have e9 := here_Hx tx tm (by omega) b1
    rw [e9]
    by_cases s : Tx mg d (pl + 2 + 1) = 59
    · have s2 : Hx mg d (pl + 2 + 1) = 59 := (hx_iff tx _ (by decide) (by decide)).mpr s
      rw [if_pos s2]
      dsimp only
      have pk : PS mb (f_X6_readsStatement_m2 m) (pl + 2 + 1 + 1) := PS_inc b1
      refine OUT_k gl db (fun i x y => by
        have w : i = 1 ∨ i = 2 := by omega
        rcases w with rfl | rfl
        · exact z1
        · exact z2) s rfl pk ?_
      have u : ∀ j, f_X6_readsStatement_m2 m 5 j = (m_X6_readsNumber (f_X6_readsStatement_m1 m) 0 2) 5 j := fun j => up_ne (Or.inl (by decide))
      have i0 : ix (0 : Int32) = 0 := by decide
      have i1 : ix (1 : Int32) = 1 := by decide
      have i2 : ix (2 : Int32) = 2 := by decide
      have i3 : ix (3 : Int32) = 3 := by decide
      rw [i0] at v1 o1
      exact ⟨fun _ => by rw [u, v1], fun q => by rw [c] at q; exact absurd q (by decide), fun q => by rw [c] at q; exact absurd q (by decide), fun q => by rw [c] at q; exact absurd q (by decide), fun q => by rw [c] at q; exact absurd q (by decide)⟩
    · have s2 : ¬ Hx mg d (pl + 2 + 1) = 59 := fun q => s ((hx_iff tx _ (by decide) (by decide)).mp q)
      rw [if_neg s2]
      dsimp only
      exact OUT_s gl db (fun i x y => by
        have w : i = 1 ∨ i = 2 := by omega
        rcases w with rfl | rfl
        · exact z1
        · exact z2) s rfl b1
theorem RS_104 (tx : TXd mg d) (tm : TM mg mb d) {pl : Nat} (hp : pl ≤ 100) (h : PS mb m pl) (c : Tx mg d pl = 104) : OUT mg mb d pl (r_X6_readsStatement m) (m_X6_readsStatement m) := by
  have e0 := here_Hx tx tm (by omega) h
  have cl : ∀ c2 : Int32, 0 ≤ c2.toInt → c2.toInt < 128 → (f_X6_here m = c2 ↔ Tx mg d pl = c2) := fun c2 x y => by rw [e0]; exact hx_iff tx pl x y
  have gl : GL mg d pl := by unfold GL; rw [c]; decide
  have db : DB mg d pl = 3 := by unfold DB; rw [c]; decide
  have n1 : ¬ (1 : Int32) = 0 := by decide
  have n01 : ¬ (0 : Int32) = 1 := by decide
  have b0 : PS mb (f_X6_readsStatement_m1 m) (pl + 1) := PS_inc h
  unfold r_X6_readsStatement m_X6_readsStatement f_X6_readsStatement
  rw [if_neg (fun q => by have := (cl 99 (by decide) (by decide)).mp q; rw [c] at this; exact absurd this (by decide))]
  rw [if_pos ((cl 104 (by decide) (by decide)).mpr c)]
  rcases RN1 tx tm (k := 0) (by omega) b0 with ⟨z1, r1, b1⟩ | ⟨z1, r1, b1, v1, o1⟩
  · rw [r1, if_pos rfl]
    dsimp only
    exact OUT_j gl (j := 1) (by decide) (by rw [db]; decide) (fun i x y => absurd x (by omega)) z1 rfl b1
  · rw [r1, if_neg n1]
    rcases RN2 tx tm (k := 1) (by omega) b1 with ⟨z2, r2, b2⟩ | ⟨z2, z3, r2, b2⟩ | ⟨z2, z3, r2, b2, v2, o2⟩
    · rw [r2, if_pos rfl]
      dsimp only
      exact OUT_j gl (j := 2) (by decide) (by rw [db]; decide) (fun i x y => by
        have w : i = 1 := by omega
        subst w
        exact z1) z2 rfl b2
    · rw [r2, if_pos rfl]
      dsimp only
      exact OUT_j gl (j := 3) (by decide) (by rw [db]; decide) (fun i x y => by
        have w : i = 1 ∨ i = 2 := by omega
        rcases w with rfl | rfl
        · exact z1
        · exact z2) z3 rfl b2
    · rw [r2, if_neg n1]
      have e9 := here_Hx tx tm (by omega) b2
      rw [e9]
      by_cases s : Tx mg d (pl + 3 + 1) = 59
      · have s2 : Hx mg d (pl + 3 + 1) = 59 := (hx_iff tx _ (by decide) (by decide)).mpr s
        rw [if_pos s2]
        dsimp only
        have pk : PS mb (f_X6_readsStatement_m3 m) (pl + 3 + 1 + 1) := PS_inc b2
        refine OUT_k gl db (fun i x y => by
          have w : i = 1 ∨ i = 2 ∨ i = 3 := by omega
          rcases w with rfl | rfl | rfl
          · exact z1
          · exact z2
          · exact z3) s rfl pk ?_
        have u : ∀ j, f_X6_readsStatement_m3 m 5 j = (m_X6_readsNumber (m_X6_readsNumber (f_X6_readsStatement_m1 m) 0 1) 1 2) 5 j := fun j => up_ne (Or.inl (by decide))
        have i0 : ix (0 : Int32) = 0 := by decide
        have i1 : ix (1 : Int32) = 1 := by decide
        have i2 : ix (2 : Int32) = 2 := by decide
        have i3 : ix (3 : Int32) = 3 := by decide
        rw [i0] at v1 o1
        rw [i1] at v2 o2
        exact ⟨fun q => by rw [c] at q; exact absurd q (by decide), fun _ => ⟨by rw [u, o2 _ (by decide), v1], by rw [u, v2]⟩, fun q => by rw [c] at q; exact absurd q (by decide), fun q => by rw [c] at q; exact absurd q (by decide), fun q => by rw [c] at q; exact absurd q (by decide)⟩
      · have s2 : ¬ Hx mg d (pl + 3 + 1) = 59 := fun q => s ((hx_iff tx _ (by decide) (by decide)).mp q)
        rw [if_neg s2]
        dsimp only
        exact OUT_s gl db (fun i x y => by
          have w : i = 1 ∨ i = 2 ∨ i = 3 := by omega
          rcases w with rfl | rfl | rfl
          · exact z1
          · exact z2
          · exact z3) s rfl b2
theorem RS_108 (tx : TXd mg d) (tm : TM mg mb d) {pl : Nat} (hp : pl ≤ 100) (h : PS mb m pl) (c : Tx mg d pl = 108) : OUT mg mb d pl (r_X6_readsStatement m) (m_X6_readsStatement m) := by
  have e0 := here_Hx tx tm (by omega) h
  have cl : ∀ c2 : Int32, 0 ≤ c2.toInt → c2.toInt < 128 → (f_X6_here m = c2 ↔ Tx mg d pl = c2) := fun c2 x y => by rw [e0]; exact hx_iff tx pl x y
  have gl : GL mg d pl := by unfold GL; rw [c]; decide
  have db : DB mg d pl = 3 := by unfold DB; rw [c]; decide
  have n1 : ¬ (1 : Int32) = 0 := by decide
  have n01 : ¬ (0 : Int32) = 1 := by decide
  have b0 : PS mb (f_X6_readsStatement_m1 m) (pl + 1) := PS_inc h
  unfold r_X6_readsStatement m_X6_readsStatement f_X6_readsStatement
  rw [if_neg (fun q => by have := (cl 99 (by decide) (by decide)).mp q; rw [c] at this; exact absurd this (by decide))]
  rw [if_neg (fun q => by have := (cl 104 (by decide) (by decide)).mp q; rw [c] at this; exact absurd this (by decide))]
  rw [if_pos ((cl 108 (by decide) (by decide)).mpr c)]
  rcases RN1 tx tm (k := 0) (by omega) b0 with ⟨z1, r1, b1⟩ | ⟨z1, r1, b1, v1, o1⟩
  · rw [r1, if_pos rfl]
    dsimp only
    exact OUT_j gl (j := 1) (by decide) (by rw [db]; decide) (fun i x y => absurd x (by omega)) z1 rfl b1
  · rw [r1, if_neg n1]
    rcases RN2 tx tm (k := 1) (by omega) b1 with ⟨z2, r2, b2⟩ | ⟨z2, z3, r2, b2⟩ | ⟨z2, z3, r2, b2, v2, o2⟩
    · rw [r2, if_pos rfl]
      dsimp only
      exact OUT_j gl (j := 2) (by decide) (by rw [db]; decide) (fun i x y => by
        have w : i = 1 := by omega
        subst w
        exact z1) z2 rfl b2
    · rw [r2, if_pos rfl]
      dsimp only
      exact OUT_j gl (j := 3) (by decide) (by rw [db]; decide) (fun i x y => by
        have w : i = 1 ∨ i = 2 := by omega
        rcases w with rfl | rfl
        · exact z1
        · exact z2) z3 rfl b2
    · rw [r2, if_neg n1]
      have e9 := here_Hx tx tm (by omega) b2
      rw [e9]
      by_cases s : Tx mg d (pl + 3 + 1) = 59
      · have s2 : Hx mg d (pl + 3 + 1) = 59 := (hx_iff tx _ (by decide) (by decide)).mpr s
        rw [if_pos s2]
        dsimp only
        have pk : PS mb (f_X6_readsStatement_m4 m) (pl + 3 + 1 + 1) := PS_inc b2
        refine OUT_k gl db (fun i x y => by
          have w : i = 1 ∨ i = 2 ∨ i = 3 := by omega
          rcases w with rfl | rfl | rfl
          · exact z1
          · exact z2
          · exact z3) s rfl pk ?_
        have u : ∀ j, f_X6_readsStatement_m4 m 5 j = (m_X6_readsNumber (m_X6_readsNumber (f_X6_readsStatement_m1 m) 0 1) 1 2) 5 j := fun j => up_ne (Or.inl (by decide))
        have i0 : ix (0 : Int32) = 0 := by decide
        have i1 : ix (1 : Int32) = 1 := by decide
        have i2 : ix (2 : Int32) = 2 := by decide
        have i3 : ix (3 : Int32) = 3 := by decide
        rw [i0] at v1 o1
        rw [i1] at v2 o2
        exact ⟨fun q => by rw [c] at q; exact absurd q (by decide), fun q => by rw [c] at q; exact absurd q (by decide), fun _ => ⟨by rw [u, o2 _ (by decide), v1], by rw [u, v2]⟩, fun q => by rw [c] at q; exact absurd q (by decide), fun q => by rw [c] at q; exact absurd q (by decide)⟩
      · have s2 : ¬ Hx mg d (pl + 3 + 1) = 59 := fun q => s ((hx_iff tx _ (by decide) (by decide)).mp q)
        rw [if_neg s2]
        dsimp only
        exact OUT_s gl db (fun i x y => by
          have w : i = 1 ∨ i = 2 ∨ i = 3 := by omega
          rcases w with rfl | rfl | rfl
          · exact z1
          · exact z2
          · exact z3) s rfl b2
theorem RS_112 (tx : TXd mg d) (tm : TM mg mb d) {pl : Nat} (hp : pl ≤ 100) (h : PS mb m pl) (c : Tx mg d pl = 112) : OUT mg mb d pl (r_X6_readsStatement m) (m_X6_readsStatement m) := by
  have e0 := here_Hx tx tm (by omega) h
  have cl : ∀ c2 : Int32, 0 ≤ c2.toInt → c2.toInt < 128 → (f_X6_here m = c2 ↔ Tx mg d pl = c2) := fun c2 x y => by rw [e0]; exact hx_iff tx pl x y
  have gl : GL mg d pl := by unfold GL; rw [c]; decide
  have db : DB mg d pl = 6 := by unfold DB; rw [c]; decide
  have n1 : ¬ (1 : Int32) = 0 := by decide
  have n01 : ¬ (0 : Int32) = 1 := by decide
  have b0 : PS mb (f_X6_readsStatement_m1 m) (pl + 1) := PS_inc h
  unfold r_X6_readsStatement m_X6_readsStatement f_X6_readsStatement
  rw [if_neg (fun q => by have := (cl 99 (by decide) (by decide)).mp q; rw [c] at this; exact absurd this (by decide))]
  rw [if_neg (fun q => by have := (cl 104 (by decide) (by decide)).mp q; rw [c] at this; exact absurd this (by decide))]
  rw [if_neg (fun q => by have := (cl 108 (by decide) (by decide)).mp q; rw [c] at this; exact absurd this (by decide))]
  rw [if_pos ((cl 112 (by decide) (by decide)).mpr c)]
  rcases RN1 tx tm (k := 0) (by omega) b0 with ⟨z1, r1, b1⟩ | ⟨z1, r1, b1, v1, o1⟩
  · rw [r1, if_pos rfl]
    dsimp only
    exact OUT_j gl (j := 1) (by decide) (by rw [db]; decide) (fun i x y => absurd x (by omega)) z1 rfl b1
  · rw [r1, if_neg n1]
    rcases RN1 tx tm (k := 1) (by omega) b1 with ⟨z2, r2, b2⟩ | ⟨z2, r2, b2, v2, o2⟩
    · rw [r2, if_pos rfl]
      dsimp only
      exact OUT_j gl (j := 2) (by decide) (by rw [db]; decide) (fun i x y => by
        have w : i = 1 := by omega
        subst w
        exact z1) z2 rfl b2
    · rw [r2, if_neg n1]
      rcases RN2 tx tm (k := 2) (by omega) b2 with ⟨z3, r3, b3⟩ | ⟨z3, z4, r3, b3⟩ | ⟨z3, z4, r3, b3, v3, o3⟩
      · rw [r3, if_pos rfl]
        dsimp only
        exact OUT_j gl (j := 3) (by decide) (by rw [db]; decide) (fun i x y => by
          have w : i = 1 ∨ i = 2 := by omega
          rcases w with rfl | rfl
          · exact z1
          · exact z2) z3 rfl b3
      · rw [r3, if_pos rfl]
        dsimp only
        exact OUT_j gl (j := 4) (by decide) (by rw [db]; decide) (fun i x y => by
          have w : i = 1 ∨ i = 2 ∨ i = 3 := by omega
          rcases w with rfl | rfl | rfl
          · exact z1
          · exact z2
          · exact z3) z4 rfl b3
      · rw [r3, if_neg n1]
        rcases RN2 tx tm (k := 3) (by omega) b3 with ⟨z5, r4, b4⟩ | ⟨z5, z6, r4, b4⟩ | ⟨z5, z6, r4, b4, v4, o4⟩
        · rw [r4, if_pos rfl]
          dsimp only
          exact OUT_j gl (j := 5) (by decide) (by rw [db]; decide) (fun i x y => by
            have w : i = 1 ∨ i = 2 ∨ i = 3 ∨ i = 4 := by omega
            rcases w with rfl | rfl | rfl | rfl
            · exact z1
            · exact z2
            · exact z3
            · exact z4) z5 rfl b4
        · rw [r4, if_pos rfl]
          dsimp only
          exact OUT_j gl (j := 6) (by decide) (by rw [db]; decide) (fun i x y => by
            have w : i = 1 ∨ i = 2 ∨ i = 3 ∨ i = 4 ∨ i = 5 := by omega
            rcases w with rfl | rfl | rfl | rfl | rfl
            · exact z1
            · exact z2
            · exact z3
            · exact z4
            · exact z5) z6 rfl b4
        · rw [r4, if_neg n1]
          have e9 := here_Hx tx tm (by omega) b4
          rw [e9]
          by_cases s : Tx mg d (pl + 6 + 1) = 59
          · have s2 : Hx mg d (pl + 6 + 1) = 59 := (hx_iff tx _ (by decide) (by decide)).mpr s
            rw [if_pos s2]
            dsimp only
            have pk : PS mb (f_X6_readsStatement_m5 m) (pl + 6 + 1 + 1) := PS_inc b4
            refine OUT_k gl db (fun i x y => by
              have w : i = 1 ∨ i = 2 ∨ i = 3 ∨ i = 4 ∨ i = 5 ∨ i = 6 := by omega
              rcases w with rfl | rfl | rfl | rfl | rfl | rfl
              · exact z1
              · exact z2
              · exact z3
              · exact z4
              · exact z5
              · exact z6) s rfl pk ?_
            have u : ∀ j, f_X6_readsStatement_m5 m 5 j = (m_X6_readsNumber (m_X6_readsNumber (m_X6_readsNumber (m_X6_readsNumber (f_X6_readsStatement_m1 m) 0 1) 1 1) 2 2) 3 2) 5 j := fun j => up_ne (Or.inl (by decide))
            have i0 : ix (0 : Int32) = 0 := by decide
            have i1 : ix (1 : Int32) = 1 := by decide
            have i2 : ix (2 : Int32) = 2 := by decide
            have i3 : ix (3 : Int32) = 3 := by decide
            rw [i0] at v1 o1
            rw [i1] at v2 o2
            rw [i2] at v3 o3
            rw [i3] at v4 o4
            exact ⟨fun q => by rw [c] at q; exact absurd q (by decide), fun q => by rw [c] at q; exact absurd q (by decide), fun q => by rw [c] at q; exact absurd q (by decide), fun _ => ⟨by rw [u, o4 _ (by decide), o3 _ (by decide), o2 _ (by decide), v1], by rw [u, o4 _ (by decide), o3 _ (by decide), v2], by rw [u, o4 _ (by decide), v3], by rw [u, v4]⟩, fun q => by rw [c] at q; exact absurd q (by decide)⟩
          · have s2 : ¬ Hx mg d (pl + 6 + 1) = 59 := fun q => s ((hx_iff tx _ (by decide) (by decide)).mp q)
            rw [if_neg s2]
            dsimp only
            exact OUT_s gl db (fun i x y => by
              have w : i = 1 ∨ i = 2 ∨ i = 3 ∨ i = 4 ∨ i = 5 ∨ i = 6 := by omega
              rcases w with rfl | rfl | rfl | rfl | rfl | rfl
              · exact z1
              · exact z2
              · exact z3
              · exact z4
              · exact z5
              · exact z6) s rfl b4
theorem RS_116 (tx : TXd mg d) (tm : TM mg mb d) {pl : Nat} (hp : pl ≤ 100) (h : PS mb m pl) (c : Tx mg d pl = 116) : OUT mg mb d pl (r_X6_readsStatement m) (m_X6_readsStatement m) := by
  have e0 := here_Hx tx tm (by omega) h
  have cl : ∀ c2 : Int32, 0 ≤ c2.toInt → c2.toInt < 128 → (f_X6_here m = c2 ↔ Tx mg d pl = c2) := fun c2 x y => by rw [e0]; exact hx_iff tx pl x y
  have gl : GL mg d pl := by unfold GL; rw [c]; decide
  have db : DB mg d pl = 2 := by unfold DB; rw [c]; decide
  have n1 : ¬ (1 : Int32) = 0 := by decide
  have n01 : ¬ (0 : Int32) = 1 := by decide
  have b0 : PS mb (f_X6_readsStatement_m1 m) (pl + 1) := PS_inc h
  unfold r_X6_readsStatement m_X6_readsStatement f_X6_readsStatement
  rw [if_neg (fun q => by have := (cl 99 (by decide) (by decide)).mp q; rw [c] at this; exact absurd this (by decide))]
  rw [if_neg (fun q => by have := (cl 104 (by decide) (by decide)).mp q; rw [c] at this; exact absurd this (by decide))]
  rw [if_neg (fun q => by have := (cl 108 (by decide) (by decide)).mp q; rw [c] at this; exact absurd this (by decide))]
  rw [if_neg (fun q => by have := (cl 112 (by decide) (by decide)).mp q; rw [c] at this; exact absurd this (by decide))]
  rw [if_pos ((cl 116 (by decide) (by decide)).mpr c)]
  rcases RN1 tx tm (k := 0) (by omega) b0 with ⟨z1, r1, b1⟩ | ⟨z1, r1, b1, v1, o1⟩
  · rw [r1, if_pos rfl]
    dsimp only
    exact OUT_j gl (j := 1) (by decide) (by rw [db]; decide) (fun i x y => absurd x (by omega)) z1 rfl b1
  · rw [r1, if_neg n1]
    rcases RN1 tx tm (k := 1) (by omega) b1 with ⟨z2, r2, b2⟩ | ⟨z2, r2, b2, v2, o2⟩
    · rw [r2, if_pos rfl]
      dsimp only
      exact OUT_j gl (j := 2) (by decide) (by rw [db]; decide) (fun i x y => by
        have w : i = 1 := by omega
        subst w
        exact z1) z2 rfl b2
    · rw [r2, if_neg n1]
      have e9 := here_Hx tx tm (by omega) b2
      rw [e9]
      by_cases s : Tx mg d (pl + 2 + 1) = 59
      · have s2 : Hx mg d (pl + 2 + 1) = 59 := (hx_iff tx _ (by decide) (by decide)).mpr s
        rw [if_pos s2]
        dsimp only
        have pk : PS mb (f_X6_readsStatement_m6 m) (pl + 2 + 1 + 1) := PS_inc b2
        refine OUT_k gl db (fun i x y => by
          have w : i = 1 ∨ i = 2 := by omega
          rcases w with rfl | rfl
          · exact z1
          · exact z2) s rfl pk ?_
        have u : ∀ j, f_X6_readsStatement_m6 m 5 j = (m_X6_readsNumber (m_X6_readsNumber (f_X6_readsStatement_m1 m) 0 1) 1 1) 5 j := fun j => up_ne (Or.inl (by decide))
        have i0 : ix (0 : Int32) = 0 := by decide
        have i1 : ix (1 : Int32) = 1 := by decide
        have i2 : ix (2 : Int32) = 2 := by decide
        have i3 : ix (3 : Int32) = 3 := by decide
        rw [i0] at v1 o1
        rw [i1] at v2 o2
        exact ⟨fun q => by rw [c] at q; exact absurd q (by decide), fun q => by rw [c] at q; exact absurd q (by decide), fun q => by rw [c] at q; exact absurd q (by decide), fun q => by rw [c] at q; exact absurd q (by decide), fun _ => ⟨by rw [u, o2 _ (by decide), v1], by rw [u, v2]⟩⟩
      · have s2 : ¬ Hx mg d (pl + 2 + 1) = 59 := fun q => s ((hx_iff tx _ (by decide) (by decide)).mp q)
        rw [if_neg s2]
        dsimp only
        exact OUT_s gl db (fun i x y => by
          have w : i = 1 ∨ i = 2 := by omega
          rcases w with rfl | rfl
          · exact z1
          · exact z2) s rfl b2
theorem RS_out (tx : TXd mg d) (tm : TM mg mb d) {pl : Nat} (hp : pl ≤ 100) (h : PS mb m pl) : OUT mg mb d pl (r_X6_readsStatement m) (m_X6_readsStatement m) := by
  by_cases c1 : Tx mg d pl = 99
  · exact RS_99 tx tm hp h c1
  · by_cases c2 : Tx mg d pl = 104
    · exact RS_104 tx tm hp h c2
    · by_cases c3 : Tx mg d pl = 108
      · exact RS_108 tx tm hp h c3
      · by_cases c4 : Tx mg d pl = 112
        · exact RS_112 tx tm hp h c4
        · by_cases c5 : Tx mg d pl = 116
          · exact RS_116 tx tm hp h c5
          · have e0 := here_Hx tx tm (by omega) h
            have cl : ∀ c2 : Int32, 0 ≤ c2.toInt → c2.toInt < 128 → (f_X6_here m = c2 ↔ Tx mg d pl = c2) := fun c2 x y => by rw [e0]; exact hx_iff tx pl x y
            have gl : ¬ GL mg d pl := by
              unfold GL f_X5_digitsBehind
              rw [if_neg c1, if_neg c2, if_neg c3, if_neg c4, if_neg c5]
              decide
            have b0 : PS mb (f_X6_readsStatement_m1 m) (pl + 1) := PS_inc h
            unfold r_X6_readsStatement m_X6_readsStatement f_X6_readsStatement
            rw [if_neg (fun q => c1 ((cl 99 (by decide) (by decide)).mp q)), if_neg (fun q => c2 ((cl 104 (by decide) (by decide)).mp q)), if_neg (fun q => c3 ((cl 108 (by decide) (by decide)).mp q)), if_neg (fun q => c4 ((cl 112 (by decide) (by decide)).mp q)), if_neg (fun q => c5 ((cl 116 (by decide) (by decide)).mp q))]
            refine Or.inl ⟨gl, rfl, fun k f hk hf => ?_, ?_⟩
            · show f_X6_readsStatement_m7 m k f = mb k f
              unfold f_X6_readsStatement_m7
              rw [up_ne (by omega)]
              exact b0.1 k f hk hf
            · show f_X6_readsStatement_m7 m 0 5 = nI pl
              unfold f_X6_readsStatement_m7
              rw [up_eq, b0.2, nI_pred]
end FRQ
