section PM
def cnd (j v : Int) : Int := if j < 0 then -100000 else j + v
/-- the most joys of pairs of a list, with so many slices -/
def PV (J : Nat → Nat → Int) : Nat → Nat → List Nat → Int
  | 0, _, _ => 0
  | _ + 1, _, [] => 0
  | k + 1, 0, _ :: R => PV J k 0 R
  | k + 1, l + 1, p :: R => (R.map (fun q => cnd (J p q) (PV J k l (R.erase q))) ++ R.map (fun q => cnd (J q p) (PV J k l (R.erase q)))).foldl max (PV J k (l + 1) R)
/-- by whom each is watched in the first such pairs -/
def PX (J : Nat → Nat → Int) : Nat → Nat → List Nat → (Nat → Int32) → Nat → Int32
  | 0, _, _, w => w
  | _ + 1, _, [], w => w
  | k + 1, 0, _ :: R, w => PX J k 0 R w
  | k + 1, l + 1, p :: R, w => match R.find? (fun q => decide (cnd (J p q) (PV J k l (R.erase q)) = PV J (k + 1) (l + 1) (p :: R))) with
    | some q => PX J k l (R.erase q) (upd w p (nI q))
    | none => match R.find? (fun q => decide (cnd (J q p) (PV J k l (R.erase q)) = PV J (k + 1) (l + 1) (p :: R))) with
      | some q => PX J k l (R.erase q) (upd w q (nI p))
      | none => PX J k (l + 1) R w
theorem fm_le (z : Int) : ∀ (L : List Int) (b : Int), L.foldl max b ≤ z ↔ b ≤ z ∧ ∀ y, y ∈ L → y ≤ z := by
  intro L
  induction L with
  | nil => intro b; exact ⟨fun h => ⟨h, fun y hy => absurd hy List.not_mem_nil⟩, fun h => h.1⟩
  | cons x L ih =>
    intro b
    rw [List.foldl_cons, ih]
    refine ⟨fun ⟨h1, h2⟩ => ⟨by omega, fun y hy => ?_⟩, fun ⟨h1, h2⟩ => ⟨?_, fun y hy => h2 y (List.mem_cons_of_mem _ hy)⟩⟩
    · rcases List.mem_cons.mp hy with rfl | hy
      · omega
      · exact h2 y hy
    · have := h2 x List.mem_cons_self
      omega
theorem fm_mem : ∀ (L : List Int) (b : Int), L.foldl max b = b ∨ L.foldl max b ∈ L := by
  intro L
  induction L with
  | nil => intro b; exact Or.inl rfl
  | cons x L ih =>
    intro b
    rw [List.foldl_cons]
    rcases ih (max b x) with h | h
    · by_cases c : b ≤ x
      · have e : max b x = x := by omega
        rw [e] at h ⊢
        rw [h]
        exact Or.inr List.mem_cons_self
      · have e : max b x = b := by omega
        rw [e] at h ⊢
        exact Or.inl h
    · exact Or.inr (List.mem_cons_of_mem _ h)
theorem fm_ge (L : List Int) (b : Int) : b ≤ L.foldl max b ∧ ∀ y, y ∈ L → y ≤ L.foldl max b := (fm_le _ L b).mp (Int.le_refl _)
/-- two lists with the same numbers have the same most -/
theorem fm_eq {L M : List Int} {b : Int} (h : ∀ y, y ∈ L ↔ y ∈ M) : L.foldl max b = M.foldl max b := by
  refine Int.le_antisymm ((fm_le _ _ _).mpr ⟨(fm_ge M b).1, fun y hy => (fm_ge M b).2 y ((h y).mp hy)⟩) ((fm_le _ _ _).mpr ⟨(fm_ge L b).1, fun y hy => (fm_ge L b).2 y ((h y).mpr hy)⟩)
variable {J : Nat → Nat → Int}
theorem PV_nil (k l : Nat) : PV J k l [] = 0 := by
  cases k with
  | zero => rfl
  | succ k => cases l <;> rfl
theorem PX_nil (k l : Nat) (w : Nat → Int32) : PX J k l [] w = w := by
  cases k with
  | zero => rfl
  | succ k => cases l <;> rfl
theorem PV_0 : ∀ (k : Nat) (L : List Nat), PV J k 0 L = 0 := by
  intro k
  induction k with
  | zero => intro L; rfl
  | succ k ih =>
    intro L
    cases L with
    | nil => rfl
    | cons p R => rw [PV]; exact ih R
theorem PX_0 : ∀ (k : Nat) (L : List Nat) (w : Nat → Int32), PX J k 0 L w = w := by
  intro k
  induction k with
  | zero => intro L w; rfl
  | succ k ih =>
    intro L w
    cases L with
    | nil => rfl
    | cons p R => rw [PX]; exact ih R w
theorem PV_nn : ∀ (k l : Nat) (L : List Nat), 0 ≤ PV J k l L := by
  intro k
  induction k with
  | zero => intro l L; exact Int.le_refl _
  | succ k ih =>
    intro l L
    cases L with
    | nil => rw [PV_nil]; exact Int.le_refl _
    | cons p R =>
      cases l with
      | zero => rw [PV]; exact ih 0 R
      | succ l =>
        rw [PV]
        exact Int.le_trans (ih (l + 1) R) (fm_ge _ _).1
theorem PV_ub : ∀ (k l : Nat) (L : List Nat), (∀ p q, p ∈ L → q ∈ L → J p q ≤ 19) → PV J k l L ≤ 19 * L.length := by
  intro k
  induction k with
  | zero => intro l L _; rw [PV]; omega
  | succ k ih =>
    intro l L hJ
    cases L with
    | nil => rw [PV_nil]; exact Int.le_refl _
    | cons p R =>
      have hl : (p :: R).length = R.length + 1 := rfl
      have hR : ∀ a b, a ∈ R → b ∈ R → J a b ≤ 19 := fun a b ha hb => hJ a b (List.mem_cons_of_mem _ ha) (List.mem_cons_of_mem _ hb)
      cases l with
      | zero => rw [PV]; have := ih 0 R hR; omega
      | succ l =>
        rw [PV]
        have c : ∀ j q, j ≤ 19 → cnd j (PV J k l (R.erase q)) ≤ 19 * (R.length + 1 : Nat) := fun j q hj => by
          unfold cnd
          have := ih l (R.erase q) (fun a b ha hb => hR a b (List.mem_of_mem_erase ha) (List.mem_of_mem_erase hb))
          have l2 := List.length_erase_le (a := q) (l := R)
          split <;> omega
        refine (fm_le _ _ _).mpr ⟨by have := ih (l + 1) R hR; omega, fun y hy => ?_⟩
        rcases List.mem_append.mp hy with h | h
        · obtain ⟨q, hq, rfl⟩ := List.mem_map.mp h
          exact c _ _ (hJ _ _ List.mem_cons_self (List.mem_cons_of_mem _ hq))
        · obtain ⟨q, hq, rfl⟩ := List.mem_map.mp h
          exact c _ _ (hJ _ _ (List.mem_cons_of_mem _ hq) List.mem_cons_self)
theorem PV_k : ∀ (k k2 l : Nat) (L : List Nat), L.length ≤ k → L.length ≤ k2 → PV J k l L = PV J k2 l L := by
  intro k
  induction k with
  | zero =>
    intro k2 l L h1 _
    have : L = [] := List.eq_nil_of_length_eq_zero (by omega)
    rw [this, PV_nil, PV_nil]
  | succ k ih =>
    intro k2 l L h1 h2
    cases L with
    | nil => rw [PV_nil, PV_nil]
    | cons p R =>
      have hl : (p :: R).length = R.length + 1 := rfl
      cases k2 with
      | zero => omega
      | succ k2 =>
        cases l with
        | zero => rw [PV, PV]; exact ih k2 0 R (by omega) (by omega)
        | succ l =>
          have e : ∀ q, PV J k l (R.erase q) = PV J k2 l (R.erase q) := fun q => by
            have l2 := List.length_erase_le (a := q) (l := R)
            exact ih k2 l _ (by omega) (by omega)
          rw [PV, PV, ih k2 (l + 1) R (by omega) (by omega)]
          simp only [e]
theorem PX_k : ∀ (k k2 l : Nat) (L : List Nat) (w : Nat → Int32), L.length ≤ k → L.length ≤ k2 → PX J k l L w = PX J k2 l L w := by
  intro k
  induction k with
  | zero =>
    intro k2 l L w h1 _
    have : L = [] := List.eq_nil_of_length_eq_zero (by omega)
    rw [this, PX_nil, PX_nil]
  | succ k ih =>
    intro k2 l L w h1 h2
    cases L with
    | nil => rw [PX_nil, PX_nil]
    | cons p R =>
      have hl : (p :: R).length = R.length + 1 := rfl
      cases k2 with
      | zero => omega
      | succ k2 =>
        cases l with
        | zero => rw [PX, PX]; exact ih k2 0 R w (by omega) (by omega)
        | succ l =>
          have l2 : ∀ q, (R.erase q).length ≤ R.length := fun q => List.length_erase_le
          have e : ∀ q, PV J k l (R.erase q) = PV J k2 l (R.erase q) := fun q => PV_k k k2 l _ (by have := l2 q; omega) (by have := l2 q; omega)
          have e2 : ∀ q v, PX J k l (R.erase q) v = PX J k2 l (R.erase q) v := fun q v => ih k2 l _ v (by have := l2 q; omega) (by have := l2 q; omega)
          have e3 := PV_k (J := J) (k + 1) (k2 + 1) (l + 1) (p :: R) (by omega) (by omega)
          rw [PX, PX]
          simp only [e, e2, e3, ih k2 (l + 1) R w (by omega) (by omega)]
theorem erase_len {R : List Nat} {q : Nat} (h : q ∈ R) : (R.erase q).length + 1 = R.length := by
  rw [List.length_erase_of_mem h]
  have := List.length_pos_of_mem h
  omega
theorem PV_sat : ∀ (k l l2 : Nat) (L : List Nat), (l = l2 ∨ (L.length ≤ 2 * l + 1 ∧ L.length ≤ 2 * l2 + 1)) → PV J k l L = PV J k l2 L := by
  intro k
  induction k with
  | zero => intro l l2 L _; rfl
  | succ k ih =>
    intro l l2 L h
    cases L with
    | nil => rw [PV_nil, PV_nil]
    | cons p R =>
      have hl : (p :: R).length = R.length + 1 := rfl
      rcases h with rfl | ⟨h1, h2⟩
      · rfl
      · have em : l = 0 ∨ l2 = 0 → R = [] := fun z => List.eq_nil_of_length_eq_zero (by omega)
        cases l with
        | zero =>
          rw [em (Or.inl rfl), PV_0]
          cases l2 with
          | zero => rw [PV_0]
          | succ l2 => rw [PV, PV_nil]; rfl
        | succ l =>
          cases l2 with
          | zero => rw [em (Or.inr rfl), PV_0, PV, PV_nil]; rfl
          | succ l2 =>
            rw [PV, PV, ih (l + 1) (l2 + 1) R (Or.inr ⟨by omega, by omega⟩)]
            have e : ∀ q, q ∈ R → PV J k l (R.erase q) = PV J k l2 (R.erase q) := fun q hq => ih l l2 _ (Or.inr (by have := erase_len hq; omega))
            rw [List.map_congr_left (g := fun q => cnd (J p q) (PV J k l2 (R.erase q))) (fun q hq => by rw [e q hq]), List.map_congr_left (l := R) (f := fun q => cnd (J q p) (PV J k l (R.erase q))) (g := fun q => cnd (J q p) (PV J k l2 (R.erase q))) (fun q hq => by rw [e q hq])]
theorem find_congr {R : List Nat} {f g : Nat → Bool} (h : ∀ q, q ∈ R → f q = g q) : R.find? f = R.find? g := by
  induction R with
  | nil => rfl
  | cons x R ih =>
    rw [List.find?_cons, List.find?_cons, h x List.mem_cons_self, ih (fun q hq => h q (List.mem_cons_of_mem _ hq))]
theorem PX_sat : ∀ (k l l2 : Nat) (L : List Nat) (w : Nat → Int32), (l = l2 ∨ (L.length ≤ 2 * l + 1 ∧ L.length ≤ 2 * l2 + 1)) → PX J k l L w = PX J k l2 L w := by
  intro k
  induction k with
  | zero => intro l l2 L w _; rfl
  | succ k ih =>
    intro l l2 L w h
    cases L with
    | nil => rw [PX_nil, PX_nil]
    | cons p R =>
      have hl : (p :: R).length = R.length + 1 := rfl
      rcases h with rfl | ⟨h1, h2⟩
      · rfl
      · have em : l = 0 ∨ l2 = 0 → R = [] := fun z => List.eq_nil_of_length_eq_zero (by omega)
        cases l with
        | zero =>
          rw [em (Or.inl rfl), PX_0]
          cases l2 with
          | zero => rw [PX_0]
          | succ l2 => rw [PX, List.find?_nil, List.find?_nil]; exact (PX_nil _ _ _).symm
        | succ l =>
          cases l2 with
          | zero => rw [em (Or.inr rfl), PX_0, PX, List.find?_nil, List.find?_nil]; exact PX_nil _ _ _
          | succ l2 =>
            have e : ∀ q, q ∈ R → PV J k l (R.erase q) = PV J k l2 (R.erase q) := fun q hq => PV_sat k l l2 _ (Or.inr (by have := erase_len hq; omega))
            have e3 := PV_sat (J := J) (k + 1) (l + 1) (l2 + 1) (p :: R) (Or.inr ⟨h1, h2⟩)
            have f1 : R.find? (fun q => decide (cnd (J p q) (PV J k l (R.erase q)) = PV J (k + 1) (l + 1) (p :: R))) = R.find? (fun q => decide (cnd (J p q) (PV J k l2 (R.erase q)) = PV J (k + 1) (l2 + 1) (p :: R))) := find_congr (fun q hq => by rw [e q hq, e3])
            have f2 : R.find? (fun q => decide (cnd (J q p) (PV J k l (R.erase q)) = PV J (k + 1) (l + 1) (p :: R))) = R.find? (fun q => decide (cnd (J q p) (PV J k l2 (R.erase q)) = PV J (k + 1) (l2 + 1) (p :: R))) := find_congr (fun q hq => by rw [e q hq, e3])
            rw [PX, PX, f1, f2]
            cases h3 : R.find? (fun q => decide (cnd (J p q) (PV J k l2 (R.erase q)) = PV J (k + 1) (l2 + 1) (p :: R))) with
            | some q =>
              have hq := List.mem_of_find?_eq_some h3
              exact ih l l2 _ _ (Or.inr (by have := erase_len hq; omega))
            | none =>
              cases h4 : R.find? (fun q => decide (cnd (J q p) (PV J k l2 (R.erase q)) = PV J (k + 1) (l2 + 1) (p :: R))) with
              | some q =>
                have hq := List.mem_of_find?_eq_some h4
                exact ih l l2 _ _ (Or.inr (by have := erase_len hq; omega))
              | none => exact ih (l + 1) (l2 + 1) R w (Or.inr ⟨by omega, by omega⟩)
/-- candidates tried one behind the other, the first of the best is kept -/
def stp {A : Type} (v : Int) (s : Int × A) (c : Int × A) : Int × A := if s.1 < v + c.1 then (v + c.1, c.2) else s
def fst_of {A : Type} (V : Int) : List (Int × A) → Option A
  | [] => none
  | c :: C => if c.1 = V then some c.2 else fst_of V C
theorem stp_L {A : Type} (v : Int) : ∀ (C : List (Int × A)) (s : Int × A), (C.foldl (stp v) s).1 = (C.map (fun c => v + c.1)).foldl max s.1 ∧ ((C.foldl (stp v) s).1 = s.1 → (C.foldl (stp v) s).2 = s.2) ∧ (s.1 < (C.foldl (stp v) s).1 → fst_of ((C.foldl (stp v) s).1 - v) C = some (C.foldl (stp v) s).2) := by
  intro C
  induction C with
  | nil => intro s; exact ⟨rfl, fun _ => rfl, fun h => absurd h (by rw [List.foldl_nil]; omega)⟩
  | cons c C ih =>
    intro s
    rw [List.foldl_cons, List.map_cons, List.foldl_cons]
    obtain ⟨i1, i2, i3⟩ := ih (stp v s c)
    have ge := (fm_ge (C.map (fun c => v + c.1)) (stp v s c).1).1
    rw [← i1] at ge
    by_cases h : s.1 < v + c.1
    · have e : stp v s c = (v + c.1, c.2) := if_pos h
      have e1 : (stp v s c).1 = v + c.1 := by rw [e]
      refine ⟨?_, fun q => ?_, fun _ => ?_⟩
      · rw [i1, e1, show max s.1 (v + c.1) = v + c.1 by omega]
      · omega
      · rw [fst_of]
        by_cases q : (C.foldl (stp v) (stp v s c)).1 = (stp v s c).1
        · rw [if_pos (by omega), i2 q, e]
        · rw [if_neg (by omega)]
          exact i3 (by omega)
    · have e : stp v s c = s := if_neg h
      refine ⟨?_, fun q => ?_, fun q => ?_⟩
      · rw [i1, e, show max s.1 (v + c.1) = s.1 by omega]
      · rw [e] at i2 ⊢
        rw [e] at q
        exact i2 q
      · rw [e] at i3 q ⊢
        rw [fst_of, if_neg (by omega)]
        exact i3 q
theorem fst_map {A : Type} (V : Int) (f : Nat → Int × A) (C : List (Int × A)) : ∀ R : List Nat, fst_of V (R.map f ++ C) = match R.find? (fun q => decide ((f q).1 = V)) with | some q => some (f q).2 | none => fst_of V C := by
  intro R
  induction R with
  | nil => rfl
  | cons x R ih =>
    rw [List.map_cons, List.cons_append, fst_of, List.find?_cons]
    by_cases h : (f x).1 = V
    · rw [if_pos h, decide_eq_true h]
    · rw [if_neg h, decide_eq_false h]
      exact ih
/-- all that can be done with the first of the list, one behind the other -/
theorem PV_all (k l p : Nat) (R : List Nat) (w : Nat → Int32) (v : Int) (s : Int × (Nat → Int32)) :
    (R.map (fun q => (cnd (J p q) (PV J k l (R.erase q)), PX J k l (R.erase q) (upd w p (nI q)))) ++ (R.map (fun q => (cnd (J q p) (PV J k l (R.erase q)), PX J k l (R.erase q) (upd w q (nI p)))) ++ [(PV J k (l + 1) R, PX J k (l + 1) R w)])).foldl (stp v) s = stp v s (PV J (k + 1) (l + 1) (p :: R), PX J (k + 1) (l + 1) (p :: R) w) := by
  obtain ⟨i1, i2, i3⟩ := stp_L v (R.map (fun q => (cnd (J p q) (PV J k l (R.erase q)), PX J k l (R.erase q) (upd w p (nI q)))) ++ (R.map (fun q => (cnd (J q p) (PV J k l (R.erase q)), PX J k l (R.erase q) (upd w q (nI p)))) ++ [(PV J k (l + 1) R, PX J k (l + 1) R w)])) s
  have hV : PV J (k + 1) (l + 1) (p :: R) = (R.map (fun q => cnd (J p q) (PV J k l (R.erase q))) ++ R.map (fun q => cnd (J q p) (PV J k l (R.erase q)))).foldl max (PV J k (l + 1) R) := by rw [PV]
  -- the most of all is v + V, or what there was
  have hm : ((R.map (fun q => (cnd (J p q) (PV J k l (R.erase q)), PX J k l (R.erase q) (upd w p (nI q)))) ++ (R.map (fun q => (cnd (J q p) (PV J k l (R.erase q)), PX J k l (R.erase q) (upd w q (nI p)))) ++ [(PV J k (l + 1) R, PX J k (l + 1) R w)])).map (fun c => v + c.1)).foldl max s.1 = max s.1 (v + PV J (k + 1) (l + 1) (p :: R)) := by
    have ge := fm_ge (R.map (fun q => cnd (J p q) (PV J k l (R.erase q))) ++ R.map (fun q => cnd (J q p) (PV J k l (R.erase q)))) (PV J k (l + 1) R)
    rw [← hV] at ge
    refine Int.le_antisymm ((fm_le _ _ _).mpr ⟨by omega, fun y hy => ?_⟩) ?_
    · obtain ⟨c, hc, rfl⟩ := List.mem_map.mp hy
      rcases List.mem_append.mp hc with h | h
      · obtain ⟨q, hq, rfl⟩ := List.mem_map.mp h
        have := ge.2 _ (List.mem_append.mpr (Or.inl (List.mem_map.mpr ⟨q, hq, rfl⟩)))
        show v + cnd (J p q) (PV J k l (R.erase q)) ≤ _
        omega
      · rcases List.mem_append.mp h with h | h
        · obtain ⟨q, hq, rfl⟩ := List.mem_map.mp h
          have := ge.2 _ (List.mem_append.mpr (Or.inr (List.mem_map.mpr ⟨q, hq, rfl⟩)))
          show v + cnd (J q p) (PV J k l (R.erase q)) ≤ _
          omega
        · rw [List.mem_singleton.mp h]
          have := ge.1
          show v + PV J k (l + 1) R ≤ _
          omega
    · have gg := fm_ge ((R.map (fun q => (cnd (J p q) (PV J k l (R.erase q)), PX J k l (R.erase q) (upd w p (nI q)))) ++ (R.map (fun q => (cnd (J q p) (PV J k l (R.erase q)), PX J k l (R.erase q) (upd w q (nI p)))) ++ [(PV J k (l + 1) R, PX J k (l + 1) R w)])).map (fun c => v + c.1)) s.1
      have one : v + PV J (k + 1) (l + 1) (p :: R) ≤ ((R.map (fun q => (cnd (J p q) (PV J k l (R.erase q)), PX J k l (R.erase q) (upd w p (nI q)))) ++ (R.map (fun q => (cnd (J q p) (PV J k l (R.erase q)), PX J k l (R.erase q) (upd w q (nI p)))) ++ [(PV J k (l + 1) R, PX J k (l + 1) R w)])).map (fun c => v + c.1)).foldl max s.1 := by
        rcases fm_mem (R.map (fun q => cnd (J p q) (PV J k l (R.erase q))) ++ R.map (fun q => cnd (J q p) (PV J k l (R.erase q)))) (PV J k (l + 1) R) with h | h
        · rw [← hV] at h
          rw [h]
          exact gg.2 _ (List.mem_map.mpr ⟨(PV J k (l + 1) R, PX J k (l + 1) R w), List.mem_append.mpr (Or.inr (List.mem_append.mpr (Or.inr List.mem_cons_self))), rfl⟩)
        · rw [← hV] at h
          rcases List.mem_append.mp h with h | h
          · obtain ⟨q, hq, e⟩ := List.mem_map.mp h
            rw [← e]
            exact gg.2 _ (List.mem_map.mpr ⟨_, List.mem_append.mpr (Or.inl (List.mem_map.mpr ⟨q, hq, rfl⟩)), rfl⟩)
          · obtain ⟨q, hq, e⟩ := List.mem_map.mp h
            rw [← e]
            exact gg.2 _ (List.mem_map.mpr ⟨_, List.mem_append.mpr (Or.inr (List.mem_append.mpr (Or.inl (List.mem_map.mpr ⟨q, hq, rfl⟩)))), rfl⟩)
      have := gg.1
      omega
  rw [hm] at i1
  generalize hr : (R.map (fun q => (cnd (J p q) (PV J k l (R.erase q)), PX J k l (R.erase q) (upd w p (nI q)))) ++ (R.map (fun q => (cnd (J q p) (PV J k l (R.erase q)), PX J k l (R.erase q) (upd w q (nI p)))) ++ [(PV J k (l + 1) R, PX J k (l + 1) R w)])).foldl (stp v) s = r at *
  unfold stp
  by_cases h : s.1 < v + PV J (k + 1) (l + 1) (p :: R)
  · have e1 : r.1 = v + PV J (k + 1) (l + 1) (p :: R) := by omega
    rw [if_pos h]
    have f := i3 (by omega)
    rw [e1, show v + PV J (k + 1) (l + 1) (p :: R) - v = PV J (k + 1) (l + 1) (p :: R) by omega, fst_map, fst_map] at f
    have e2 : r.2 = PX J (k + 1) (l + 1) (p :: R) w := by
      rw [PX]
      dsimp only at f
      cases h3 : R.find? (fun q => decide (cnd (J p q) (PV J k l (R.erase q)) = PV J (k + 1) (l + 1) (p :: R))) with
      | some q => rw [h3] at f; exact (Option.some.inj f).symm
      | none =>
        rw [h3] at f
        cases h4 : R.find? (fun q => decide (cnd (J q p) (PV J k l (R.erase q)) = PV J (k + 1) (l + 1) (p :: R))) with
        | some q => rw [h4] at f; exact (Option.some.inj f).symm
        | none =>
          rw [h4] at f
          dsimp only at f
          rw [fst_of] at f
          by_cases z : PV J k (l + 1) R = PV J (k + 1) (l + 1) (p :: R)
          · rw [if_pos z] at f
            exact (Option.some.inj f).symm
          · rw [if_neg z, fst_of] at f
            exact absurd f (by intro q; cases q)
    exact Prod.ext e1 e2
  · rw [if_neg h]
    have e1 : r.1 = s.1 := by omega
    exact Prod.ext e1 (i2 e1)
end PM
