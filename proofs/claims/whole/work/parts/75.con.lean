def adC (h : Nat) (u : Nat → Nat → Nat) : Nat → Nat := fun k => if k < 24 then u (k / 8 + 1) (1 + k % 8) else if k < 32 then u 0 (5 + (k - 24)) else if k < 40 then u (5 + (k - 32)) 0 else if k < 43 then u 0 (1 + (k - 40)) else if k < 46 then u (k - 43 + 1) 0 else if k = 46 then h else if k = 47 then u 0 0 else if k = 48 then u 0 4 else u 4 (k - 49)
def mkC (D : va_G) (I C S : ClassId) (aE : Nat → Nat) (aK : Nat) (h : Nat) (u : Nat → Nat → Nat) (A : Nat → Prop) : ZC := ((D, I, C, S), (adC h u, aE, aK), A)
def adM (h : Nat) (u : Nat → Nat) : Nat → Nat := fun k => match k with
  | 0 => h
  | k + 1 => u k
def mkM (D : va_G) (I : ClassId) (h : Nat) (u : Nat → Nat) (A : Nat → Prop) : ZM := ((D, I), adM h u, A)
def z0 : Mem := fun _ _ => 0
theorem vp_refs {cA : ClassId} {n : Nat} {f g : Nat → Option Nat} (h : ∀ j, j < n → f j = g j) : vp_cell cA (n, .inr (.inr (.inr (.inr f)))) = vp_cell cA (n, .inr (.inr (.inr (.inr g)))) := by
  show arrV cA n (fun j => va_rf (f j)) = arrV cA n (fun j => va_rf (g j))
  have : (fun j : Fin n => va_rf (f j.val)) = (fun j : Fin n => va_rf (g j.val)) := funext (fun j => by rw [h j.1 j.2])
  unfold arrV
  rw [this]
theorem at_refs {D : va_G} {q I : Nat} {f g : Nat → Option Nat} {H : Heap} (h : ∀ j, j < 8 → f j = g j) (hq : va_at D vwCl (q, .inl (I, 8, .inr (.inr (.inr (.inr f))))) H) : va_at D vwCl (q, .inl (I, 8, .inr (.inr (.inr (.inr g))))) H := by
  show H[q]? = some (vp_cell I (8, .inr (.inr (.inr (.inr g)))))
  rw [← vp_refs h]
  exact hq
theorem lt8 {Q : Nat → Prop} (h0 : Q 0) (h1 : Q 1) (h2 : Q 2) (h3 : Q 3) (h4 : Q 4) (h5 : Q 5) (h6 : Q 6) (h7 : Q 7) : ∀ j, j < 8 → Q j := fun j h => match j, h with
  | 0, _ => h0
  | 1, _ => h1
  | 2, _ => h2
  | 3, _ => h3
  | 4, _ => h4
  | 5, _ => h5
  | 6, _ => h6
  | 7, _ => h7
  | _ + 8, h => absurd h (by omega)
theorem f8_at (v : Nat → Nat) : ∀ j, j < 8 → f8 v j = some (v j) := lt8 rfl rfl rfl rfl rfl rfl rfl rfl
def gC (k : Nat) : Nat := if k < 24 then 4 + 10 * (k / 8) + k % 8 else if k < 32 then 36 + 2 * (k - 24) else if k < 40 then 37 + 2 * (k - 32) else if k < 43 then 2 + 10 * (k - 40) else if k < 46 then 3 + 10 * (k - 43) else if k = 46 then 0 else if k = 47 then 1 else 32 + (k - 48)
theorem gC_inj : ∀ i, i < 52 → ∀ j, j < 52 → gC i = gC j → i = j := by decide +kernel
theorem lC_0 (I C S : ClassId) (aE : Nat → Nat) (h : Nat) (u : Nat → Nat → Nat) : ∀ k, k < 8 → ∃ e, (WO5 I C S aE h u)[gC (0 + k)]? = some (adC h u (0 + k), e) := fun k hk => match k, hk with
  | 0, _ => ⟨_, rfl⟩
  | 1, _ => ⟨_, rfl⟩
  | 2, _ => ⟨_, rfl⟩
  | 3, _ => ⟨_, rfl⟩
  | 4, _ => ⟨_, rfl⟩
  | 5, _ => ⟨_, rfl⟩
  | 6, _ => ⟨_, rfl⟩
  | 7, _ => ⟨_, rfl⟩
  | _ + 8, h => absurd h (by omega)
theorem lC_1 (I C S : ClassId) (aE : Nat → Nat) (h : Nat) (u : Nat → Nat → Nat) : ∀ k, k < 8 → ∃ e, (WO5 I C S aE h u)[gC (8 + k)]? = some (adC h u (8 + k), e) := fun k hk => match k, hk with
  | 0, _ => ⟨_, rfl⟩
  | 1, _ => ⟨_, rfl⟩
  | 2, _ => ⟨_, rfl⟩
  | 3, _ => ⟨_, rfl⟩
  | 4, _ => ⟨_, rfl⟩
  | 5, _ => ⟨_, rfl⟩
  | 6, _ => ⟨_, rfl⟩
  | 7, _ => ⟨_, rfl⟩
  | _ + 8, h => absurd h (by omega)
theorem lC_2 (I C S : ClassId) (aE : Nat → Nat) (h : Nat) (u : Nat → Nat → Nat) : ∀ k, k < 8 → ∃ e, (WO5 I C S aE h u)[gC (16 + k)]? = some (adC h u (16 + k), e) := fun k hk => match k, hk with
  | 0, _ => ⟨_, rfl⟩
  | 1, _ => ⟨_, rfl⟩
  | 2, _ => ⟨_, rfl⟩
  | 3, _ => ⟨_, rfl⟩
  | 4, _ => ⟨_, rfl⟩
  | 5, _ => ⟨_, rfl⟩
  | 6, _ => ⟨_, rfl⟩
  | 7, _ => ⟨_, rfl⟩
  | _ + 8, h => absurd h (by omega)
theorem lC_3 (I C S : ClassId) (aE : Nat → Nat) (h : Nat) (u : Nat → Nat → Nat) : ∀ k, k < 8 → ∃ e, (WO5 I C S aE h u)[gC (24 + k)]? = some (adC h u (24 + k), e) := fun k hk => match k, hk with
  | 0, _ => ⟨_, rfl⟩
  | 1, _ => ⟨_, rfl⟩
  | 2, _ => ⟨_, rfl⟩
  | 3, _ => ⟨_, rfl⟩
  | 4, _ => ⟨_, rfl⟩
  | 5, _ => ⟨_, rfl⟩
  | 6, _ => ⟨_, rfl⟩
  | 7, _ => ⟨_, rfl⟩
  | _ + 8, h => absurd h (by omega)
theorem lC_4 (I C S : ClassId) (aE : Nat → Nat) (h : Nat) (u : Nat → Nat → Nat) : ∀ k, k < 8 → ∃ e, (WO5 I C S aE h u)[gC (32 + k)]? = some (adC h u (32 + k), e) := fun k hk => match k, hk with
  | 0, _ => ⟨_, rfl⟩
  | 1, _ => ⟨_, rfl⟩
  | 2, _ => ⟨_, rfl⟩
  | 3, _ => ⟨_, rfl⟩
  | 4, _ => ⟨_, rfl⟩
  | 5, _ => ⟨_, rfl⟩
  | 6, _ => ⟨_, rfl⟩
  | 7, _ => ⟨_, rfl⟩
  | _ + 8, h => absurd h (by omega)
theorem lC_5 (I C S : ClassId) (aE : Nat → Nat) (h : Nat) (u : Nat → Nat → Nat) : ∀ k, k < 8 → ∃ e, (WO5 I C S aE h u)[gC (40 + k)]? = some (adC h u (40 + k), e) := fun k hk => match k, hk with
  | 0, _ => ⟨_, rfl⟩
  | 1, _ => ⟨_, rfl⟩
  | 2, _ => ⟨_, rfl⟩
  | 3, _ => ⟨_, rfl⟩
  | 4, _ => ⟨_, rfl⟩
  | 5, _ => ⟨_, rfl⟩
  | 6, _ => ⟨_, rfl⟩
  | 7, _ => ⟨_, rfl⟩
  | _ + 8, h => absurd h (by omega)
theorem lC_6 (I C S : ClassId) (aE : Nat → Nat) (h : Nat) (u : Nat → Nat → Nat) : ∀ k, k < 4 → ∃ e, (WO5 I C S aE h u)[gC (48 + k)]? = some (adC h u (48 + k), e) := fun k hk => match k, hk with
  | 0, _ => ⟨_, rfl⟩
  | 1, _ => ⟨_, rfl⟩
  | 2, _ => ⟨_, rfl⟩
  | 3, _ => ⟨_, rfl⟩
  | _ + 4, h => absurd h (by omega)
theorem lC (I C S : ClassId) (aE : Nat → Nat) (h : Nat) (u : Nat → Nat → Nat) (k : Nat) (hk : k < 52) : ∃ e, (WO5 I C S aE h u)[gC k]? = some (adC h u k, e) := by
  by_cases c0 : k < 8
  · have q := lC_0 I C S aE h u (k - 0) (by omega)
    rw [show 0 + (k - 0) = k from by omega] at q
    exact q
  by_cases c1 : k < 16
  · have q := lC_1 I C S aE h u (k - 8) (by omega)
    rw [show 8 + (k - 8) = k from by omega] at q
    exact q
  by_cases c2 : k < 24
  · have q := lC_2 I C S aE h u (k - 16) (by omega)
    rw [show 16 + (k - 16) = k from by omega] at q
    exact q
  by_cases c3 : k < 32
  · have q := lC_3 I C S aE h u (k - 24) (by omega)
    rw [show 24 + (k - 24) = k from by omega] at q
    exact q
  by_cases c4 : k < 40
  · have q := lC_4 I C S aE h u (k - 32) (by omega)
    rw [show 32 + (k - 32) = k from by omega] at q
    exact q
  by_cases c5 : k < 48
  · have q := lC_5 I C S aE h u (k - 40) (by omega)
    rw [show 40 + (k - 40) = k from by omega] at q
    exact q
  have q := lC_6 I C S aE h u (k - 48) (by omega)
  rw [show 48 + (k - 48) = k from by omega] at q
  exact q
theorem DC {A A2 : Nat → Prop} {D : va_G} {I C S : ClassId} {aE : Nat → Nat} {aK h : Nat} {u : Nat → Nat → Nat} (hd : va_D A (WO5 I C S aE h u)) (hA : ∀ q, A q → A2 q) (z : ZC) (hz : zad z = adC h u) (g : Mem) : va_D A2 (wd 52 (zad z) (celC z) g) := by
  refine ⟨fun i j p q hp hq e => ?_, fun k q hq => ?_⟩
  · obtain ⟨hi, rfl⟩ := wd_in hp
    obtain ⟨hj, rfl⟩ := wd_in hq
    obtain ⟨e1, h1⟩ := lC I C S aE h u i hi
    obtain ⟨e2, h2⟩ := lC I C S aE h u j hj
    refine gC_inj i hi j hj (hd.1 _ _ _ _ h1 h2 ?_)
    have e : zad z i = zad z j := e
    rw [hz] at e
    exact e
  · obtain ⟨hk, rfl⟩ := wd_in hq
    obtain ⟨e1, h1⟩ := lC I C S aE h u k hk
    have := hd.2 _ _ h1
    show A2 (zad z k)
    rw [hz]
    exact hA _ this
theorem PC_0 {D : va_G} {I C S : ClassId} {aE : Nat → Nat} {aK h : Nat} {u : Nat → Nat → Nat} {A : Nat → Prop} {H : Heap} (hP : va_P D vwCl (WO5 I C S aE h u) H) : ∀ k, k < 8 → va_at D vwCl (adC h u (0 + k), celC (mkC D I C S aE aK h u A) (z0 (0 + k)) (0 + k)) H := fun k hk => match k, hk with
  | 0, _ => hP 4 _ rfl
  | 1, _ => hP 5 _ rfl
  | 2, _ => hP 6 _ rfl
  | 3, _ => hP 7 _ rfl
  | 4, _ => hP 8 _ rfl
  | 5, _ => hP 9 _ rfl
  | 6, _ => hP 10 _ rfl
  | 7, _ => hP 11 _ rfl
  | _ + 8, h => absurd h (by omega)
theorem PC_1 {D : va_G} {I C S : ClassId} {aE : Nat → Nat} {aK h : Nat} {u : Nat → Nat → Nat} {A : Nat → Prop} {H : Heap} (hP : va_P D vwCl (WO5 I C S aE h u) H) : ∀ k, k < 8 → va_at D vwCl (adC h u (8 + k), celC (mkC D I C S aE aK h u A) (z0 (8 + k)) (8 + k)) H := fun k hk => match k, hk with
  | 0, _ => hP 14 _ rfl
  | 1, _ => hP 15 _ rfl
  | 2, _ => hP 16 _ rfl
  | 3, _ => hP 17 _ rfl
  | 4, _ => hP 18 _ rfl
  | 5, _ => hP 19 _ rfl
  | 6, _ => hP 20 _ rfl
  | 7, _ => hP 21 _ rfl
  | _ + 8, h => absurd h (by omega)
theorem PC_2 {D : va_G} {I C S : ClassId} {aE : Nat → Nat} {aK h : Nat} {u : Nat → Nat → Nat} {A : Nat → Prop} {H : Heap} (hP : va_P D vwCl (WO5 I C S aE h u) H) : ∀ k, k < 8 → va_at D vwCl (adC h u (16 + k), celC (mkC D I C S aE aK h u A) (z0 (16 + k)) (16 + k)) H := fun k hk => match k, hk with
  | 0, _ => hP 24 _ rfl
  | 1, _ => hP 25 _ rfl
  | 2, _ => hP 26 _ rfl
  | 3, _ => hP 27 _ rfl
  | 4, _ => hP 28 _ rfl
  | 5, _ => hP 29 _ rfl
  | 6, _ => hP 30 _ rfl
  | 7, _ => hP 31 _ rfl
  | _ + 8, h => absurd h (by omega)
theorem PC_3 {D : va_G} {I C S : ClassId} {aE : Nat → Nat} {aK h : Nat} {u : Nat → Nat → Nat} {A : Nat → Prop} {H : Heap} (hP : va_P D vwCl (WO5 I C S aE h u) H) : ∀ k, k < 8 → va_at D vwCl (adC h u (24 + k), celC (mkC D I C S aE aK h u A) (z0 (24 + k)) (24 + k)) H := fun k hk => match k, hk with
  | 0, _ => hP 36 _ rfl
  | 1, _ => hP 38 _ rfl
  | 2, _ => hP 40 _ rfl
  | 3, _ => hP 42 _ rfl
  | 4, _ => hP 44 _ rfl
  | 5, _ => hP 46 _ rfl
  | 6, _ => hP 48 _ rfl
  | 7, _ => hP 50 _ rfl
  | _ + 8, h => absurd h (by omega)
theorem PC_4 {D : va_G} {I C S : ClassId} {aE : Nat → Nat} {aK h : Nat} {u : Nat → Nat → Nat} {A : Nat → Prop} {H : Heap} (hP : va_P D vwCl (WO5 I C S aE h u) H) : ∀ k, k < 8 → va_at D vwCl (adC h u (32 + k), celC (mkC D I C S aE aK h u A) (z0 (32 + k)) (32 + k)) H := fun k hk => match k, hk with
  | 0, _ => hP 37 _ rfl
  | 1, _ => hP 39 _ rfl
  | 2, _ => hP 41 _ rfl
  | 3, _ => hP 43 _ rfl
  | 4, _ => hP 45 _ rfl
  | 5, _ => hP 47 _ rfl
  | 6, _ => hP 49 _ rfl
  | 7, _ => hP 51 _ rfl
  | _ + 8, h => absurd h (by omega)
theorem PC_5 {D : va_G} {I C S : ClassId} {aE : Nat → Nat} {aK h : Nat} {u : Nat → Nat → Nat} {A : Nat → Prop} {H : Heap} (hP : va_P D vwCl (WO5 I C S aE h u) H) : ∀ k, k < 8 → va_at D vwCl (adC h u (40 + k), celC (mkC D I C S aE aK h u A) (z0 (40 + k)) (40 + k)) H := fun k hk => match k, hk with
  | 0, _ => hP 2 _ rfl
  | 1, _ => hP 12 _ rfl
  | 2, _ => hP 22 _ rfl
  | 3, _ => at_refs (D := D) (q := u 1 0) (f := f8 (fun j => u 1 (1 + j))) (lt8 rfl rfl rfl rfl rfl rfl rfl rfl) (hP 3 _ rfl)
  | 4, _ => at_refs (D := D) (q := u 2 0) (f := f8 (fun j => u 2 (1 + j))) (lt8 rfl rfl rfl rfl rfl rfl rfl rfl) (hP 13 _ rfl)
  | 5, _ => at_refs (D := D) (q := u 3 0) (f := f8 (fun j => u 3 (1 + j))) (lt8 rfl rfl rfl rfl rfl rfl rfl rfl) (hP 23 _ rfl)
  | 6, _ => hP 0 _ rfl
  | 7, _ => at_refs (D := D) (q := u 0 0) (f := f8 (fun j => u 0 (5 + j))) (lt8 rfl rfl rfl rfl rfl rfl rfl rfl) (hP 1 _ rfl)
  | _ + 8, h => absurd h (by omega)
theorem PC_6 {D : va_G} {I C S : ClassId} {aE : Nat → Nat} {aK h : Nat} {u : Nat → Nat → Nat} {A : Nat → Prop} {H : Heap} (hP : va_P D vwCl (WO5 I C S aE h u) H) : ∀ k, k < 4 → va_at D vwCl (adC h u (48 + k), celC (mkC D I C S aE aK h u A) (z0 (48 + k)) (48 + k)) H := fun k hk => match k, hk with
  | 0, _ => hP 32 _ rfl
  | 1, _ => hP 33 _ rfl
  | 2, _ => hP 34 _ rfl
  | 3, _ => hP 35 _ rfl
  | _ + 4, h => absurd h (by omega)
theorem PC {D : va_G} {I C S : ClassId} {aE : Nat → Nat} {aK h : Nat} {u : Nat → Nat → Nat} {A : Nat → Prop} {H : Heap} (hP : va_P D vwCl (WO5 I C S aE h u) H) : va_P D vwCl (wd 52 (zad (mkC D I C S aE aK h u A)) (celC (mkC D I C S aE aK h u A)) z0) H := by
  intro k q hq
  obtain ⟨hk, rfl⟩ := wd_in hq
  show va_at D vwCl (adC h u k, celC (mkC D I C S aE aK h u A) (z0 k) k) H
  by_cases c0 : k < 8
  · have q := PC_0 (aK := aK) (A := A) hP (k - 0) (by omega)
    rw [show 0 + (k - 0) = k from by omega] at q
    exact q
  by_cases c1 : k < 16
  · have q := PC_1 (aK := aK) (A := A) hP (k - 8) (by omega)
    rw [show 8 + (k - 8) = k from by omega] at q
    exact q
  by_cases c2 : k < 24
  · have q := PC_2 (aK := aK) (A := A) hP (k - 16) (by omega)
    rw [show 16 + (k - 16) = k from by omega] at q
    exact q
  by_cases c3 : k < 32
  · have q := PC_3 (aK := aK) (A := A) hP (k - 24) (by omega)
    rw [show 24 + (k - 24) = k from by omega] at q
    exact q
  by_cases c4 : k < 40
  · have q := PC_4 (aK := aK) (A := A) hP (k - 32) (by omega)
    rw [show 32 + (k - 32) = k from by omega] at q
    exact q
  by_cases c5 : k < 48
  · have q := PC_5 (aK := aK) (A := A) hP (k - 40) (by omega)
    rw [show 40 + (k - 40) = k from by omega] at q
    exact q
  have q := PC_6 (aK := aK) (A := A) hP (k - 48) (by omega)
  rw [show 48 + (k - 48) = k from by omega] at q
  exact q
theorem lM (I : ClassId) (h : Nat) (u : Nat → Nat) : ∀ k, k < 14 → ∃ e, (WO6 I h u)[k]? = some (adM h u k, e) := fun k hk => match k, hk with
  | 0, _ => ⟨_, rfl⟩
  | 1, _ => ⟨_, rfl⟩
  | 2, _ => ⟨_, rfl⟩
  | 3, _ => ⟨_, rfl⟩
  | 4, _ => ⟨_, rfl⟩
  | 5, _ => ⟨_, rfl⟩
  | 6, _ => ⟨_, rfl⟩
  | 7, _ => ⟨_, rfl⟩
  | 8, _ => ⟨_, rfl⟩
  | 9, _ => ⟨_, rfl⟩
  | 10, _ => ⟨_, rfl⟩
  | 11, _ => ⟨_, rfl⟩
  | 12, _ => ⟨_, rfl⟩
  | 13, _ => ⟨_, rfl⟩
  | _ + 14, h => absurd h (by omega)
theorem DM {A A2 : Nat → Prop} {I : ClassId} {h : Nat} {u : Nat → Nat} (hd : va_D A (WO6 I h u)) (hA : ∀ q, A q → A2 q) (z : ZM) (hz : yad z = adM h u) (g : Mem) : va_D A2 (wd 14 (yad z) (celM z) g) := by
  refine ⟨fun i j p q hp hq e => ?_, fun k q hq => ?_⟩
  · obtain ⟨hi, rfl⟩ := wd_in hp
    obtain ⟨hj, rfl⟩ := wd_in hq
    obtain ⟨e1, h1⟩ := lM I h u i hi
    obtain ⟨e2, h2⟩ := lM I h u j hj
    refine hd.1 _ _ _ _ h1 h2 ?_
    have e : yad z i = yad z j := e
    rw [hz] at e
    exact e
  · obtain ⟨hk, rfl⟩ := wd_in hq
    obtain ⟨e1, h1⟩ := lM I h u k hk
    have := hd.2 _ _ h1
    show A2 (yad z k)
    rw [hz]
    exact hA _ this
theorem PM_k {D : va_G} {I : ClassId} {h : Nat} {u : Nat → Nat} {A : Nat → Prop} {H : Heap} (hP : va_P D vwCl (WO6 I h u) H) : ∀ k, k < 14 → va_at D vwCl (adM h u k, celM (mkM D I h u A) (z0 k) k) H := fun k hk => match k, hk with
  | 0, _ => hP 0 _ rfl
  | 1, _ => hP 1 _ rfl
  | 2, _ => hP 2 _ rfl
  | 3, _ => hP 3 _ rfl
  | 4, _ => hP 4 _ rfl
  | 5, _ => hP 5 _ rfl
  | 6, _ => hP 6 _ rfl
  | 7, _ => hP 7 _ rfl
  | 8, _ => hP 8 _ rfl
  | 9, _ => hP 9 _ rfl
  | 10, _ => hP 10 _ rfl
  | 11, _ => hP 11 _ rfl
  | 12, _ => hP 12 _ rfl
  | 13, _ => hP 13 _ rfl
  | _ + 14, h => absurd h (by omega)
theorem PM {D : va_G} {I : ClassId} {h : Nat} {u : Nat → Nat} {A : Nat → Prop} {H : Heap} (hP : va_P D vwCl (WO6 I h u) H) : va_P D vwCl (wd 14 (yad (mkM D I h u A)) (celM (mkM D I h u A)) z0) H := by
  intro k q hq
  obtain ⟨hk, rfl⟩ := wd_in hq
  exact PM_k hP k hk
