/-! ===== the live places of a row: of a coat and a colour that are there ===== -/
abbrev lv (n m i : Nat) : Prop := i / 5 < m ∧ i % 5 < n
theorem xchG_congrL {u : Int} {n m : Nat} {row row' : Nat → Int} {g : Int} {a b : Nat} (hn : n ≤ 5) (ha : a < m) (hb : b < m) (h : ∀ i, lv n m i → row i = row' i) : ∀ i, lv n m i → xchG u n row g a b i = xchG u n row' g a b i := by
  intro i hi
  unfold xchG
  split
  · exact h i hi
  · have e : ∀ x, x < m → ∀ j, j < n → gGv u (gP row x) n j = gGv u (gP row' x) n j := by
      intro x hx j hj
      have hp : ∀ j, j < n → gP row x j = gP row' x j := fun j hj => h (x * 5 + j) (by omega)
      have hr : ∀ j, j < n → gRs u (gP row x) j = gRs u (gP row' x) j := fun j hj => by unfold gRs; rw [hp j hj]
      have hbs : ∀ j, j < n → gBs u (gP row x) j = gBs u (gP row' x) j := fun j hj => by unfold gBs; rw [hp j hj]
      have hl : gLf u (gP row x) n = gLf u (gP row' x) n := by unfold gLf; rw [gS_congr hbs]
      have hB : ∀ (dn : Nat → Bool) (k : Nat), k ≤ n → gBest (gRs u (gP row x)) dn k = gBest (gRs u (gP row' x)) dn k := by
        intro dn k
        induction k with
        | zero => intro _; rfl
        | succ k ih =>
          intro hk
          simp only [gBest]
          rw [ih (by omega)]
          cases hc : gBest (gRs u (gP row' x)) dn k with
          | none => rfl
          | some c =>
            have := (gBest_is hc).1
            simp only [hr k (by omega), hr c (by omega)]
      have hD : ∀ k, gDone (gRs u (gP row x)) n k = gDone (gRs u (gP row' x)) n k := by
        intro k
        induction k with
        | zero => rfl
        | succ k ih =>
          funext j
          simp only [gDone]
          rw [ih, hB _ n (Nat.le_refl _)]
      unfold gGv
      rw [hbs j hj, hl, hD]
    unfold xch
    by_cases h1 : i / 5 = a ∧ i % 5 < n
    · rw [if_pos h1, if_pos h1, h i hi, e a ha _ h1.2, e b hb _ h1.2]
    · rw [if_neg h1, if_neg h1]
      by_cases h2 : i / 5 = b ∧ i % 5 < n
      · rw [if_pos h2, if_pos h2, h i hi, e a ha _ h2.2, e b hb _ h2.2]
      · rw [if_neg h2, if_neg h2, h i hi]
theorem xchG_dead {u : Int} {n m : Nat} {row : Nat → Int} {g : Int} {a b i : Nat} (ha : a < m) (hb : b < m) (hi : ¬ lv n m i) : xchG u n row g a b i = row i := by
  unfold xchG
  split
  · rfl
  · unfold xch
    rw [if_neg (by omega), if_neg (by omega)]
theorem dRow_congrL {u : Int} {n m t : Nat} {g : Int} {f s f' s' : Nat → Int} {wo : Int} {row row' : Nat → Int} (hn : n ≤ 5) (hd : dOk m t f s) (hf : ∀ k, k < t → f k = f' k) (hs : ∀ k, k < t → s k = s' k) (h : ∀ i, lv n m i → row i = row' i) : ∀ k, k ≤ t → ∀ i, lv n m i → dRow u n g f s wo row k i = dRow u n g f' s' wo row' k i
  | 0, _ => h
  | k + 1, hk => by
    have ih := dRow_congrL (u := u) (g := g) (wo := wo) hn hd hf hs h k (by omega)
    obtain ⟨h1, h2, h3, h4, h5⟩ := hd k (by omega)
    simp only [dRow]
    split
    · exact ih
    · rw [← hf k (by omega), ← hs k (by omega)]
      exact xchG_congrL hn (by omega) (by omega) ih
theorem dRow_dead {u : Int} {n m t : Nat} {g : Int} {f s : Nat → Int} {wo : Int} {row : Nat → Int} (hd : dOk m t f s) {i : Nat} (hi : ¬ lv n m i) : ∀ k, k ≤ t → dRow u n g f s wo row k i = row i
  | 0, _ => rfl
  | k + 1, hk => by
    have ih := dRow_dead (u := u) (g := g) (wo := wo) (row := row) hd hi k (by omega)
    obtain ⟨h1, h2, h3, h4, h5⟩ := hd k (by omega)
    simp only [dRow]
    split
    · exact ih
    · rw [xchG_dead (by omega) (by omega) hi, ih]
theorem rOk_congrL {n m : Nat} {p q : Nat → Int} (hn : n ≤ 5) (h : ∀ i, lv n m i → p i = q i) (hp : rOk n m p) : rOk n m q := fun a ha => gOk_congr (fun j hj => h (a * 5 + j) (by omega)) (hp a ha)
