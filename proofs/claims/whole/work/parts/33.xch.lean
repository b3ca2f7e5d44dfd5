/-! ===== pure: a touch, a day ===== -/
def xch (u : Int) (n c : Nat) (row : Nat → Int) (a b : Nat) : Nat → Int := fun i =>
  if i / 5 = a ∧ i % 5 < c then row i + (gGv u (gP row b) n (i % 5) - gGv u (gP row a) n (i % 5))
  else if i / 5 = b ∧ i % 5 < c then row i - (gGv u (gP row b) n (i % 5) - gGv u (gP row a) n (i % 5)) else row i
def xchG (u : Int) (n : Nat) (row : Nat → Int) (g : Int) (a b : Nat) : Nat → Int := if zbit g a = 1 ∨ zbit g b = 1 then row else xch u n n row a b
def rOk (n m : Nat) (row : Nat → Int) : Prop := ∀ a, a < m → gOk (gP row a) n
theorem xch_0 (u : Int) (n : Nat) (row : Nat → Int) (a b : Nat) : xch u n 0 row a b = row := by
  funext i
  simp [xch]
theorem xch_un {u : Int} {n c : Nat} {row : Nat → Int} {a b x : Nat} (hc : c < 5) : xch u n c row a b (x * 5 + c) = row (x * 5 + c) := by
  unfold xch
  rw [if_neg (by omega), if_neg (by omega)]
theorem xch_step {u : Int} {n c : Nat} {row : Nat → Int} {a b : Nat} (hc : c < 5) (hab : a ≠ b) (i : Nat) : xch u n (c + 1) row a b i = if i = b * 5 + c then row (b * 5 + c) - (gGv u (gP row b) n c - gGv u (gP row a) n c) else if i = a * 5 + c then row (a * 5 + c) + (gGv u (gP row b) n c - gGv u (gP row a) n c) else xch u n c row a b i := by
  unfold xch
  by_cases h1 : i = b * 5 + c
  · subst h1
    have e1 : (b * 5 + c) / 5 = b := by omega
    have e2 : (b * 5 + c) % 5 = c := by omega
    rw [e1, e2, if_neg (by omega), if_pos ⟨rfl, by omega⟩, if_pos rfl]
  · rw [if_neg h1]
    by_cases h2 : i = a * 5 + c
    · subst h2
      have e1 : (a * 5 + c) / 5 = a := by omega
      have e2 : (a * 5 + c) % 5 = c := by omega
      rw [e1, e2, if_pos ⟨rfl, by omega⟩, if_pos rfl]
    · rw [if_neg h2]
      by_cases h3 : i / 5 = a ∧ i % 5 < c
      · rw [if_pos h3, if_pos ⟨h3.1, by omega⟩]
      · rw [if_neg h3, if_neg (by omega)]
        by_cases h4 : i / 5 = b ∧ i % 5 < c
        · rw [if_pos h4, if_pos ⟨h4.1, by omega⟩]
        · rw [if_neg h4, if_neg (by omega)]
theorem xch_out {u : Int} {n : Nat} {row : Nat → Int} {a b i : Nat} (ha : i / 5 ≠ a) (hb : i / 5 ≠ b) : xch u n n row a b i = row i := by
  unfold xch
  rw [if_neg (fun q => ha q.1), if_neg (fun q => hb q.1)]
theorem xchG_out {u : Int} {n : Nat} {row : Nat → Int} {g : Int} {a b i : Nat} (ha : i / 5 ≠ a) (hb : i / 5 ≠ b) : xchG u n row g a b i = row i := by
  unfold xchG
  split
  · rfl
  · exact xch_out ha hb
theorem gOk_congr {p q : Nat → Int} {n : Nat} (h : ∀ j, j < n → p j = q j) (hp : gOk p n) : gOk q n :=
  ⟨fun j hj => by rw [← h j hj]; exact hp.1 j hj, by rw [← gS_congr h]; exact hp.2⟩
theorem xch_ok {u : Int} {n m : Nat} {row : Nat → Int} {a b : Nat} (hn : n ≤ 5) (hu : 0 ≤ u ∧ u ≤ 30) (ha : a < m) (hb : b < m) (hab : a ≠ b) (h : rOk n m row) : rOk n m (xch u n n row a b) := by
  intro x hx
  have oa := h a ha
  have ob := h b hb
  by_cases e1 : x = a
  · subst e1
    have hv : ∀ j, j < n → gP (xch u n n row x b) x j = gP row x j + (gGv u (gP row b) n j - gGv u (gP row x) n j) := fun j hj => by
      unfold gP xch
      rw [if_pos ⟨by omega, by omega⟩, show (x * 5 + j) % 5 = j by omega]
      rfl
    refine ⟨fun j hj => ?_, ?_⟩
    · rw [hv j hj]
      have h1 := gGv_rg oa hu hj
      have h2 := gGv_rg ob hu hj
      omega
    · rw [gS_congr hv, gS_add, gS_sub, gGv_sum oa, gGv_sum ob, oa.2]
      omega
  · by_cases e2 : x = b
    · subst e2
      have hv : ∀ j, j < n → gP (xch u n n row a x) x j = gP row x j - (gGv u (gP row x) n j - gGv u (gP row a) n j) := fun j hj => by
        unfold gP xch
        rw [if_neg (by omega), if_pos ⟨by omega, by omega⟩, show (x * 5 + j) % 5 = j by omega]
        rfl
      refine ⟨fun j hj => ?_, ?_⟩
      · rw [hv j hj]
        have h1 := gGv_rg oa hu hj
        have h2 := gGv_rg ob hu hj
        omega
      · rw [gS_congr hv, gS_sub, gS_sub, gGv_sum oa, gGv_sum ob, ob.2]
        omega
    · refine gOk_congr (fun j hj => ?_) (h x hx)
      show row (x * 5 + j) = xch u n n row a b (x * 5 + j)
      rw [xch_out (by omega) (by omega)]
theorem xchG_ok {u : Int} {n m : Nat} {row : Nat → Int} {g : Int} {a b : Nat} (hn : n ≤ 5) (hu : 0 ≤ u ∧ u ≤ 30) (ha : a < m) (hb : b < m) (hab : a ≠ b) (h : rOk n m row) : rOk n m (xchG u n row g a b) := by
  unfold xchG
  split
  · exact h
  · exact xch_ok hn hu ha hb hab h
/-- only the first 30 places matter, and only they change -/
theorem xchG_congr {u : Int} {n : Nat} {row row' : Nat → Int} {g : Int} {a b : Nat} (hn : n ≤ 5) (ha : a < 6) (hb : b < 6) (h : ∀ i, i < 30 → row i = row' i) : ∀ i, i < 30 → xchG u n row g a b i = xchG u n row' g a b i := by
  intro i hi
  unfold xchG
  split
  · exact h i hi
  · have e : ∀ x, x < 6 → ∀ j, j < n → gGv u (gP row x) n j = gGv u (gP row' x) n j := by
      intro x hx j hj
      have hp : ∀ j, j < n → gP row x j = gP row' x j := fun j hj => h _ (by omega)
      have hr : ∀ j, j < n → gRs u (gP row x) j = gRs u (gP row' x) j := fun j hj => by unfold gRs; rw [hp j hj]
      have hbs : ∀ j, j < n → gBs u (gP row x) j = gBs u (gP row' x) j := fun j hj => by unfold gBs; rw [hp j hj]
      have hl : gLf u (gP row x) n = gLf u (gP row' x) n := by unfold gLf; rw [gS_congr hbs]
      have hB : ∀ (dn : Nat → Bool) (k : Nat), k ≤ n → gBest (gRs u (gP row x)) dn k = gBest (gRs u (gP row' x)) dn k := by
        intro dn k
        induction k with
        | zero => intro _; rfl
        | succ k ih =>
          intro hk
          simp only [gBest]
          rw [ih (by omega)]
          cases hc : gBest (gRs u (gP row' x)) dn k with
          | none => rfl
          | some c =>
            have := (gBest_is hc).1
            simp only [hr k (by omega), hr c (by omega)]
      have hD : ∀ k, gDone (gRs u (gP row x)) n k = gDone (gRs u (gP row' x)) n k := by
        intro k
        induction k with
        | zero => rfl
        | succ k ih =>
          funext j
          simp only [gDone]
          rw [ih, hB _ n (Nat.le_refl _)]
      unfold gGv
      rw [hbs j hj, hl, hD]
    unfold xch
    have hi5 : i % 5 < 5 := by omega
    by_cases h1 : i / 5 = a ∧ i % 5 < n
    · rw [if_pos h1, if_pos h1, h i hi, e a ha _ h1.2, e b hb _ h1.2]
    · rw [if_neg h1, if_neg h1]
      by_cases h2 : i / 5 = b ∧ i % 5 < n
      · rw [if_pos h2, if_pos h2, h i hi, e a ha _ h2.2, e b hb _ h2.2]
      · rw [if_neg h2, if_neg h2, h i hi]
/-- k touches of a day, without those in the set wo -/
def dRow (u : Int) (n : Nat) (g : Int) (f s : Nat → Int) (wo : Int) (row : Nat → Int) : Nat → Nat → Int
  | 0 => row
  | k + 1 => if zbit wo k = 1 then dRow u n g f s wo row k else xchG u n (dRow u n g f s wo row k) g (f k).toNat (s k).toNat
/-- touches of a day: t of them, of two coats that are there -/
def dOk (m t : Nat) (f s : Nat → Int) : Prop := ∀ k, k < t → 0 ≤ f k ∧ f k < m ∧ 0 ≤ s k ∧ s k < m ∧ f k ≠ s k
theorem dRow_ok {u : Int} {n m t : Nat} {g : Int} {f s : Nat → Int} {wo : Int} {row : Nat → Int} (hn : n ≤ 5) (hu : 0 ≤ u ∧ u ≤ 30) (hd : dOk m t f s) (h : rOk n m row) : ∀ k, k ≤ t → rOk n m (dRow u n g f s wo row k)
  | 0, _ => h
  | k + 1, hk => by
    have ih := dRow_ok (g := g) (wo := wo) hn hu hd h k (by omega)
    simp only [dRow]
    split
    · exact ih
    · obtain ⟨h1, h2, h3, h4, h5⟩ := hd k (by omega)
      exact xchG_ok hn hu (by omega) (by omega) (by omega) ih
theorem dRow_congr {u : Int} {n m t : Nat} {g : Int} {f s f' s' : Nat → Int} {wo : Int} {row row' : Nat → Int} (hn : n ≤ 5) (hm : m ≤ 6) (hd : dOk m t f s) (hf : ∀ k, k < t → f k = f' k) (hs : ∀ k, k < t → s k = s' k) (h : ∀ i, i < 30 → row i = row' i) : ∀ k, k ≤ t → ∀ i, i < 30 → dRow u n g f s wo row k i = dRow u n g f' s' wo row' k i
  | 0, _ => h
  | k + 1, hk => by
    have ih := dRow_congr (u := u) (g := g) (wo := wo) hn hm hd hf hs h k (by omega)
    obtain ⟨h1, h2, h3, h4, h5⟩ := hd k (by omega)
    simp only [dRow]
    split
    · exact ih
    · rw [← hf k (by omega), ← hs k (by omega)]
      exact xchG_congr hn (by omega) (by omega) ih
