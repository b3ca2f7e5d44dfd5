/-! ===== pure: how a coat's gift is shared out (largest rests first, the lower colour of two alike) ===== -/
def gS (f : Nat → Int) : Nat → Int
  | 0 => 0
  | n + 1 => gS f n + f n
theorem gS_congr {f g : Nat → Int} : ∀ {n : Nat}, (∀ j, j < n → f j = g j) → gS f n = gS g n
  | 0, _ => rfl
  | n + 1, h => by
    simp only [gS]
    rw [gS_congr (fun j hj => h j (by omega)), h n (by omega)]
theorem gS_add (f g : Nat → Int) : ∀ n, gS (fun j => f j + g j) n = gS f n + gS g n
  | 0 => rfl
  | n + 1 => by simp only [gS]; rw [gS_add f g n]; omega
theorem gS_sub (f g : Nat → Int) : ∀ n, gS (fun j => f j - g j) n = gS f n - gS g n
  | 0 => rfl
  | n + 1 => by simp only [gS]; rw [gS_sub f g n]; omega
theorem gS_mul (c : Int) (f : Nat → Int) : ∀ n, gS (fun j => c * f j) n = c * gS f n
  | 0 => by simp [gS]
  | n + 1 => by simp only [gS]; rw [gS_mul c f n, Int.mul_add]
theorem gS_le {f g : Nat → Int} : ∀ {n : Nat}, (∀ j, j < n → f j ≤ g j) → gS f n ≤ gS g n
  | 0, _ => Int.le_refl _
  | n + 1, h => by
    simp only [gS]
    have h1 := gS_le (f := f) (g := g) (n := n) (fun j hj => h j (by omega))
    have h2 := h n (by omega)
    omega
theorem gS_nn {f : Nat → Int} {n : Nat} (h : ∀ j, j < n → 0 ≤ f j) : 0 ≤ gS f n := by
  have h1 : gS (fun _ => 0) n = 0 := by
    clear h
    induction n with
    | zero => rfl
    | succ n ih => simp only [gS]; omega
  have h2 := gS_le (f := fun _ => 0) (g := f) (n := n) h
  omega
theorem gS_ge {f : Nat → Int} : ∀ {n j : Nat}, (∀ j, j < n → 0 ≤ f j) → j < n → f j ≤ gS f n
  | 0, j, _, hj => by omega
  | n + 1, j, h, hj => by
    simp only [gS]
    have h0 := gS_nn (f := f) (n := n) (fun j hj => h j (by omega))
    by_cases e : j = n
    · subst e; omega
    · have h1 := gS_ge (f := f) (n := n) (j := j) (fun j hj => h j (by omega)) (by omega)
      have h2 := h n (by omega)
      omega
/-- the first of the greatest rests among those not done -/
def gBest (r : Nat → Int) (dn : Nat → Bool) : Nat → Option Nat
  | 0 => none
  | j + 1 => match gBest r dn j with
    | none => if dn j then none else some j
    | some b => if dn j then some b else if r b < r j then some j else some b
def gIs (r : Nat → Int) (dn : Nat → Bool) (n b : Nat) : Prop := b < n ∧ dn b = false ∧ (∀ j, j < n → dn j = false → r j ≤ r b) ∧ ∀ j, j < b → dn j = false → r j < r b
theorem gBest_none {r : Nat → Int} {dn : Nat → Bool} : ∀ {n : Nat}, gBest r dn n = none → ∀ j, j < n → dn j = true
  | 0, _, j, hj => by omega
  | n + 1, h, j, hj => by
    simp only [gBest] at h
    cases hb : gBest r dn n with
    | none =>
      rw [hb] at h
      simp only at h
      cases hd : dn n with
      | true =>
        by_cases e : j = n
        · subst e; exact hd
        · exact gBest_none hb j (by omega)
      | false => rw [hd] at h; simp at h
    | some b =>
      rw [hb] at h
      simp only at h
      split at h
      · cases h
      · split at h <;> cases h
theorem gBest_is {r : Nat → Int} {dn : Nat → Bool} : ∀ {n b : Nat}, gBest r dn n = some b → gIs r dn n b
  | 0, b, h => by simp [gBest] at h
  | n + 1, b, h => by
    simp only [gBest] at h
    cases hb : gBest r dn n with
    | none =>
      rw [hb] at h
      simp only at h
      cases hd : dn n with
      | true => rw [hd] at h; simp at h
      | false =>
        rw [hd] at h
        simp only [Bool.false_eq_true, if_false, Option.some.injEq] at h
        subst h
        have ha := gBest_none hb
        refine ⟨by omega, hd, fun j hj hj2 => ?_, fun j hj hj2 => ?_⟩
        · by_cases e : j = n
          · subst e; omega
          · rw [ha j (by omega)] at hj2; cases hj2
        · rw [ha j (by omega)] at hj2; cases hj2
    | some c =>
      obtain ⟨c1, c2, c3, c4⟩ := gBest_is hb
      rw [hb] at h
      simp only at h
      cases hd : dn n with
      | true =>
        rw [hd] at h
        simp only [if_true, Option.some.injEq] at h
        subst h
        refine ⟨by omega, c2, fun j hj hj2 => ?_, c4⟩
        by_cases e : j = n
        · subst e; rw [hd] at hj2; cases hj2
        · exact c3 j (by omega) hj2
      | false =>
        rw [hd] at h
        simp only [Bool.false_eq_true, if_false] at h
        by_cases hr : r c < r n
        · rw [if_pos hr] at h
          cases h
          refine ⟨by omega, hd, fun j hj hj2 => ?_, fun j hj hj2 => ?_⟩
          · by_cases e : j = n
            · subst e; omega
            · have := c3 j (by omega) hj2; omega
          · have := c3 j (by omega) hj2; omega
        · rw [if_neg hr] at h
          cases h
          refine ⟨by omega, c2, fun j hj hj2 => ?_, c4⟩
          by_cases e : j = n
          · subst e; omega
          · exact c3 j (by omega) hj2
theorem gIs_uniq {r : Nat → Int} {dn : Nat → Bool} {n b c : Nat} (h1 : gIs r dn n b) (h2 : gIs r dn n c) : b = c := by
  obtain ⟨b1, b2, b3, b4⟩ := h1
  obtain ⟨c1, c2, c3, c4⟩ := h2
  rcases Nat.lt_trichotomy b c with h | h | h
  · have := c4 b h b2; have := b3 c c1 c2; omega
  · exact h
  · have := b4 c h c2; have := c3 b b1 b2; omega
theorem gBest_of {r : Nat → Int} {dn : Nat → Bool} {n b : Nat} (h : gIs r dn n b) : gBest r dn n = some b := by
  cases hb : gBest r dn n with
  | none => have := gBest_none hb b h.1; rw [h.2.1] at this; cases this
  | some c => rw [gIs_uniq h (gBest_is hb)]
/-- who is done behind k picks -/
def gDone (r : Nat → Int) (n : Nat) : Nat → Nat → Bool
  | 0, _ => false
  | k + 1, j => gDone r n k j || (gBest r (gDone r n k) n == some j)
def gCnt (dn : Nat → Bool) (n : Nat) : Int := gS (fun j => if dn j then 1 else 0) n
theorem gCnt_set {dn dn' : Nat → Bool} {b : Nat} : ∀ {n : Nat}, b < n → dn b = false → dn' b = true → (∀ j, j ≠ b → dn' j = dn j) → gCnt dn' n = gCnt dn n + 1
  | 0, h, _, _, _ => by omega
  | n + 1, h, h1, h2, h3 => by
    unfold gCnt
    simp only [gS]
    by_cases e : n = b
    · subst e
      rw [gS_congr (f := fun j => if dn' j then 1 else 0) (g := fun j => if dn j then 1 else 0) (fun j hj => by rw [h3 j (by omega)]), h1, h2]
      simp
    · have := gCnt_set (n := n) (by omega) h1 h2 h3
      unfold gCnt at this
      rw [this, h3 n e]
      omega
theorem gCnt_all {dn : Nat → Bool} : ∀ {n : Nat}, (∀ j, j < n → dn j = true) → gCnt dn n = n
  | 0, _ => rfl
  | n + 1, h => by
    have := gCnt_all (dn := dn) (n := n) (fun j hj => h j (by omega))
    unfold gCnt at *
    simp only [gS]
    rw [this, h n (by omega)]
    simp
theorem gCnt_rest {dn : Nat → Bool} {r : Nat → Int} : ∀ {n : Nat}, (∀ j, j < n → r j ≤ 59) → (∀ j, j < n → dn j = false → r j ≤ 0) → gS r n ≤ 59 * gCnt dn n
  | 0, _, _ => by simp [gS, gCnt]
  | n + 1, h1, h2 => by
    have := gCnt_rest (dn := dn) (r := r) (n := n) (fun j hj => h1 j (by omega)) (fun j hj => h2 j (by omega))
    unfold gCnt at *
    simp only [gS]
    have h3 := h1 n (by omega)
    cases hd : dn n with
    | true => simp; omega
    | false => have := h2 n (by omega) hd; simp; omega
/-- as long as fewer are done than are left, one with a rest is next -/
theorem gNext {r : Nat → Int} {n : Nat} {lf : Int} (h0 : ∀ j, j < n → 0 ≤ r j ∧ r j ≤ 59) (hs : gS r n = 60 * lf) : ∀ k : Nat, (k : Int) ≤ lf → gCnt (gDone r n k) n = k ∧ ((k : Int) < lf → ∃ b, gIs r (gDone r n k) n b ∧ 1 ≤ r b) := by
  have main : ∀ k : Nat, gCnt (gDone r n k) n = k → (k : Int) < lf → ∃ b, gIs r (gDone r n k) n b ∧ 1 ≤ r b := by
    intro k hc hk
    cases hb : gBest r (gDone r n k) n with
    | none =>
      have h1 := gCnt_all (gBest_none hb)
      have h2 : gS r n ≤ gS (fun _ => 59) n := gS_le (fun j hj => (h0 j hj).2)
      have h3 : gS (fun _ => (59 : Int)) n = 59 * n := by
        clear h0 hs hc hk hb h1 h2
        induction n with
        | zero => rfl
        | succ n ih => simp only [gS]; omega
      omega
    | some b =>
      have hi := gBest_is hb
      refine ⟨b, hi, ?_⟩
      by_cases hr : 1 ≤ r b
      · exact hr
      · have h1 := gCnt_rest (dn := gDone r n k) (r := r) (n := n) (fun j hj => (h0 j hj).2) (fun j hj hj2 => by have := hi.2.2.1 j hj hj2; omega)
        rw [hc] at h1
        omega
  intro k
  induction k with
  | zero =>
    intro h
    have : gCnt (gDone r n 0) n = ((0 : Nat) : Int) := by
      unfold gCnt gDone
      clear h main h0 hs
      induction n with
      | zero => rfl
      | succ n ih => simp only [gS] at *; rw [ih]; rfl
    exact ⟨this, main 0 this⟩
  | succ k ih =>
    intro h
    have ih := ih (by omega)
    obtain ⟨b, hb, -⟩ := ih.2 (by omega)
    have hbe := gBest_of hb
    have : gCnt (gDone r n (k + 1)) n = ((k + 1 : Nat) : Int) := by
      rw [gCnt_set (dn := gDone r n k) (dn' := gDone r n (k + 1)) hb.1 hb.2.1 (by simp [gDone, hbe]) (fun j hj => by simp [gDone, hbe]; omega), ih.1]
      omega
    exact ⟨this, main (k + 1) this⟩
/-- every one that is done has a rest -/
theorem gDone_rest {r : Nat → Int} {n : Nat} {lf : Int} (h0 : ∀ j, j < n → 0 ≤ r j ∧ r j ≤ 59) (hs : gS r n = 60 * lf) : ∀ (k : Nat) (j : Nat), (k : Int) ≤ lf → gDone r n k j = true → j < n ∧ 1 ≤ r j
  | 0, j, _, h => by simp [gDone] at h
  | k + 1, j, hk, h => by
    simp only [gDone, Bool.or_eq_true, beq_iff_eq] at h
    rcases h with h | h
    · exact gDone_rest h0 hs k j (by omega) h
    · obtain ⟨b, hb, h1⟩ := (gNext h0 hs k (by omega)).2 (by omega)
      rw [gBest_of hb] at h
      cases h
      exact ⟨hb.1, h1⟩
/-- a coat's gift: u the rub, p the coat's parts, n the colours -/
def gBs (u : Int) (p : Nat → Int) (j : Nat) : Int := u * p j / 60
def gRs (u : Int) (p : Nat → Int) (j : Nat) : Int := u * p j % 60
def gLf (u : Int) (p : Nat → Int) (n : Nat) : Int := u - gS (gBs u p) n
def gGv (u : Int) (p : Nat → Int) (n : Nat) (j : Nat) : Int := gBs u p j + (if gDone (gRs u p) n (gLf u p n).toNat j then 1 else 0)
/-- a coat: parts not below 0, 60 in all -/
def gOk (p : Nat → Int) (n : Nat) : Prop := (∀ j, j < n → 0 ≤ p j) ∧ gS p n = 60
theorem gOk_le {p : Nat → Int} {n : Nat} (h : gOk p n) {j : Nat} (hj : j < n) : p j ≤ 60 := by
  have := gS_ge h.1 hj
  rw [h.2] at this
  exact this
theorem gRs_rg (u : Int) (p : Nat → Int) (j : Nat) : 0 ≤ gRs u p j ∧ gRs u p j ≤ 59 := by
  unfold gRs
  have h1 := Int.emod_nonneg (u * p j) (b := 60) (by decide)
  have h2 := Int.emod_lt_of_pos (u * p j) (b := 60) (by decide)
  omega
theorem gBR (u : Int) (p : Nat → Int) (j : Nat) : 60 * gBs u p j + gRs u p j = u * p j := by
  unfold gBs gRs
  exact Int.mul_ediv_add_emod _ _
theorem gRs_sum {u : Int} {p : Nat → Int} {n : Nat} (h : gOk p n) : gS (gRs u p) n = 60 * gLf u p n := by
  have h1 : gS (fun j => 60 * gBs u p j + gRs u p j) n = gS (fun j => u * p j) n := gS_congr (fun j _ => gBR u p j)
  rw [gS_add, gS_mul, gS_mul, h.2] at h1
  unfold gLf
  omega
theorem gBs_rg {u : Int} {p : Nat → Int} {n j : Nat} (h : gOk p n) (hu : 0 ≤ u ∧ u ≤ 30) (hj : j < n) : 0 ≤ gBs u p j ∧ 2 * gBs u p j ≤ p j ∧ 0 ≤ u * p j ∧ u * p j ≤ 1800 := by
  have h1 := h.1 j hj
  have h2 := gOk_le h hj
  have h3 : 0 ≤ u * p j := Int.mul_nonneg hu.1 h1
  have h4 : u * p j ≤ 30 * p j := Int.mul_le_mul_of_nonneg_right hu.2 h1
  have h5 := gBR u p j
  have h6 := gRs_rg u p j
  refine ⟨?_, ?_, h3, by omega⟩ <;> omega
theorem gLf_rg {u : Int} {p : Nat → Int} {n : Nat} (h : gOk p n) : 0 ≤ gLf u p n ∧ (0 < n → gLf u p n < n) ∧ (gLf u p n ≤ n) := by
  have h1 := gRs_sum (u := u) h
  have h2 : gS (gRs u p) n ≤ gS (fun _ => 59) n := gS_le (fun j hj => (gRs_rg u p j).2)
  have h3 : gS (fun _ => (59 : Int)) n = 59 * n := by
    clear h h1 h2
    induction n with
    | zero => rfl
    | succ n ih => simp only [gS]; omega
  have h4 : 0 ≤ gS (gRs u p) n := gS_nn (fun j hj => (gRs_rg u p j).1)
  omega
theorem gGv_rg {u : Int} {p : Nat → Int} {n j : Nat} (h : gOk p n) (hu : 0 ≤ u ∧ u ≤ 30) (hj : j < n) : 0 ≤ gGv u p n j ∧ gGv u p n j ≤ p j := by
  have h1 := gBs_rg h hu hj
  have hl := gLf_rg (u := u) h
  unfold gGv
  split
  · next hd =>
    have h2 := (gDone_rest (fun j hj => gRs_rg u p j) (gRs_sum h) _ j (by omega) hd).2
    have h3 := gBR u p j
    have h4 := h.1 j hj
    have h5 : u * p j ≤ 30 * p j := Int.mul_le_mul_of_nonneg_right hu.2 h4
    omega
  · omega
theorem gGv_sum {u : Int} {p : Nat → Int} {n : Nat} (h : gOk p n) : gS (gGv u p n) n = u := by
  have hl := gLf_rg (u := u) h
  have h1 := (gNext (fun j hj => gRs_rg u p j) (gRs_sum (u := u) h) (gLf u p n).toNat (by omega)).1
  unfold gCnt at h1
  have h2 : gS (gGv u p n) n = gS (gBs u p) n + gS (fun j => if gDone (gRs u p) n (gLf u p n).toNat j then 1 else 0) n := gS_add _ _ n
  rw [h2, h1]
  unfold gLf at *
  omega
