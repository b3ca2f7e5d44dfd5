/-! ===== the text, read: pure ===== -/
def txF (x : Nat → Int) : Nat → Nat → Nat
  | 0, a => a
  | f + 1, a => if x a = 32 then txF x f (a + 1) else a
/-- the first place from a on that is no blank -/
def txS (x : Nat → Int) (L a : Nat) : Nat := txF x (L - a) a
def txH (x : Nat → Int) (L a : Nat) : Int := if txS x L a < L then x (txS x L a) else -1
abbrev fg (v : Int) : Prop := 48 ≤ v ∧ v ≤ 57
def txJ (x : Nat → Int) : Nat → Nat → Nat
  | 0, a => a
  | f + 1, a => if fg (x a) then txJ x f (a + 1) else a
/-- where the figures from a on end -/
def txE (x : Nat → Int) (L a : Nat) : Nat := txJ x (L - a) a
def txP (x : Nat → Int) (s : Nat) : Nat → Int
  | 0 => 0
  | k + 1 => txP x s k * 10 + x (s + k) - 48
def txV (x : Nat → Int) (L a : Nat) : Int := txP x (txS x L a) (txE x L (txS x L a) - txS x L a)
/-- a number: (0, the place behind it) or (fault, place) -/
def txN (x : Nat → Int) (L : Nat) (lo hi : Int) (a : Nat) : Int × Nat := if fg (txH x L a) then (if txE x L (txS x L a) - txS x L a ≤ 3 ∧ lo ≤ txV x L a ∧ txV x L a ≤ hi then (0, txE x L (txS x L a)) else (2, txS x L a)) else (1, txS x L a)
def txG (x : Nat → Int) (L : Nat) (c : Int) (a : Nat) : Int × Nat := if txH x L a = c then (0, txS x L a + 1) else (1, txS x L a)
def txB (o : Int × Nat) (k : Nat → Int × Nat) : Int × Nat := if o.1 = 0 then k o.2 else o
def txCol (x : Nat → Int) (L a : Nat) : Int × Nat := txB (txN x L 2 5 a) (fun b => txB (txN x L 1 30 b) (fun c => txG x L 59 c))
def txXs (x : Nat → Int) (L a : Nat) : Nat → Int × Nat
  | 0 => (0, a)
  | k + 1 => txB (txXs x L a k) (fun b => txB (if k = 0 then (0, b) else txG x L 44 b) (fun c => txN x L 0 60 c))
def txXb (x : Nat → Int) (L a k : Nat) : Nat := if k = 0 then (txXs x L a k).2 else (txG x L 44 (txXs x L a k).2).2
def txXv (x : Nat → Int) (L a k : Nat) : Int := txV x L (txXb x L a k)
def txCoat (x : Nat → Int) (L n a : Nat) : Int × Nat := txB (txXs x L a n) (fun b => if gS (txXv x L a) n = 60 then txG x L 59 b else (4, txS x L (txXb x L a (n - 1))))
def txKind (x : Nat → Int) (L : Nat) (G : Int) (m a : Nat) : Int × Nat := txB (txN x L 0 ((m : Int) - 1) a) (fun b => if zbit G (txV x L a) = 1 then (4, txS x L a) else txG x L 59 b)
def txTch (x : Nat → Int) (L m a : Nat) : Int × Nat := txB (txN x L 0 ((m : Int) - 1) a) (fun b => txB (txN x L 0 ((m : Int) - 1) b) (fun c => if txV x L b = txV x L a then (4, txS x L b) else (0, c)))
def txTs (x : Nat → Int) (L m a : Nat) : Nat → Int × Nat
  | 0 => (0, a)
  | k + 1 => txB (txTs x L m a k) (fun b => txTch x L m (if k = 0 then b else txS x L b + 1))
def txTb (x : Nat → Int) (L m a k : Nat) : Nat := if k = 0 then (txTs x L m a k).2 else txS x L (txTs x L m a k).2 + 1
def txTf (x : Nat → Int) (L m a k : Nat) : Int := txV x L (txTb x L m a k)
def txTg (x : Nat → Int) (L m a k : Nat) : Int := txV x L (txN x L 0 ((m : Int) - 1) (txTb x L m a k)).2
def txTn (x : Nat → Int) (L m a : Nat) : Nat → Nat → Nat
  | 0, k => k
  | f + 1, k => if (txTs x L m a k).1 = 0 ∧ txH x L (txTs x L m a k).2 = 44 then txTn x L m a f (k + 1) else k
def txDay (x : Nat → Int) (L m a : Nat) : Int × Nat := txB (txTs x L m a (txTn x L m a 9 1)) (fun b => txG x L 59 b)
/-- what is read: place, COLOURS, K, COATS, GLOVES, DOGS, TOUCHES; own parts, first ones, second ones -/
abbrev txT : Type := Nat × Nat × Int × Nat × Int × Int × Nat × (Nat → Int) × (Nat → Int) × (Nat → Int)
/-- the next clause: its outcome -/
def txO (x : Nat → Int) (L : Nat) : txT → Int × Nat
  | (a, n, _, m, g, d, t, _, _, _) => if txH x L a = 99 then (if 0 < n then (3, txS x L a) else txCol x L (txS x L a + 1)) else if n = 0 then (1, txS x L a) else if txH x L a = 112 then (if m = 6 then (3, txS x L a) else txCoat x L n (txS x L a + 1)) else if txH x L a = 103 ∨ txH x L a = 104 then txKind x L (zor g d) m (txS x L a + 1) else if txH x L a = 116 then (if 0 < t then (3, txS x L a) else txDay x L m (txS x L a + 1)) else (1, txS x L a)
/-- what is read behind it -/
def txQ (x : Nat → Int) (L : Nat) : txT → txT
  | (a, n, u, m, g, d, t, ow, f, s) => if txH x L a = 99 then ((txCol x L (txS x L a + 1)).2, (txV x L (txS x L a + 1)).toNat, txV x L (txN x L 2 5 (txS x L a + 1)).2, m, g, d, t, ow, f, s) else if txH x L a = 112 then ((txCoat x L n (txS x L a + 1)).2, n, u, m + 1, g, d, t, (fun i => if i / 5 = m then txXv x L (txS x L a + 1) (i % 5) else ow i), f, s) else if txH x L a = 103 then ((txKind x L (zor g d) m (txS x L a + 1)).2, n, u, m, zor g (zshl 1 (txV x L (txS x L a + 1))), d, t, ow, f, s) else if txH x L a = 104 then ((txKind x L (zor g d) m (txS x L a + 1)).2, n, u, m, g, zor d (zshl 1 (txV x L (txS x L a + 1))), t, ow, f, s) else ((txDay x L m (txS x L a + 1)).2, n, u, m, g, d, txTn x L m (txS x L a + 1) 9 1, ow, txTf x L m (txS x L a + 1), txTg x L m (txS x L a + 1))
def txR (x : Nat → Int) (L : Nat) : Nat → txT → (Int × Nat) × txT
  | 0, S => ((0, 0), S)
  | k + 1, S => if txH x L S.1 = -1 then ((0, 0), S) else if (txO x L S).1 = 0 then txR x L k (txQ x L S) else (txO x L S, S)
theorem txF_le {x : Nat → Int} : ∀ f a, a ≤ txF x f a ∧ txF x f a ≤ a + f
  | 0, a => by simp [txF]
  | f + 1, a => by
    simp only [txF]
    split
    · have := txF_le (x := x) f (a + 1); omega
    · omega
theorem txS_le {x : Nat → Int} {L a : Nat} : a ≤ txS x L a := (txF_le _ _).1
theorem txS_L {x : Nat → Int} {L a : Nat} (h : a ≤ L) : txS x L a ≤ L := by
  have := (txF_le (x := x) (L - a) a).2
  unfold txS
  omega
theorem txF_end {x : Nat → Int} : ∀ f a, txF x f a < a + f → x (txF x f a) ≠ 32
  | 0, a, h => by simp [txF] at h
  | f + 1, a, h => by
    simp only [txF] at h ⊢
    split
    · next e => rw [if_pos e] at h; exact txF_end f (a + 1) (by omega)
    · next e => exact e
theorem txS_end {x : Nat → Int} {L a : Nat} (h : txS x L a < L) : x (txS x L a) ≠ 32 := txF_end _ _ (by have := @txS_le x L a; unfold txS at *; omega)
theorem txS_stop {x : Nat → Int} {L a : Nat} (h : ¬ (a < L ∧ x a = 32)) : txS x L a = a := by
  unfold txS
  cases e : L - a with
  | zero => rfl
  | succ f =>
    simp only [txF]
    rw [if_neg (fun q => h ⟨by omega, q⟩)]
theorem txS_step {x : Nat → Int} {L a : Nat} (h1 : a < L) (h2 : x a = 32) : txS x L (a + 1) = txS x L a := by
  unfold txS
  have e : L - a = (L - (a + 1)) + 1 := by omega
  rw [e]
  simp only [txF]
  rw [if_pos h2]
theorem txS_sk {x : Nat → Int} {L a : Nat} : txS x L (txS x L a) = txS x L a := txS_stop (fun h => txS_end h.1 h.2)
theorem txH_sk {x : Nat → Int} {L a : Nat} : txH x L (txS x L a) = txH x L a := by unfold txH; rw [txS_sk]
theorem txH_lt {x : Nat → Int} {L a : Nat} (h : 0 ≤ txH x L a) : txS x L a < L ∧ txH x L a = x (txS x L a) := by
  unfold txH at *
  split at h
  · next e => exact ⟨e, if_pos e⟩
  · omega
theorem txJ_le {x : Nat → Int} : ∀ f a, a ≤ txJ x f a ∧ txJ x f a ≤ a + f
  | 0, a => by simp [txJ]
  | f + 1, a => by
    simp only [txJ]
    split
    · have := txJ_le (x := x) f (a + 1); omega
    · omega
theorem txE_le {x : Nat → Int} {L a : Nat} : a ≤ txE x L a := (txJ_le _ _).1
theorem txE_L {x : Nat → Int} {L a : Nat} (h : a ≤ L) : txE x L a ≤ L := by
  have := (txJ_le (x := x) (L - a) a).2
  unfold txE
  omega
theorem txE_stop {x : Nat → Int} {L a : Nat} (h : ¬ (a < L ∧ fg (x a))) : txE x L a = a := by
  unfold txE
  cases e : L - a with
  | zero => rfl
  | succ f =>
    simp only [txJ]
    rw [if_neg (fun q => h ⟨by omega, q⟩)]
theorem txE_step {x : Nat → Int} {L a : Nat} (h1 : a < L) (h2 : fg (x a)) : txE x L (a + 1) = txE x L a := by
  unfold txE
  have e : L - a = (L - (a + 1)) + 1 := by omega
  rw [e]
  simp only [txJ]
  rw [if_pos h2]
theorem txP_rg {x : Nat → Int} {s k : Nat} (h : ∀ i, s ≤ i → i < s + k → fg (x i)) (hk : k ≤ 3) : 0 ≤ txP x s k ∧ txP x s k ≤ 999 := by
  have h0 : ∀ j, j < k → fg (x (s + j)) := fun j hj => h _ (by omega) (by omega)
  match k, hk with
  | 0, _ => simp [txP]
  | 1, _ => have := h0 0 (by omega); simp only [txP] at *; omega
  | 2, _ => have := h0 0 (by omega); have := h0 1 (by omega); simp only [txP] at *; omega
  | 3, _ => have := h0 0 (by omega); have := h0 1 (by omega); have := h0 2 (by omega); simp only [txP] at *; omega
theorem txN_1 {x : Nat → Int} {L : Nat} {lo hi : Int} {a : Nat} (h : ¬ fg (txH x L a)) : txN x L lo hi a = (1, txS x L a) := if_neg h
theorem txN_2 {x : Nat → Int} {L : Nat} {lo hi : Int} {a : Nat} (h : fg (txH x L a)) (h2 : ¬ (txE x L (txS x L a) - txS x L a ≤ 3 ∧ lo ≤ txV x L a ∧ txV x L a ≤ hi)) : txN x L lo hi a = (2, txS x L a) := by
  unfold txN
  rw [if_pos h, if_neg h2]
theorem txN_3 {x : Nat → Int} {L : Nat} {lo hi : Int} {a : Nat} (h : fg (txH x L a)) (h2 : txE x L (txS x L a) - txS x L a ≤ 3 ∧ lo ≤ txV x L a ∧ txV x L a ≤ hi) : txN x L lo hi a = (0, txE x L (txS x L a)) := by
  unfold txN
  rw [if_pos h, if_pos h2]
theorem txN_0 {x : Nat → Int} {L : Nat} {lo hi : Int} {a : Nat} (h : (txN x L lo hi a).1 = 0) : (lo ≤ txV x L a ∧ txV x L a ≤ hi) ∧ a < (txN x L lo hi a).2 ∧ (txN x L lo hi a).2 ≤ L := by
  by_cases h1 : fg (txH x L a)
  · by_cases h2 : txE x L (txS x L a) - txS x L a ≤ 3 ∧ lo ≤ txV x L a ∧ txV x L a ≤ hi
    · rw [txN_3 h1 h2]
      have h3 := txH_lt (x := x) (L := L) (a := a) (by omega)
      have h4 := txE_step (x := x) (L := L) (a := txS x L a) h3.1 (by rw [← h3.2]; exact h1)
      have h5 := @txE_le x L (txS x L a + 1)
      have h6 := @txE_L x L (txS x L a) (by omega)
      have h7 := @txS_le x L a
      exact ⟨h2.2, by show a < txE x L (txS x L a); omega, h6⟩
    · rw [txN_2 h1 h2] at h
      cases h
  · rw [txN_1 h1] at h
    cases h
theorem txN_rg {x : Nat → Int} {L : Nat} {lo hi : Int} {a : Nat} : 0 ≤ (txN x L lo hi a).1 ∧ (txN x L lo hi a).1 ≤ 4 := by
  unfold txN
  split
  · split <;> simp
  · simp
theorem txG_rg {x : Nat → Int} {L : Nat} {c : Int} {a : Nat} : 0 ≤ (txG x L c a).1 ∧ (txG x L c a).1 ≤ 4 := by
  unfold txG
  split <;> simp
theorem txG_y {x : Nat → Int} {L : Nat} {c : Int} {a : Nat} (h : txH x L a = c) : txG x L c a = (0, txS x L a + 1) := if_pos h
theorem txG_n {x : Nat → Int} {L : Nat} {c : Int} {a : Nat} (h : ¬ txH x L a = c) : txG x L c a = (1, txS x L a) := if_neg h
theorem txG_0 {x : Nat → Int} {L : Nat} {c : Int} {a : Nat} (hc : 0 ≤ c) (h : (txG x L c a).1 = 0) : a < (txG x L c a).2 ∧ (txG x L c a).2 ≤ L := by
  by_cases h1 : txH x L a = c
  · rw [txG_y h1]
    have h3 := txH_lt (x := x) (L := L) (a := a) (by omega)
    have h7 := @txS_le x L a
    exact ⟨by show a < txS x L a + 1; omega, h3.1⟩
  · rw [txG_n h1] at h
    cases h
theorem txG_sk {x : Nat → Int} {L : Nat} {c : Int} {a : Nat} : txG x L c (txS x L a) = txG x L c a := by unfold txG; rw [txH_sk, txS_sk]
theorem txB_0 {o : Int × Nat} {k : Nat → Int × Nat} (h : o.1 = 0) : txB o k = k o.2 := if_pos h
theorem txB_n {o : Int × Nat} {k : Nat → Int × Nat} (h : o.1 ≠ 0) : txB o k = o := if_neg h
theorem txB_z {o : Int × Nat} {k : Nat → Int × Nat} (h : (txB o k).1 = 0) : o.1 = 0 ∧ (k o.2).1 = 0 ∧ txB o k = k o.2 := by
  by_cases e : o.1 = 0
  · rw [txB_0 e] at h ⊢
    exact ⟨e, h, rfl⟩
  · rw [txB_n e] at h
    exact absurd h e
theorem txCol_0 {x : Nat → Int} {L a : Nat} (h : (txCol x L a).1 = 0) : (2 ≤ txV x L a ∧ txV x L a ≤ 5) ∧ (1 ≤ txV x L (txN x L 2 5 a).2 ∧ txV x L (txN x L 2 5 a).2 ≤ 30) ∧ a < (txCol x L a).2 ∧ (txCol x L a).2 ≤ L := by
  unfold txCol at *
  obtain ⟨h1, h2, e1⟩ := txB_z h
  obtain ⟨h3, h4, e2⟩ := txB_z h2
  rw [e1, e2]
  have n1 := txN_0 h1
  have n2 := txN_0 h3
  have n3 := txG_0 (by decide) h4
  exact ⟨n1.1, n2.1, by omega, n3.2⟩
theorem txXs_0 {x : Nat → Int} {L a : Nat} (ha : a ≤ L) : ∀ k, (txXs x L a k).1 = 0 → (∀ j, j < k → (txXs x L a j).1 = 0 ∧ 0 ≤ txXv x L a j ∧ txXv x L a j ≤ 60) ∧ a ≤ (txXs x L a k).2 ∧ (txXs x L a k).2 ≤ L
  | 0, _ => ⟨fun j hj => by omega, Nat.le_refl _, ha⟩
  | k + 1, h => by
    simp only [txXs] at h ⊢
    obtain ⟨h1, h2, e1⟩ := txB_z h
    obtain ⟨h3, h4, e2⟩ := txB_z h2
    obtain ⟨i1, i2, i3⟩ := txXs_0 ha k h1
    have n1 := txN_0 h4
    rw [e1, e2]
    have hb : txXb x L a k = (if k = 0 then ((0 : Int), (txXs x L a k).2) else txG x L 44 (txXs x L a k).2).2 := by
      unfold txXb
      split <;> rfl
    have hle : (txXs x L a k).2 ≤ txXb x L a k := by
      unfold txXb
      split
      · exact Nat.le_refl _
      · next hk =>
        rw [if_neg hk] at h3
        exact Nat.le_of_lt (txG_0 (by decide) h3).1
    refine ⟨fun j hj => ?_, by rw [← hb] at n1 ⊢; omega, n1.2.2⟩
    by_cases e : j = k
    · subst e
      exact ⟨h1, by unfold txXv; rw [hb]; exact n1.1.1, by unfold txXv; rw [hb]; exact n1.1.2⟩
    · exact i1 j (by omega)
theorem txCoat_0 {x : Nat → Int} {L n a : Nat} (ha : a ≤ L) (h : (txCoat x L n a).1 = 0) : gOk (txXv x L a) n ∧ a < (txCoat x L n a).2 ∧ (txCoat x L n a).2 ≤ L := by
  unfold txCoat at *
  obtain ⟨h1, h2, e1⟩ := txB_z h
  obtain ⟨i1, i2, i3⟩ := txXs_0 ha n h1
  rw [e1]
  split at h2
  · next e =>
    rw [if_pos e]
    have := txG_0 (by decide) h2
    exact ⟨⟨fun j hj => (i1 j hj).2.1, e⟩, by omega, this.2⟩
  · cases h2
theorem txKind_0 {x : Nat → Int} {L m a : Nat} {G : Int} (h : (txKind x L G m a).1 = 0) : (0 ≤ txV x L a ∧ txV x L a ≤ (m : Int) - 1) ∧ a < (txKind x L G m a).2 ∧ (txKind x L G m a).2 ≤ L := by
  unfold txKind at *
  obtain ⟨h1, h2, e1⟩ := txB_z h
  have n1 := txN_0 h1
  rw [e1]
  split at h2
  · cases h2
  · next e =>
    rw [if_neg e]
    have := txG_0 (by decide) h2
    exact ⟨n1.1, by omega, this.2⟩
theorem txTch_0 {x : Nat → Int} {L m a : Nat} (h : (txTch x L m a).1 = 0) : (0 ≤ txV x L a ∧ txV x L a < m) ∧ (0 ≤ txV x L (txN x L 0 ((m : Int) - 1) a).2 ∧ txV x L (txN x L 0 ((m : Int) - 1) a).2 < m) ∧ txV x L a ≠ txV x L (txN x L 0 ((m : Int) - 1) a).2 ∧ a < (txTch x L m a).2 ∧ (txTch x L m a).2 ≤ L := by
  unfold txTch at *
  obtain ⟨h1, h2, e1⟩ := txB_z h
  obtain ⟨h3, h4, e2⟩ := txB_z h2
  have n1 := txN_0 h1
  have n2 := txN_0 h3
  rw [e1, e2]
  split at h4
  · cases h4
  · next e =>
    rw [if_neg e]
    refine ⟨by omega, by omega, fun q => e q.symm, ?_, n2.2.2⟩
    show a < (txN x L 0 ((m : Int) - 1) (txN x L 0 ((m : Int) - 1) a).2).2
    omega
theorem txTs_0 {x : Nat → Int} {L m a : Nat} (ha : a ≤ L) : ∀ k, (txTs x L m a k).1 = 0 → dOk m k (txTf x L m a) (txTg x L m a) ∧ a ≤ (txTs x L m a k).2 ∧ (txTs x L m a k).2 ≤ L
  | 0, _ => ⟨fun j hj => by omega, Nat.le_refl _, ha⟩
  | k + 1, h => by
    simp only [txTs] at h ⊢
    obtain ⟨h1, h2, e1⟩ := txB_z h
    obtain ⟨i1, i2, i3⟩ := txTs_0 ha k h1
    have n1 := txTch_0 h2
    rw [e1]
    have hb : txTb x L m a k = (if k = 0 then (txTs x L m a k).2 else txS x L (txTs x L m a k).2 + 1) := rfl
    rw [← hb] at n1 ⊢
    have hle : (txTs x L m a k).2 ≤ txTb x L m a k := by
      unfold txTb
      split
      · exact Nat.le_refl _
      · have := @txS_le x L (txTs x L m a k).2; omega
    refine ⟨fun j hj => ?_, by omega, n1.2.2.2.2⟩
    by_cases e : j = k
    · subst e
      exact ⟨n1.1.1, n1.1.2, n1.2.1.1, n1.2.1.2, n1.2.2.1⟩
    · exact i1 j (by omega)
theorem txTn_rg {x : Nat → Int} {L m a : Nat} : ∀ f k, k ≤ txTn x L m a f k ∧ txTn x L m a f k ≤ k + f
  | 0, k => by simp [txTn]
  | f + 1, k => by
    simp only [txTn]
    split
    · have := txTn_rg (x := x) (L := L) (m := m) (a := a) f (k + 1); omega
    · omega
theorem txDay_0 {x : Nat → Int} {L m a : Nat} (ha : a ≤ L) (h : (txDay x L m a).1 = 0) : dOk m (txTn x L m a 9 1) (txTf x L m a) (txTg x L m a) ∧ a < (txDay x L m a).2 ∧ (txDay x L m a).2 ≤ L := by
  unfold txDay at *
  obtain ⟨h1, h2, e1⟩ := txB_z h
  obtain ⟨i1, i2, i3⟩ := txTs_0 ha _ h1
  rw [e1]
  have := txG_0 (by decide) h2
  exact ⟨i1, by omega, this.2⟩
theorem txO_sk {x : Nat → Int} {L a n m t : Nat} {u g d : Int} {ow f s : Nat → Int} : txO x L (txS x L a, n, u, m, g, d, t, ow, f, s) = txO x L (a, n, u, m, g, d, t, ow, f, s) := by simp only [txO, txH_sk, txS_sk]
theorem txQ_sk {x : Nat → Int} {L a n m t : Nat} {u g d : Int} {ow f s : Nat → Int} : txQ x L (txS x L a, n, u, m, g, d, t, ow, f, s) = txQ x L (a, n, u, m, g, d, t, ow, f, s) := by simp only [txQ, txH_sk, txS_sk]
/-- what has been read is a house -/
def txW (L : Nat) : txT → Prop
  | (a, n, u, m, _, _, t, ow, f, s) => a ≤ L ∧ n ≤ 5 ∧ (n = 0 ∨ 2 ≤ n) ∧ (0 < m → 2 ≤ n) ∧ m ≤ 6 ∧ t ≤ 10 ∧ (0 ≤ u ∧ u ≤ 30) ∧ rOk n m ow ∧ dOk m t f s
theorem txW_next {x : Nat → Int} {L : Nat} : ∀ S : txT, txW L S → (txO x L S).1 = 0 → txW L (txQ x L S) ∧ S.1 < (txQ x L S).1
  | (a, n, u, m, g, d, t, ow, f, s), hW, h => by
    obtain ⟨w1, w2, w3, w4, w5, w6, w7, w8, w9⟩ := hW
    have hs := @txS_le x L a
    simp only [txO] at h
    simp only [txQ]
    by_cases c1 : txH x L a = 99
    · rw [if_pos c1] at h ⊢
      split at h
      · cases h
      · have hl := txH_lt (x := x) (L := L) (a := a) (by omega)
        have := txCol_0 h
        refine ⟨⟨this.2.2.2, by omega, by omega, by omega, w5, w6, by omega, fun b hb => by omega, w9⟩, ?_⟩
        show a < (txCol x L (txS x L a + 1)).2
        omega
    · rw [if_neg c1] at h ⊢
      split at h
      · cases h
      · next hn =>
        by_cases c2 : txH x L a = 112
        · rw [if_pos c2] at h ⊢
          have hl := txH_lt (x := x) (L := L) (a := a) (by omega)
          split at h
          · cases h
          · have := txCoat_0 (by omega) h
            refine ⟨⟨this.2.2, w2, w3, by omega, by omega, w6, w7, fun b hb => ?_, fun k hk => ?_⟩, ?_⟩
            · by_cases e : b = m
              · subst e
                refine gOk_congr (fun j hj => ?_) this.1
                show _ = if (b * 5 + j) / 5 = b then txXv x L (txS x L a + 1) ((b * 5 + j) % 5) else ow (b * 5 + j)
                rw [if_pos (by omega), show (b * 5 + j) % 5 = j by omega]
              · refine gOk_congr (fun j hj => ?_) (w8 b (by omega))
                show _ = if (b * 5 + j) / 5 = m then txXv x L (txS x L a + 1) ((b * 5 + j) % 5) else ow (b * 5 + j)
                rw [if_neg (by omega)]
                rfl
            · have := w9 k hk
              omega
            · show a < (txCoat x L n (txS x L a + 1)).2
              omega
        · rw [if_neg c2] at h ⊢
          by_cases c3 : txH x L a = 103
          · rw [if_pos (Or.inl c3)] at h
            rw [if_pos c3]
            have := txKind_0 h
            refine ⟨⟨this.2.2, w2, w3, w4, w5, w6, w7, w8, w9⟩, ?_⟩
            show a < (txKind x L (zor g d) m (txS x L a + 1)).2
            omega
          · rw [if_neg c3]
            by_cases c4 : txH x L a = 104
            · rw [if_pos (Or.inr c4)] at h
              rw [if_pos c4]
              have := txKind_0 h
              refine ⟨⟨this.2.2, w2, w3, w4, w5, w6, w7, w8, w9⟩, ?_⟩
              show a < (txKind x L (zor g d) m (txS x L a + 1)).2
              omega
            · rw [if_neg c4]
              rw [if_neg (by omega)] at h
              split at h
              · next c5 =>
                have hl := txH_lt (x := x) (L := L) (a := a) (by omega)
                split at h
                · cases h
                · have := txDay_0 (by omega) h
                  have ht := txTn_rg (x := x) (L := L) (m := m) (a := txS x L a + 1) 9 1
                  refine ⟨⟨this.2.2, w2, w3, w4, w5, by omega, w7, w8, this.1⟩, ?_⟩
                  show a < (txDay x L m (txS x L a + 1)).2
                  omega
              · cases h
theorem txR_W {x : Nat → Int} {L : Nat} : ∀ k S, txW L S → txW L (txR x L k S).2
  | 0, S, h => h
  | k + 1, S, h => by
    simp only [txR]
    split
    · exact h
    · split
      · next e => exact txR_W k _ (txW_next S h e).1
      · exact h
