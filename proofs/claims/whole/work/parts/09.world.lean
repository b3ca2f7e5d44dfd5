/-! ===== the world: kinds of cells, their contents as numbers, locals, the judgement zA ===== -/
/-- base, the script's cell, classes, array classes of int, boolean, State, int[] -/
abbrev zG : Type := Nat × Nat × va_G × ClassId × ClassId × ClassId × ClassId
def zc (G : zG) : zV → Value
  | .inl v => .int (Int32.ofInt v)
  | .inr (.inl k) => .ref (G.1 + k)
  | .inr (.inr (.inl v)) => .long (Int64.ofInt v)
  | .inr (.inr (.inr _)) => .ref G.2.1
/-- a cell: its kind (0..9 the classes, 10 int[], 11 boolean[], 12 State[], 13 int[][]), its length, its references -/
abbrev zK : Type := Nat × Nat × List (Option Nat)
abbrev zT : Type := List zK
abbrev zM : Type := Nat → Nat → Int
def znth {α : Type} : List α → Nat → Option α
  | [], _ => none
  | a :: _, 0 => some a
  | _ :: l, n + 1 => znth l n
def zfl : Nat → List Bool
  | 0 => [true, true]
  | 1 => [true, false, false]
  | 2 => [true, true, true, true, true, true, false, false, false, false, false, false]
  | 3 => [true, true, false, false]
  | 4 => [true, false, false, false, false, false]
  | 5 => [true, true, false, false, false, false, false, false]
  | 6 => [true, true, true, false, false, false, false, false, false, false, false]
  | 7 => [true, false, false, false]
  | 8 => [true, true, true, true, true, true, true, true, true, true, true, true, true, false, false, false]
  | 9 => [false, false, false, true, false, false, true, true, true, false, true, false, false, false, false, false, false, false, false, true, false, false, false, true, true, true, false, true, true, true, false, false, true, false, true, true, true, false, true, true, true, true]
  | _ => []
def zrf (G : zG) (r : Option Nat) : Option Nat := r.map (fun k => G.1 + k)
/-- a field's value -/
def zfv (G : zG) (e : zK) (μ : zM) (k : Nat) (j : Nat) : Value :=
  match znth (zfl e.1) j with
  | some true => va_rf (zrf G ((znth e.2.2 j).getD none))
  | _ => .int (Int32.ofInt (μ k j))
def zfs (G : zG) (e : zK) (μ : zM) (k : Nat) : List Value := (List.range (zfl e.1).length).map (zfv G e μ k)
def zE (G : zG) (e : zK) (μ : zM) (k : Nat) : va_E :=
  if e.1 = 10 then .inl (G.2.2.2.1, e.2.1, .inl (fun i => Int32.ofInt (μ k i)))
  else if e.1 = 11 then .inl (G.2.2.2.2.1, e.2.1, .inl (fun i => Int32.ofInt (μ k i)))
  else if e.1 = 12 then .inl (G.2.2.2.2.2.1, e.2.1, .inr (.inr (.inr (.inr (fun i => zrf G ((znth e.2.2 i).getD none))))))
  else if e.1 = 13 then .inl (G.2.2.2.2.2.2, e.2.1, .inr (.inr (.inr (.inr (fun i => zrf G ((znth e.2.2 i).getD none))))))
  else .inr (e.1, zfs G e μ k)
def zW (G : zG) (T : zT) (μ : zM) : va_W := T.mapIdx (fun k e => (G.1 + k, zE G e μ k))
theorem znth_get {α : Type} : ∀ (l : List α) (i : Nat), znth l i = l[i]?
  | [], i => by simp [znth]
  | a :: l, 0 => by simp [znth]
  | a :: l, i + 1 => by simp [znth, znth_get l i]
theorem zW_at {G : zG} {T : zT} {μ : zM} {k : Nat} {e : zK} (h : znth T k = some e) : (zW G T μ)[k]? = some (G.1 + k, zE G e μ k) := by
  rw [znth_get] at h
  simp [zW, h]
theorem zW_len (G : zG) (T : zT) (μ : zM) : (zW G T μ).length = T.length := by simp [zW]
theorem zW_D {G : zG} {T : zT} {μ : zM} : va_D (fun q => G.1 ≤ q) (zW G T μ) := by
  refine ⟨fun i j p q hi hj hpq => ?_, fun k q hk => ?_⟩
  · simp only [zW, List.getElem?_mapIdx, Option.map_eq_some_iff] at hi hj
    obtain ⟨e1, -, h1⟩ := hi
    obtain ⟨e2, -, h2⟩ := hj
    rw [← h1, ← h2] at hpq
    simp only at hpq
    omega
  · simp only [zW, List.getElem?_mapIdx, Option.map_eq_some_iff] at hk
    obtain ⟨e1, -, h1⟩ := hk
    rw [← h1]
    exact Nat.le_add_right _ _
theorem zE_congr {G : zG} {e : zK} {μ μ' : zM} {j : Nat} (hm : μ' j = μ j) : zE G e μ' j = zE G e μ j := by
  have h1 : zfv G e μ' j = zfv G e μ j := funext fun i => by simp [zfv, hm]
  unfold zE zfs
  rw [hm, h1]
/-- one cell anew: the others the same -/
theorem zW_set {G : zG} {T : zT} {μ μ' : zM} {k : Nat} {e : zK} {x : va_E} (h : znth T k = some e) (hx : zE G e μ' k = x) (ho : ∀ j i, j ≠ k → μ' j i = μ j i) : (zW G T μ).set k (G.1 + k, x) = zW G T μ' := by
  apply List.ext_getElem?
  intro j
  rw [znth_get] at h
  obtain ⟨hk, he⟩ := List.getElem?_eq_some_iff.mp h
  rw [List.getElem?_set]
  by_cases hj : k = j
  · subst hj
    simp [zW, he, hk, hx]
  · rw [if_neg hj]
    simp only [zW, List.getElem?_mapIdx]
    cases hT : T[j]? with
    | none => rfl
    | some e' =>
      have hm : μ' j = μ j := funext fun i => ho j i (fun q => hj q.symm)
      simp only [Option.map_some, zE_congr hm]
theorem zE_i {G : zG} {n : Nat} {r : List (Option Nat)} {μ : zM} {k : Nat} : zE G (10, n, r) μ k = .inl (G.2.2.2.1, n, .inl (fun i => Int32.ofInt (μ k i))) := rfl
theorem zE_z {G : zG} {n : Nat} {r : List (Option Nat)} {μ : zM} {k : Nat} : zE G (11, n, r) μ k = .inl (G.2.2.2.2.1, n, .inl (fun i => Int32.ofInt (μ k i))) := rfl
theorem zE_s {G : zG} {n : Nat} {r : List (Option Nat)} {μ : zM} {k : Nat} : zE G (12, n, r) μ k = .inl (G.2.2.2.2.2.1, n, .inr (.inr (.inr (.inr (fun i => zrf G ((znth r i).getD none)))))) := rfl
theorem zE_g {G : zG} {n : Nat} {r : List (Option Nat)} {μ : zM} {k : Nat} : zE G (13, n, r) μ k = .inl (G.2.2.2.2.2.2, n, .inr (.inr (.inr (.inr (fun i => zrf G ((znth r i).getD none)))))) := rfl
theorem zE_o {G : zG} {e : zK} {μ : zM} {k : Nat} (h : e.1 < 10) : zE G e μ k = .inr (e.1, zfs G e μ k) := by
  unfold zE
  rw [if_neg (by omega), if_neg (by omega), if_neg (by omega), if_neg (by omega)]
theorem zfs_at {G : zG} {e : zK} {μ : zM} {k j : Nat} (h : j < (zfl e.1).length) : (zfs G e μ k)[j]? = some (zfv G e μ k j) := by
  simp [zfs, h]
theorem zfs_len {G : zG} {e : zK} {μ : zM} {k : Nat} : (zfs G e μ k).length = (zfl e.1).length := by simp [zfs]
/-- memory with one slot anew -/
def zup (μ : zM) (k i : Nat) (v : Int) : zM := fun k' i' => if k' = k ∧ i' = i then v else μ k' i'
theorem zup_s {μ : zM} {k i : Nat} {v : Int} : zup μ k i v k i = v := by simp [zup]
theorem zup_n {μ : zM} {k i k' i' : Nat} {v : Int} (h : ¬ (k' = k ∧ i' = i)) : zup μ k i v k' i' = μ k' i' := if_neg h
theorem zup_k {μ : zM} {k i k' i' : Nat} {v : Int} (h : k' ≠ k) : zup μ k i v k' i' = μ k' i' := if_neg (fun q => h q.1)
theorem zup_r {μ : zM} {k i : Nat} {v : Int} (h : ∀ k i, zr (μ k i)) (hv : zr v) : ∀ k' i', zr (zup μ k i v k' i') := by
  intro k' i'
  unfold zup
  split
  · exact hv
  · exact h k' i'
/-- n slots copied -/
def zcp (μ : zM) (a sp b dp n : Nat) : zM := fun k i => if k = b ∧ dp ≤ i ∧ i < dp + n then μ a (sp + (i - dp)) else μ k i
def zCl : List vw_C := [(RX0, TX0, 2), (RX1, TX1, 3), (RX2, TX2, 12), (RX3, TX3, 4), (RX4, TX4, 6), (RX5, TX5, 8), (RX6, TX6, 11), (RX7, TX7, 4), (RX8, TX8, 16), (RX9, TX9, 42)]
def zTy (G : zG) : List (ClassId × FieldType) := [(G.2.2.2.1, .int), (G.2.2.2.2.1, .boolean), (G.2.2.2.2.2.1, .object RX7), (G.2.2.2.2.2.2, .array .int)]
def zws : List Cond := lw_tbl.filter goodWord
def zNest (w : Cond) : Prop := w ∈ lw_tbl ∧ ((∃ a i x h, w = .methodLinkNest a i x h) ∨ (∃ t, w = .arrayOver t))
/-- the locals: size, form, and the values that are known -/
def zLs (G : zG) (nL : Nat) (ls : List (Option zV)) (la : Array Slot) : Prop := la.size = nL ∧ lv_wf la ∧ ∀ i v, znth ls i = some (some v) → la[i]? = some (.val (zc G v))
def zal (G : zG) (ls : List (Option zV)) : List (Nat × Value) := (List.range ls.length).filterMap (fun i => match znth ls i with | some (some v) => some (i, zc G v) | _ => none)
theorem zal_mem {G : zG} {ls : List (Option zV)} {i : Nat} {v : zV} (h : znth ls i = some (some v)) : (i, zc G v) ∈ zal G ls := by
  refine List.mem_filterMap.mpr ⟨i, ?_, ?_⟩
  · rw [znth_get] at h
    exact List.mem_range.mpr (List.getElem?_eq_some_iff.mp h).1
  · simp [h]
theorem zLs.has {G : zG} {nL : Nat} {ls : List (Option zV)} {la : Array Slot} (h : zLs G nL ls la) : lv_has la nL (zal G ls) := by
  refine ⟨h.1, h.2.1, fun q hq => ?_⟩
  obtain ⟨i, -, hi⟩ := List.mem_filterMap.mp hq
  cases hv : znth ls i with
  | none => rw [hv] at hi; cases hi
  | some o =>
    cases o with
    | none => rw [hv] at hi; cases hi
    | some v =>
      rw [hv] at hi
      cases hi
      exact h.2.2 i v hv
def zlg : Option zV → Bool
  | some (.inr (.inr (.inl _))) => true
  | _ => false
def zst : List (Option zV) → Nat → zV → List (Option zV)
  | [], _, _ => []
  | _ :: l, 0, v => some v :: l
  | o :: l, 1, v => (if zlg o then none else o) :: zst l 0 v
  | o :: l, n + 2, v => o :: zst l (n + 1) v
def zst2 : List (Option zV) → Nat → zV → List (Option zV)
  | [], _, _ => []
  | [_], _, _ => []
  | _ :: _ :: l, 0, v => some v :: none :: l
  | o :: l, 1, v => (if zlg o then none else o) :: zst2 l 0 v
  | o :: l, n + 2, v => o :: zst2 l (n + 1) v
theorem zlg_cat {G : zG} {v : zV} (h : (zc G v).category = 2) : zlg (some v) = true := by
  rcases v with v | v | v | v <;> simp_all [zc, Value.category, zlg]
theorem zst_at : ∀ (ls : List (Option zV)) (i : Nat) (v : zV) (j : Nat) (w : zV), znth (zst ls i v) j = some (some w) → (j = i ∧ w = v) ∨ (j ≠ i ∧ znth ls j = some (some w) ∧ ¬ (j + 1 = i ∧ zlg (some w) = true))
  | [], i, v, j, w, h => by simp [zst, znth] at h
  | o :: l, 0, v, j, w, h => by
    cases j with
    | zero => simp [zst, znth] at h; exact Or.inl ⟨rfl, h.symm⟩
    | succ j => simp [zst, znth] at h; exact Or.inr ⟨by omega, by simpa [znth] using h, by omega⟩
  | o :: l, 1, v, j, w, h => by
    cases j with
    | zero =>
      simp only [zst, znth, Option.some.injEq] at h
      by_cases hz : zlg o = true
      · rw [if_pos hz] at h; cases h
      · rw [if_neg hz] at h; subst h; exact Or.inr ⟨by omega, rfl, fun q => hz q.2⟩
    | succ j =>
      simp only [zst, znth] at h
      rcases zst_at l 0 v j w h with ⟨rfl, rfl⟩ | ⟨h1, h2, h3⟩
      · exact Or.inl ⟨rfl, rfl⟩
      · exact Or.inr ⟨by omega, by simpa [znth] using h2, fun q => by omega⟩
  | o :: l, n + 2, v, j, w, h => by
    cases j with
    | zero => simp only [zst, znth] at h; exact Or.inr ⟨by omega, by simpa [znth] using h, by omega⟩
    | succ j =>
      simp only [zst, znth] at h
      rcases zst_at l (n + 1) v j w h with ⟨rfl, rfl⟩ | ⟨h1, h2, h3⟩
      · exact Or.inl ⟨rfl, rfl⟩
      · exact Or.inr ⟨by omega, by simpa [znth] using h2, fun q => h3 ⟨by omega, q.2⟩⟩
theorem zst2_at : ∀ (ls : List (Option zV)) (i : Nat) (v : zV) (j : Nat) (w : zV), znth (zst2 ls i v) j = some (some w) → (j = i ∧ w = v) ∨ (j ≠ i ∧ j ≠ i + 1 ∧ znth ls j = some (some w) ∧ ¬ (j + 1 = i ∧ zlg (some w) = true))
  | [], i, v, j, w, h => by simp [zst2, znth] at h
  | [_], i, v, j, w, h => by simp [zst2, znth] at h
  | _ :: _ :: l, 0, v, j, w, h => by
    match j, h with
    | 0, h => simp [zst2, znth] at h; exact Or.inl ⟨rfl, h.symm⟩
    | 1, h => simp [zst2, znth] at h
    | j + 2, h => simp [zst2, znth] at h; exact Or.inr ⟨by omega, by omega, by simpa [znth] using h, by omega⟩
  | o :: o2 :: l, 1, v, j, w, h => by
    cases j with
    | zero =>
      simp only [zst2, znth, Option.some.injEq] at h
      by_cases hz : zlg o = true
      · rw [if_pos hz] at h; cases h
      · rw [if_neg hz] at h; subst h; exact Or.inr ⟨by omega, by omega, rfl, fun q => hz q.2⟩
    | succ j =>
      simp only [zst2, znth] at h
      rcases zst2_at (o2 :: l) 0 v j w h with ⟨rfl, rfl⟩ | ⟨h1, h2, h3, h4⟩
      · exact Or.inl ⟨rfl, rfl⟩
      · exact Or.inr ⟨by omega, by omega, by simpa [znth] using h3, fun q => by omega⟩
  | o :: o2 :: l, n + 2, v, j, w, h => by
    cases j with
    | zero => simp only [zst2, znth] at h; exact Or.inr ⟨by omega, by omega, by simpa [znth] using h, by omega⟩
    | succ j =>
      simp only [zst2, znth] at h
      rcases zst2_at (o2 :: l) (n + 1) v j w h with ⟨rfl, rfl⟩ | ⟨h1, h2, h3, h4⟩
      · exact Or.inl ⟨rfl, rfl⟩
      · exact Or.inr ⟨by omega, by omega, by simpa [znth] using h3, fun q => h4 ⟨by omega, q.2⟩⟩
theorem zLs.st {G : zG} {nL : Nat} {ls : List (Option zV)} {la : Array Slot} {i : Nat} {v : zV} (h : lv_has la nL ((i, zc G v) :: (zal G ls).filter (fun q => !(q.1 == i) && !(q.1 + 1 == i && q.2.category == 2)))) : zLs G nL (zst ls i v) la := by
  refine ⟨h.1, h.2.1, fun j w hj => ?_⟩
  rcases zst_at ls i v j w hj with ⟨rfl, rfl⟩ | ⟨h1, h2, h3⟩
  · exact h.2.2 _ List.mem_cons_self
  · refine h.2.2 (j, zc G w) (List.mem_cons_of_mem _ (List.mem_filter.mpr ⟨zal_mem h2, ?_⟩))
    have : ¬ (j + 1 = i ∧ (zc G w).category = 2) := fun q => h3 ⟨q.1, zlg_cat q.2⟩
    simp [h1]
    omega
theorem zLs.st2 {G : zG} {nL : Nat} {ls : List (Option zV)} {la : Array Slot} {i : Nat} {v : zV} (h : lv_has la nL ((i, zc G v) :: (zal G ls).filter (fun q => !(q.1 == i) && (!(q.1 == i + 1) && !(q.1 + 1 == i && q.2.category == 2))))) : zLs G nL (zst2 ls i v) la := by
  refine ⟨h.1, h.2.1, fun j w hj => ?_⟩
  rcases zst2_at ls i v j w hj with ⟨rfl, rfl⟩ | ⟨h1, h1b, h2, h3⟩
  · exact h.2.2 _ List.mem_cons_self
  · refine h.2.2 (j, zc G w) (List.mem_cons_of_mem _ (List.mem_filter.mpr ⟨zal_mem h2, ?_⟩))
    have : ¬ (j + 1 = i ∧ (zc G w).category = 2) := fun q => h3 ⟨q.1, zlg_cat q.2⟩
    simp [h1, h1b]
    omega
/-- a method's entry -/
def zent : List zV → List (Option zV)
  | [] => []
  | .inr (.inr (.inl v)) :: l => some (zL v) :: none :: zent l
  | v :: l => some v :: zent l
def zpad (n : Nat) (l : List (Option zV)) : List (Option zV) := l ++ List.replicate (n - l.length) none
theorem zent_at (G : zG) : ∀ (vs : List zV) (off j : Nat) (w : zV), znth (zent vs) j = some (some w) → (off + j, zc G w) ∈ lv_args off (vs.map (zc G))
  | [], off, j, w, h => by simp [zent, znth] at h
  | .inl v :: l, off, j, w, h => by
    simp only [List.map_cons, lv_args]
    cases j with
    | zero => simp [zent, znth] at h; subst h; exact List.mem_cons_self
    | succ j =>
      simp only [zent, znth] at h
      have := zent_at G l (off + 1) j w h
      rw [if_neg (by simp [zc, Value.category]), show off + (j + 1) = off + 1 + j by omega]
      exact List.mem_cons_of_mem _ this
  | .inr (.inl v) :: l, off, j, w, h => by
    simp only [List.map_cons, lv_args]
    cases j with
    | zero => simp [zent, znth] at h; subst h; exact List.mem_cons_self
    | succ j =>
      simp only [zent, znth] at h
      have := zent_at G l (off + 1) j w h
      rw [if_neg (by simp [zc, Value.category]), show off + (j + 1) = off + 1 + j by omega]
      exact List.mem_cons_of_mem _ this
  | .inr (.inr (.inr v)) :: l, off, j, w, h => by
    simp only [List.map_cons, lv_args]
    cases j with
    | zero => simp [zent, znth] at h; subst h; exact List.mem_cons_self
    | succ j =>
      simp only [zent, znth] at h
      have := zent_at G l (off + 1) j w h
      rw [if_neg (by simp [zc, Value.category]), show off + (j + 1) = off + 1 + j by omega]
      exact List.mem_cons_of_mem _ this
  | .inr (.inr (.inl v)) :: l, off, j, w, h => by
    simp only [List.map_cons, lv_args]
    match j, h with
    | 0, h => simp [zent, znth] at h; subst h; exact List.mem_cons_self
    | 1, h => simp [zent, znth] at h
    | j + 2, h =>
      simp only [zent, znth] at h
      have := zent_at G l (off + 2) j w h
      rw [if_pos (by simp [zc, Value.category]), show off + (j + 2) = off + 2 + j by omega]
      exact List.mem_cons_of_mem _ this
theorem znth_pad {l : List (Option zV)} {n j : Nat} {w : zV} (h : znth (zpad n l) j = some (some w)) : znth l j = some (some w) := by
  rw [znth_get] at h ⊢
  unfold zpad at h
  by_cases hj : j < l.length
  · rwa [List.getElem?_append_left hj] at h
  · rw [List.getElem?_append_right (by omega), List.getElem?_replicate] at h
    split at h <;> simp at h
theorem zent_len (G : zG) : ∀ (vs : List zV), (lg_sl (vs.map (zc G))).length = (zent vs).length
  | [] => rfl
  | .inl v :: l => by have := zent_len G l; simp [lg_sl, zent, zc, Value.category] at *; omega
  | .inr (.inl v) :: l => by have := zent_len G l; simp [lg_sl, zent, zc, Value.category] at *; omega
  | .inr (.inr (.inr v)) :: l => by have := zent_len G l; simp [lg_sl, zent, zc, Value.category] at *; omega
  | .inr (.inr (.inl v)) :: l => by have := zent_len G l; simp [lg_sl, zent, zc, Value.category] at *; omega
theorem zLs_entry (G : zG) (avs : List zV) {nL : Nat} (h : (zent avs).length ≤ nL) : zLs G nL (zpad nL (zent avs)) ((lg_sl (avs.map (zc G)) ++ List.replicate (nL - (lg_sl (avs.map (zc G))).length) Slot.unset).toArray) := by
  have h0 := lv_entry (avs.map (zc G)) (n := nL) (by rw [zent_len]; exact h)
  refine ⟨h0.1, h0.2.1, fun i v hi => ?_⟩
  have := zent_at G avs 0 i v (znth_pad hi)
  rw [Nat.zero_add] at this
  exact h0.2.2 _ this
