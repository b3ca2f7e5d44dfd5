/-! ===== came ===== -/
def rF (x1 : Nat) (v : Int) (x2 : Nat) (w : Int) (R : Nat → Int) : Bool := decide (R x1 = v ∧ R x2 = w)
def rX (u : Int) (n : Nat) (g : Int) (p : Nat) (R : Nat → Int) : Nat → Int := xchG u n R g (p / 6) (p % 6)
def mV (m p : Nat) : Bool := decide (p / 6 < p % 6 ∧ p % 6 < m)
/-- does the row of touches that c tells, r of them, make what is wanted of R -/
def md (F : (Nat → Int) → Bool) (X : Nat → (Nat → Int) → Nat → Int) (V : Nat → Bool) : Nat → (Nat → Int) → Nat → Bool
  | 0, R, _ => F R
  | r + 1, R, c => V (c / 36 ^ r % 36) && md F X V r (X (c / 36 ^ r % 36) R) c
section RW
variable {F : (Nat → Int) → Bool} {X : Nat → (Nat → Int) → Nat → Int} {V : Nat → Bool}
theorem pw36 (r : Nat) : 0 < 36 ^ r := Nat.pow_pos (by decide)
theorem dg_lo {p j r : Nat} (hj : j < 36 ^ r) : (p * 36 ^ r + j) / 36 ^ r = p := by
  rw [Nat.mul_comm, Nat.mul_add_div (pw36 r), Nat.div_eq_of_lt hj, Nat.add_zero]
theorem md_mod : ∀ (r : Nat) (R : Nat → Int) (p j : Nat), md F X V r R (p * 36 ^ r + j) = md F X V r R j
  | 0, R, p, j => rfl
  | r + 1, R, p, j => by
    have e : (p * 36 ^ (r + 1) + j) / 36 ^ r % 36 = j / 36 ^ r % 36 := by
      rw [Nat.pow_succ, show p * (36 ^ r * 36) = 36 ^ r * (p * 36) by rw [Nat.mul_comm p, Nat.mul_assoc, Nat.mul_comm 36 p], Nat.mul_add_div (pw36 r)]
      omega
    have e2 : p * 36 ^ (r + 1) + j = (p * 36) * 36 ^ r + j := by rw [Nat.pow_succ, Nat.mul_comm (36 ^ r) 36, Nat.mul_assoc]
    simp only [md]
    rw [e, e2, md_mod r _ (p * 36) j]
theorem cN_add {q : Nat → Bool} {a : Nat} : ∀ b, cN q (a + b) = cN q a + cN (fun i => q (a + i)) b
  | 0 => rfl
  | b + 1 => by
    rw [← Nat.add_assoc]
    simp only [cN]
    rw [cN_add b]
    split <;> omega
theorem fB_add {q : Nat → Bool} {a : Nat} : ∀ b, fB q (a + b) = (fB q a).or ((fB (fun i => q (a + i)) b).map (a + ·))
  | 0 => by cases fB q a <;> rfl
  | b + 1 => by
    rw [← Nat.add_assoc, fB_s, fB_s, fB_add b]
    cases fB q a with
    | some j => rfl
    | none =>
      cases fB (fun i => q (a + i)) b with
      | some j => rfl
      | none =>
        cases hq : q (a + b) <;> simp [hq]
theorem cN_false {q : Nat → Bool} {p : Nat} (h : ∀ i, i < p → q i = false) : cN q p = 0 := by
  have := cN_skip (q := q) (p := 0) p (fun i _ hi => h i (by omega))
  rw [Nat.zero_add] at this
  exact this
def tot (F : (Nat → Int) → Bool) (X : Nat → (Nat → Int) → Nat → Int) (V : Nat → Bool) (r : Nat) (R : Nat → Int) : Nat := cN (md F X V r R) (36 ^ r)
def fst (F : (Nat → Int) → Bool) (X : Nat → (Nat → Int) → Nat → Int) (V : Nat → Bool) (r : Nat) (R : Nat → Int) : Option Nat := fB (md F X V r R) (36 ^ r)
theorem tot_fst {r : Nat} {R : Nat → Int} : tot F X V r R = 0 ↔ fst F X V r R = none := cN_fB _
theorem md_ch {r p j : Nat} {R : Nat → Int} (hp : p < 36) (hj : j < 36 ^ r) : md F X V (r + 1) R (p * 36 ^ r + j) = (V p && md F X V r (X p R) j) := by
  simp only [md]
  rw [dg_lo hj, Nat.mod_eq_of_lt hp, md_mod]
theorem ch_c {r p : Nat} {R : Nat → Int} (hp : p < 36) : cN (md F X V (r + 1) R) ((p + 1) * 36 ^ r) = cN (md F X V (r + 1) R) (p * 36 ^ r) + (if V p = true then tot F X V r (X p R) else 0) := by
  rw [Nat.add_mul, Nat.one_mul, cN_add, cN_congr (fun j hj => md_ch hp hj)]
  cases hV : V p with
  | true => simp only [Bool.true_and, if_true]; rfl
  | false => simp only [Bool.false_and, Bool.false_eq_true, if_false]; rw [cN_false (fun _ _ => rfl)]
theorem fB_false {q : Nat → Bool} {p : Nat} (h : ∀ i, i < p → q i = false) : fB q p = none := (cN_fB p).mp (cN_false h)
theorem ch_f {r p : Nat} {R : Nat → Int} (hp : p < 36) : fB (md F X V (r + 1) R) ((p + 1) * 36 ^ r) = (fB (md F X V (r + 1) R) (p * 36 ^ r)).or (if V p = true then (fst F X V r (X p R)).map (p * 36 ^ r + ·) else none) := by
  rw [Nat.add_mul, Nat.one_mul, fB_add, fB_congr (fun j hj => md_ch hp hj)]
  cases hV : V p with
  | true => simp only [Bool.true_and, if_true]; rfl
  | false => simp only [Bool.false_and, Bool.false_eq_true, if_false]; rw [fB_false (fun _ _ => rfl)]; rfl
theorem ch_skip {r p : Nat} {R : Nat → Int} : ∀ (e : Nat), p + e ≤ 36 → (∀ i, p ≤ i → i < p + e → V i = false ∨ tot F X V r (X i R) = 0) → cN (md F X V (r + 1) R) ((p + e) * 36 ^ r) = cN (md F X V (r + 1) R) (p * 36 ^ r) ∧ fB (md F X V (r + 1) R) ((p + e) * 36 ^ r) = fB (md F X V (r + 1) R) (p * 36 ^ r)
  | 0, _, _ => ⟨rfl, rfl⟩
  | e + 1, he, h => by
    obtain ⟨h1, h2⟩ := ch_skip e (by omega) (fun i a b => h i a (by omega))
    rw [← Nat.add_assoc, ch_c (by omega), ch_f (by omega), h1, h2]
    rcases h (p + e) (by omega) (by omega) with hv | ht
    · rw [hv]
      simp only [Bool.false_eq_true, if_false, Nat.add_zero, true_and]
      cases fB (md F X V (r + 1) R) (p * 36 ^ r) <;> rfl
    · rw [ht, tot_fst.mp ht]
      simp only [Option.map_none, ite_self, Nat.add_zero, true_and]
      cases fB (md F X V (r + 1) R) (p * 36 ^ r) <;> rfl
theorem tot_dn {r p : Nat} {R : Nat → Int} (hp : p < 36) (hV : V p = true) (h : tot F X V (r + 1) R = 0) : tot F X V r (X p R) = 0 := by
  refine cN_false (fun j hj => ?_)
  have h1 := cN_0 h (p * 36 ^ r + j) (by
    rw [Nat.pow_succ, Nat.mul_comm (36 ^ r) 36]
    have h2 : (p + 1) * 36 ^ r ≤ 36 * 36 ^ r := Nat.mul_le_mul_right _ (by omega)
    rw [Nat.add_mul, Nat.one_mul] at h2
    omega)
  rw [md_ch hp hj, hV, Bool.true_and] at h1
  exact h1
end RW
def foA (fo o : Option Nat) (k : Nat) : Option Nat := fo.or (o.map (k + ·))
theorem foA_n {fo : Option Nat} {k : Nat} : foA fo none k = fo := by cases fo <;> rfl
theorem foA_s {fo a b : Option Nat} {π p r : Nat} : foA fo (a.or (b.map (p * 36 ^ r + ·))) (π * 36 ^ (r + 1)) = foA (foA fo a (π * 36 ^ (r + 1))) b ((π * 36 + p) * 36 ^ r) := by
  cases fo with
  | some x => rfl
  | none =>
    cases a with
    | some x => rfl
    | none =>
      cases b with
      | none => rfl
      | some c =>
        show some (π * 36 ^ (r + 1) + (p * 36 ^ r + c)) = some ((π * 36 + p) * 36 ^ r + c)
        rw [Nat.add_mul, Nat.pow_succ, Nat.mul_comm (36 ^ r) 36, Nat.mul_assoc, Nat.add_assoc]
theorem foA_no {fo o : Option Nat} {k N T : Nat} (h1 : N = 0 ↔ fo = none) (h2 : T = 0 ↔ o = none) : N + T = 0 ↔ foA fo o k = none := by
  cases fo with
  | some x =>
    refine ⟨fun h => ?_, fun h => by cases h⟩
    have := h1.mp (by omega)
    cases this
  | none =>
    have := h1.mpr rfl
    cases o with
    | none => exact ⟨fun _ => rfl, fun _ => by have := h2.mpr rfl; omega⟩
    | some c =>
      refine ⟨fun h => ?_, fun h => by cases h⟩
      have := h2.mp (by omega)
      cases this
def pv (p : Nat) : Int := 10 * ((p / 6 : Nat) : Int) + ((p % 6 : Nat) : Int)
def rS_ (L : Nat) (μ : zM) (N : Nat) (fo : Option Nat) : Prop := μ 17 4 = N ∧ (N = 0 ↔ fo = none) ∧ ∀ C, fo = some C → ∀ i, i < L → μ 24 i = pv (C / 36 ^ (L - 1 - i) % 36)
def rI (L j : Nat) (μ ν : zM) (N : Nat) (fo : Option Nat) : Prop := rS_ L ν N fo ∧ (∀ i, i ≠ 4 → ν 17 i = μ 17 i) ∧ (∀ i, i < j → ν 23 i = μ 23 i) ∧ ∀ c, c ≠ 5 → c ≠ 6 → c ≠ 7 → c ≠ 17 → c ≠ 23 → c ≠ 24 → ¬ (19 + j < c ∧ c ≤ 22) → ν c = μ c
def rAim (μ : zM) (g co : Int) (x1 : Nat) (v : Int) (x2 : Nat) (w : Int) : Prop := μ 17 5 = g ∧ μ 17 6 = co ∧ μ 17 7 = (x1 : Int) ∧ μ 17 8 = v ∧ μ 17 9 = (x2 : Int) ∧ μ 17 10 = w
theorem rX_congr {u : Int} {n : Nat} {g : Int} {p : Nat} {R R' : Nat → Int} (hn : n ≤ 5) (hp : p < 36) (h : ∀ i, i < 30 → R i = R' i) : ∀ i, i < 30 → rX u n g p R i = rX u n g p R' i := xchG_congr hn (by omega) (by omega) h
theorem md_congr {u : Int} {n m : Nat} {g : Int} {x1 x2 : Nat} {v w : Int} (hn : n ≤ 5) (h1 : x1 < 30) (h2 : x2 < 30) : ∀ (r : Nat) (R R' : Nat → Int) (c : Nat), (∀ i, i < 30 → R i = R' i) → md (rF x1 v x2 w) (rX u n g) (mV m) r R c = md (rF x1 v x2 w) (rX u n g) (mV m) r R' c
  | 0, R, R', c, h => by simp only [md, rF]; rw [h _ h1, h _ h2]
  | r + 1, R, R', c, h => by
    simp only [md]
    rw [md_congr hn h1 h2 r _ _ c (rX_congr hn (Nat.mod_lt _ (by decide)) h)]
theorem c_X6_canServe (d a b : Nat) (g co l : Int) (μ : zM) (h5 : μ 17 5 = g) (h6 : μ 17 6 = co) : zMet (d + 2) 0 yX6_canServe cX6_canServe 4 (some .boolean) TF μ [zR 17, zI (a : Int), zI (b : Int), zI l] (zPb (fun q ν => (q = true ↔ (¬ zbit g (a : Int) = 1 ∧ ¬ zbit g (b : Int) = 1 ∧ (l = 0 ∨ (a : Int) = co ∨ (b : Int) = co))) ∧ μ = ν)) := by
  refine zMb_of RX6 rfl (by decide) rfl (ls := [some (zR 17), some (zI (a : Int)), some (zI (b : Int)), some (zI l)]) rfl (fun hok0 => ?_)
  refine zA_aload_n dX6_canServe_0 rfl ?_
  refine zA_getE (w := g) fX6_55 t_17 dX6_canServe_1 h5 ?_
  refine zA_iload_n dX6_canServe_4 rfl ?_
  refine zA_cNb (st := []) kX6_83 (c_X8_isIn d g (a : Int) μ) rfl rfl rfl dX6_canServe_5 (zfit0 (by omega) rfl) (fun v1 μ1 q1 => ?_)
  obtain ⟨ba, rfl⟩ := q1
  refine zA_ifb_ne (tgt := 22) dX6_canServe_8 rfl (fun h8 => ?_) (fun h8 => ?_)
  · refine zA_iconst dX6_canServe_22 rfl ?_
    exact zA_rb (b := false) dX6_canServe_23 rfl ⟨⟨fun q => (by cases q), fun q => False.elim (by first | exact q.1 (ba.mp (by assumption)) | exact q.2.1 (bb.mp (by simpa using h19)) | omega)⟩, rfl⟩
  · refine zA_aload_n dX6_canServe_11 rfl ?_
    refine zA_getE (w := g) fX6_55 t_17 dX6_canServe_12 h5 ?_
    refine zA_iload_n dX6_canServe_15 rfl ?_
    refine zA_cNb (st := []) kX6_83 (c_X8_isIn d g (b : Int) μ) rfl rfl rfl dX6_canServe_16 (zfit0 (by omega) rfl) (fun v2 μ2 q2 => ?_)
    obtain ⟨bb, rfl⟩ := q2
    refine zA_ifb_eq (tgt := 24) dX6_canServe_19 rfl (fun h19 => ?_) (fun h19 => ?_)
    · refine zA_iload_n dX6_canServe_24 rfl ?_
      refine zA_if_eq (tgt := 44) dX6_canServe_25 rfl (fun h25 => ?_) (fun h25 => ?_)
      · refine zA_iconst dX6_canServe_44 rfl ?_
        refine zA_goto (tgt := 49) dX6_canServe_45 rfl ?_
        exact zA_rb (b := true) dX6_canServe_49 rfl ⟨⟨fun _ => ⟨fun q => by have := ba.mpr q; simp_all, fun q => by have := bb.mpr q; simp_all, by omega⟩, fun _ => rfl⟩, rfl⟩
      · refine zA_iload_n dX6_canServe_28 rfl ?_
        refine zA_aload_n dX6_canServe_29 rfl ?_
        refine zA_getE (w := co) fX6_23 t_17 dX6_canServe_30 h6 ?_
        refine zA_icmp_eq (tgt := 44) dX6_canServe_33 rfl (fun h33 => ?_) (fun h33 => ?_)
        · refine zA_iconst dX6_canServe_44 rfl ?_
          refine zA_goto (tgt := 49) dX6_canServe_45 rfl ?_
          exact zA_rb (b := true) dX6_canServe_49 rfl ⟨⟨fun _ => ⟨fun q => by have := ba.mpr q; simp_all, fun q => by have := bb.mpr q; simp_all, by omega⟩, fun _ => rfl⟩, rfl⟩
        · refine zA_iload_n dX6_canServe_36 rfl ?_
          refine zA_aload_n dX6_canServe_37 rfl ?_
          refine zA_getE (w := co) fX6_23 t_17 dX6_canServe_38 h6 ?_
          refine zA_icmp_ne (tgt := 48) dX6_canServe_41 rfl (fun h41 => ?_) (fun h41 => ?_)
          · refine zA_iconst dX6_canServe_48 rfl ?_
            exact zA_rb (b := false) dX6_canServe_49 rfl ⟨⟨fun q => (by cases q), fun q => False.elim (by first | exact q.1 (ba.mp (by assumption)) | exact q.2.1 (bb.mp (by simpa using h19)) | omega)⟩, rfl⟩
          · refine zA_iconst dX6_canServe_44 rfl ?_
            refine zA_goto (tgt := 49) dX6_canServe_45 rfl ?_
            exact zA_rb (b := true) dX6_canServe_49 rfl ⟨⟨fun _ => ⟨fun q => by have := ba.mpr q; simp_all, fun q => by have := bb.mpr q; simp_all, by omega⟩, fun _ => rfl⟩, rfl⟩
    · refine zA_iconst dX6_canServe_22 rfl ?_
      exact zA_rb (b := false) dX6_canServe_23 rfl ⟨⟨fun q => (by cases q), fun q => False.elim (by first | exact q.1 (ba.mp (by assumption)) | exact q.2.1 (bb.mp (by simpa using h19)) | omega)⟩, rfl⟩
theorem tot0 {F : (Nat → Int) → Bool} {X : Nat → (Nat → Int) → Nat → Int} {V : Nat → Bool} {R : Nat → Int} : tot F X V 0 R = if F R = true then 1 else 0 := by
  simp only [tot, md, Nat.pow_zero, cN]
theorem fst0 {F : (Nat → Int) → Bool} {X : Nat → (Nat → Int) → Nat → Int} {V : Nat → Bool} {R : Nat → Int} : fst F X V 0 R = if F R = true then some 0 else none := by
  simp only [fst, Nat.pow_zero]
  rw [fB_s]
  rfl
theorem c_X6_countIfFits (d j L π N n m x1 x2 : Nat) (u g co v w : Int) (fo : Option Nat) (R : Nat → Int) (μ : zM) (hjL : j = L) (hL : L ≤ 3) (h1 : x1 < 30) (h2 : x2 < 30) (ha : rAim μ g co x1 v x2 w) (hS : rS_ L μ N fo) (hpre : (∀ i, i < j → μ 23 i = pv (π / 36 ^ (j - 1 - i) % 36))) (hrow : ∀ i, i < 30 → μ (19 + j) i = R i) (hN : N ≤ 100000) : zMet (d + 1) 0 yX6_countIfFits cX6_countIfFits 2 none TF μ [zR 17, zI (j : Int)] (zPv (fun ν => rI L j μ ν (N + (tot (rF x1 v x2 w) (rX u n g) (mV m) 0 R)) (foA fo (fst (rF x1 v x2 w) (rX u n g) (mV m) 0 R) (π * 36 ^ 0)))) := by
  refine zMv_of RX6 rfl (by decide) rfl (ls := [some (zR 17), some (zI (j : Int))]) rfl (fun hok0 => ?_)
  refine zA_aload_n dX6_countIfFits_0 rfl ?_
  refine zA_getR fX6_11 t_17 rfl dX6_countIfFits_1 ?_
  refine zA_iload_n dX6_countIfFits_4 rfl ?_
  refine zA_aaldG (k' := 19 + j) t_18 (by omega) (by omega) (t_rbs j (by omega)) dX6_countIfFits_5 ?_
  refine zA_aload_n dX6_countIfFits_6 rfl ?_
  refine zA_getE (w := (x1 : Int)) fX6_31 t_17 dX6_countIfFits_7 ha.2.2.1 ?_
  refine zA_ialE (w := μ (19 + j) x1) (j := x1) (t_rb j (by omega)) (by omega) (by omega) dX6_countIfFits_10 rfl rfl ?_
  refine zA_aload_n dX6_countIfFits_11 rfl ?_
  refine zA_getE (w := v) fX6_34 t_17 dX6_countIfFits_12 ha.2.2.2.1 ?_
  refine zA_icmp_ne (tgt := 36) dX6_countIfFits_15 rfl (fun h15 => ?_) (fun h15 => ?_)
  · refine zA_rv dX6_countIfFits_36 ?_
    have hno : rF x1 v x2 w R = false := decide_eq_false (fun q => by first | exact h15 (by rw [hrow _ h1]; exact q.1) | exact h33 (by rw [hrow _ h2]; exact q.2))
    refine ⟨?_, fun _ _ => rfl, fun _ _ => rfl, fun _ _ _ _ _ _ _ _ => rfl⟩
    rw [tot0, fst0, hno]
    simp only [Bool.false_eq_true, if_false]
    rw [foA_n]
    exact hS
  · refine zA_aload_n dX6_countIfFits_18 rfl ?_
    refine zA_getR fX6_11 t_17 rfl dX6_countIfFits_19 ?_
    refine zA_iload_n dX6_countIfFits_22 rfl ?_
    refine zA_aaldG (k' := 19 + j) t_18 (by omega) (by omega) (t_rbs j (by omega)) dX6_countIfFits_23 ?_
    refine zA_aload_n dX6_countIfFits_24 rfl ?_
    refine zA_getE (w := (x2 : Int)) fX6_37 t_17 dX6_countIfFits_25 ha.2.2.2.2.1 ?_
    refine zA_ialE (w := μ (19 + j) x2) (j := x2) (t_rb j (by omega)) (by omega) (by omega) dX6_countIfFits_28 rfl rfl ?_
    refine zA_aload_n dX6_countIfFits_29 rfl ?_
    refine zA_getE (w := w) fX6_40 t_17 dX6_countIfFits_30 ha.2.2.2.2.2 ?_
    refine zA_icmp_eq (tgt := 37) dX6_countIfFits_33 rfl (fun h33 => ?_) (fun h33 => ?_)
    · refine zA_aload_n dX6_countIfFits_37 rfl ?_
      refine zA_getE (w := (N : Int)) fX6_59 t_17 dX6_countIfFits_38 hS.1 ?_
      refine zA_if_ne (tgt := 58) dX6_countIfFits_41 rfl (fun h41 => ?_) (fun h41 => ?_)
      · refine zA_aload_n dX6_countIfFits_58 rfl ?_
        refine zA_dup dX6_countIfFits_59 rfl ?_
        refine zA_getE (w := (N : Int)) fX6_59 t_17 dX6_countIfFits_60 (by first | exact hS.1 | (show zcp μ 23 0 24 0 3 17 4 = _; unfold zcp; rw [if_neg (by decide)]; exact hS.1)) ?_
        refine zA_iconst dX6_countIfFits_63 rfl ?_
        refine zA_iaddB dX6_countIfFits_64 ⟨by omega, by omega⟩ ?_
        refine zA_putI wX6_59 t_17 dX6_countIfFits_65 ?_
        refine zA_rv dX6_countIfFits_68 ?_
        have hyes : rF x1 v x2 w R = true := decide_eq_true ⟨by rw [← hrow _ h1]; exact h15, by rw [← hrow _ h2]; exact h33⟩
        refine ⟨?_, fun i hi => zup_n (fun q => hi q.2), fun i hi => zup_k (by decide), fun c _ _ _ c4 _ _ _ => by funext i; exact zup_k c4⟩
        rw [tot0, fst0, hyes]
        simp only [if_true]
        obtain ⟨s1, s2, s3⟩ := hS
        refine ⟨by rw [zup_s]; rfl, foA_no s2 ⟨fun h => (by cases h), fun h => (by cases h)⟩, fun C hC i hi => ?_⟩
        cases fo with
        | none => exact absurd (s2.mpr rfl) (by omega)
        | some y =>
          cases hC
          rw [zup_k (by decide)]
          exact s3 _ rfl i hi
      · refine zA_aload_n dX6_countIfFits_44 rfl ?_
        refine zA_getR fX6_16 t_17 rfl dX6_countIfFits_45 ?_
        refine zA_iconst dX6_countIfFits_48 rfl ?_
        refine zA_aload_n dX6_countIfFits_49 rfl ?_
        refine zA_getR fX6_20 t_17 rfl dX6_countIfFits_50 ?_
        refine zA_iconst dX6_countIfFits_53 rfl ?_
        refine zA_iconst dX6_countIfFits_54 rfl ?_
        refine zA_copy TF_len kX6_87 kac_nat kac_st kac_in t_23 t_24 (by omega) (by omega) (by omega) (by omega) (by omega) dX6_countIfFits_55 (by show 1 ≤ d + 1; omega) (by show _ ≤ 100 * (d + 1); simp only [zcat]; exact Nat.le_trans (by decide : _ ≤ 100) (by omega)) ?_
        refine zA_aload_n dX6_countIfFits_58 rfl ?_
        refine zA_dup dX6_countIfFits_59 rfl ?_
        refine zA_getE (w := (N : Int)) fX6_59 t_17 dX6_countIfFits_60 (by first | exact hS.1 | (show zcp μ 23 0 24 0 3 17 4 = _; unfold zcp; rw [if_neg (by decide)]; exact hS.1)) ?_
        refine zA_iconst dX6_countIfFits_63 rfl ?_
        refine zA_iaddB dX6_countIfFits_64 ⟨by omega, by omega⟩ ?_
        refine zA_putI wX6_59 t_17 dX6_countIfFits_65 ?_
        refine zA_rv dX6_countIfFits_68 ?_
        have hyes : rF x1 v x2 w R = true := decide_eq_true ⟨by rw [← hrow _ h1]; exact h15, by rw [← hrow _ h2]; exact h33⟩
        have hN : N = 0 := by omega
        refine ⟨?_, fun i hi => ?_, fun i hi => ?_, fun c _ _ _ c4 _ c6 _ => ?_⟩
        · rw [tot0, fst0, hyes]
          simp only [if_true]
          obtain ⟨s1, s2, s3⟩ := hS
          have hfo := s2.mp hN
          subst hfo
          refine ⟨by rw [zup_s, hN]; rfl, foA_no s2 ⟨fun h => (by cases h), fun h => (by cases h)⟩, fun C hC i hi => ?_⟩
          cases hC
          rw [zup_k (by decide)]
          show zcp μ 23 0 24 0 3 24 i = _
          unfold zcp
          rw [if_pos ⟨rfl, by omega, by omega⟩, show 0 + (i - 0) = i by omega, hpre i (by omega)]
          simp only [Nat.pow_zero, Nat.mul_one, Nat.add_zero]
          rw [hjL]
        · rw [zup_n (fun q => hi q.2)]
          exact if_neg (fun q => by have := q.1; omega)
        · rw [zup_k (by decide)]
          exact if_neg (fun q => by have := q.1; omega)
        · funext i
          rw [zup_k c4]
          exact if_neg (fun q => c6 q.1)
    · refine zA_rv dX6_countIfFits_36 ?_
      have hno : rF x1 v x2 w R = false := decide_eq_false (fun q => by first | exact h15 (by rw [hrow _ h1]; exact q.1) | exact h33 (by rw [hrow _ h2]; exact q.2))
      refine ⟨?_, fun _ _ => rfl, fun _ _ => rfl, fun _ _ _ _ _ _ _ _ => rfl⟩
      rw [tot0, fst0, hno]
      simp only [Bool.false_eq_true, if_false]
      rw [foA_n]
      exact hS
def rwSpec (n m t L x1 x2 : Nat) (u g co v w : Int) (h r : Nat) : Prop := ∀ (j π N : Nat) (fo : Option Nat) (R : Nat → Int) (μ : zM), j + r = L → zHs μ n m t u → rAim μ g co x1 v x2 w → rS_ L μ N fo → (∀ i, i < j → μ 23 i = pv (π / 36 ^ (j - 1 - i) % 36)) → (∀ i, i < 30 → μ (19 + j) i = R i) → rOk n m R → (∀ r', r = r' + 1 → (tot (rF x1 v x2 w) (rX u n g) (mV m) r' R) = 0) → N + 36 ^ r ≤ 100000 → zMet h 0 yX6_goOn cX6_goOn 6 none TF μ [zR 17, zR 1, zI (j : Int), zI (L : Int)] (zPv (fun ν => rI L j μ ν (N + (tot (rF x1 v x2 w) (rX u n g) (mV m) r R)) (foA fo (fst (rF x1 v x2 w) (rX u n g) (mV m) r R) (π * 36 ^ r))))
theorem rw_leaf (d n m t L x1 x2 : Nat) (u g co v w : Int) (hL : L ≤ 3) (h1 : x1 < 30) (h2 : x2 < 30) : rwSpec n m t L x1 x2 u g co v w (d + 4) 0 := by
  intro j π N fo R μ hj hH ha hS hpre hrow hok hZ hN
  have hp : 36 ^ 0 = 1 := rfl
  refine zMv_of RX6 rfl (by decide) rfl (ls := [some (zR 17), some (zR 1), some (zI (j : Int)), some (zI (L : Int)), none, none]) rfl (fun hok0 => ?_)
  refine zA_iload_n dX6_goOn_0 rfl ?_
  refine zA_iload_n dX6_goOn_1 rfl ?_
  refine zA_icmp_ge (tgt := 10) dX6_goOn_2 rfl (fun hh2 => ?_) (fun hh2 => False.elim (by omega))
  refine zA_aload_n dX6_goOn_10 rfl ?_
  refine zA_iload_n dX6_goOn_11 rfl ?_
  refine zA_cVv (st := []) kX6_66 t_17 rfl rfl (c_X6_countIfFits (d + 2) j L π N n m x1 x2 u g co v w fo R μ (by omega) hL h1 h2 ha hS hpre hrow (by omega)) rfl rfl rfl dX6_goOn_12 (zfit0 (by omega) rfl) (fun μ1 q1 => ?_)
  exact zA_rv dX6_goOn_15 q1
theorem rw_inner (d n m t L x1 x2 : Nat) (u g co v w : Int) (r : Nat) (hrec : rwSpec n m t L x1 x2 u g co v w (d + 4) r) (hL : L ≤ 3) (h1 : x1 < 30) (h2 : x2 < 30) (hx1 : ((x1 / 5 : Nat) : Int) = co) (hx2 : ((x2 / 5 : Nat) : Int) = co) (j π N : Nat) (fo : Option Nat) (R : Nat → Int) (μ : zM) (hj : j + (r + 1) = L) (hH : zHs μ n m t u) (ha : rAim μ g co x1 v x2 w) (hpre : (∀ i, i < j → μ 23 i = pv (π / 36 ^ (j - 1 - i) % 36))) (hrow : ∀ i, i < 30 → μ (19 + j) i = R i) (hok : rOk n m R) (hZ : (tot (rF x1 v x2 w) (rX u n g) (mV m) r R) = 0) (hN : N + 36 ^ (r + 1) ≤ 100000) (a : Nat) (ham : a < m) (P : zP) (hc : ∀ ν : zM, rI L j μ ν (N + cN (md (rF x1 v x2 w) (rX u n g) (mV m) (r + 1) R) ((6 * (a + 1)) * 36 ^ r)) (foA fo (fB (md (rF x1 v x2 w) (rX u n g) (mV m) (r + 1) R) ((6 * (a + 1)) * 36 ^ r)) (π * 36 ^ (r + 1))) → zA RX6 cX6_goOn 6 (zRm (d + 5) 0) zN0 TF 0 ν 132 [some (zR 17), some (zR 1), some (zI (j : Int)), some (zI (L : Int)), some (zI (a : Int)), none] [] P) : ∀ (t0 b : Nat), m - b = t0 → a < b → b ≤ m → ∀ ν : zM, rI L j μ ν (N + cN (md (rF x1 v x2 w) (rX u n g) (mV m) (r + 1) R) ((6 * a + b) * 36 ^ r)) (foA fo (fB (md (rF x1 v x2 w) (rX u n g) (mV m) (r + 1) R) ((6 * a + b) * 36 ^ r)) (π * 36 ^ (r + 1))) → zA RX6 cX6_goOn 6 (zRm (d + 5) 0) zN0 TF 0 ν 34 [some (zR 17), some (zR 1), some (zI (j : Int)), some (zI (L : Int)), some (zI (a : Int)), some (zI (b : Int))] [] P := by
  have hH0 := hH
  obtain ⟨hn, hu, hm, ht, hn5, hm6, ht10, hu1, hdk⟩ := hH0
  intro t0
  induction t0 using Nat.strongRecOn with
  | ind t0 ihb =>
    intro b hk hab hbm ν hI
    have hI0 := hI
    obtain ⟨i1, i2, i3, i4⟩ := hI0
    by_cases hbm2 : b < m
    · have hle := cN_le (md (rF x1 v x2 w) (rX u n g) (mV m) (r + 1) R) ((6 * a + b) * 36 ^ r)
      have hm36 : (6 * a + b + 1) * 36 ^ r ≤ 36 * 36 ^ r := Nat.mul_le_mul_right _ (by omega)
      rw [Nat.add_mul, Nat.one_mul] at hm36
      have hps : 36 ^ (r + 1) = 36 * 36 ^ r := by rw [Nat.pow_succ, Nat.mul_comm]
      refine zA_iload dX6_goOn_34 rfl ?_
      refine zA_aload_n dX6_goOn_36 rfl ?_
      refine zA_getE (w := (m : Int)) fX6_70 t_1 dX6_goOn_37 (by rw [i4 1 (by decide) (by decide) (by decide) (by decide) (by decide) (by decide) (by omega)]; exact hm) ?_
      refine zA_icmp_ge (tgt := 132) dX6_goOn_40 rfl (fun h40 => False.elim (by omega)) fun h40 => ?_
      refine zA_aload_n dX6_goOn_43 rfl ?_
      refine zA_iload dX6_goOn_44 rfl ?_
      refine zA_iload dX6_goOn_46 rfl ?_
      refine zA_iload_n dX6_goOn_48 rfl ?_
      refine zA_iconst dX6_goOn_49 rfl ?_
      refine zA_iaddB dX6_goOn_50 ⟨by omega, by omega⟩ ?_
      refine zA_iload_n dX6_goOn_51 rfl ?_
      refine zA_icmp_ne (tgt := 59) dX6_goOn_52 rfl (fun h52 => ?_) (fun h52 => ?_)
      · refine zA_iconst dX6_goOn_59 rfl ?_
        refine zA_cVb (st := []) kX6_75 t_17 rfl rfl (c_X6_canServe (d + 2) a b g co 0 ν (by rw [i2 5 (by decide)]; exact ha.1) (by rw [i2 6 (by decide)]; exact ha.2.1)) rfl rfl rfl dX6_goOn_60 (zfit0 (by omega) rfl) (fun v1 μ1 q1 => ?_)
        obtain ⟨bs, rfl⟩ := q1
        refine zA_ifb_eq (tgt := 126) dX6_goOn_63 rfl (fun h63 => ?_) (fun h63 => ?_)
        · refine zA_iincB (ls' := [some (zR 17), some (zR 1), some (zI (j : Int)), some (zI (L : Int)), some (zI (a : Int)), some (zI ((b : Int) + 1))]) dX6_goOn_126 rfl rfl ⟨by omega, by omega⟩ rfl ?_
          refine zA_goto (tgt := 34) dX6_goOn_129 rfl ?_
          have hp6 : (6 * a + b) / 6 = a := by omega
          have hp7 : (6 * a + b) % 6 = b := by omega
          have hcs : zbit g (a : Int) = 1 ∨ zbit g (b : Int) = 1 ∨ (r = 0 ∧ (a : Int) ≠ co ∧ (b : Int) ≠ co) := by
            refine Decidable.byContradiction (fun q => ?_)
            have := bs.mpr ⟨fun h => q (Or.inl h), fun h => q (Or.inr (Or.inl h)), by first | exact Or.inl rfl | (refine Decidable.byContradiction (fun h => q (Or.inr (Or.inr ⟨by omega, by omega, by omega⟩))))⟩
            simp_all
          have hz0 : (tot (rF x1 v x2 w) (rX u n g) (mV m) r (rX u n g (6 * a + b) R)) = 0 := by
            rcases hcs with h | h | ⟨h0, h3, h4⟩
            · rw [rX, hp6, hp7, xchG, if_pos (Or.inl h)]; exact hZ
            · rw [rX, hp6, hp7, xchG, if_pos (Or.inr h)]; exact hZ
            · subst h0
              rw [tot0] at hZ ⊢
              have hf : rF x1 v x2 w (rX u n g (6 * a + b) R) = rF x1 v x2 w R := by
                unfold rF
                rw [rX, hp6, hp7, xchG_out (by omega) (by omega), xchG_out (by omega) (by omega)]
              rw [hf]; exact hZ
          obtain ⟨c1, c2⟩ := ch_skip (F := rF x1 v x2 w) (X := rX u n g) (V := mV m) (r := r) (p := 6 * a + b) (R := R) 1 (by omega) (fun i i1 i2 => Or.inr (by rw [show i = 6 * a + b by omega]; exact hz0))
          refine ihb _ (by omega) (b + 1) rfl (by omega) (by omega) ν ?_
          rw [show 6 * a + (b + 1) = 6 * a + b + 1 by omega, c1, c2]
          exact hI
        · refine zA_aload_n dX6_goOn_66 rfl ?_
          refine zA_getR fX6_16 t_17 rfl dX6_goOn_67 ?_
          refine zA_iload_n dX6_goOn_70 rfl ?_
          refine zA_bipush dX6_goOn_71 rfl ?_
          refine zA_iload dX6_goOn_73 rfl ?_
          refine zA_imulB dX6_goOn_75 ⟨by omega, by omega⟩ ?_
          refine zA_iload dX6_goOn_76 rfl ?_
          refine zA_iaddB dX6_goOn_78 ⟨by omega, by omega⟩ ?_
          refine zA_iasE (j := j) t_23 (by omega) (by omega) dX6_goOn_79 rfl ?_
          refine zA_aload_n dX6_goOn_80 rfl ?_
          refine zA_getR fX6_11 t_17 rfl dX6_goOn_81 ?_
          refine zA_iload_n dX6_goOn_84 rfl ?_
          refine zA_aaldG (k' := 19 + j) t_18 (by omega) (by omega) (t_rbs j (by omega)) dX6_goOn_85 ?_
          refine zA_aload_n dX6_goOn_86 rfl ?_
          refine zA_getR fX6_11 t_17 rfl dX6_goOn_87 ?_
          refine zA_iload_n dX6_goOn_90 rfl ?_
          refine zA_iconst dX6_goOn_91 rfl ?_
          refine zA_iaddE (w := ((j + 1 : Nat) : Int)) dX6_goOn_92 ⟨by omega, by omega⟩ (by omega) ?_
          refine zA_aaldG (k' := 19 + (j + 1)) t_18 (by omega) (by omega) (t_rbs (j + 1) (by omega)) dX6_goOn_93 ?_
          refine zA_cNv (st := []) kX6_48 (c_X8_copyPartsR (d + 3) (19 + j) (19 + (j + 1)) (zup ν 23 j ((10 * (a : Int)) + (b : Int))) (t_rb j (by omega)) (t_rb (j + 1) (by omega))) rfl rfl rfl dX6_goOn_94 (zfit0 (by omega) rfl) (fun μ2 q2 => ?_)
          obtain ⟨qa, qb⟩ := q2
          have F1 : ∀ c, c ≠ 23 → c ≠ 19 + (j + 1) → μ2 c = ν c := fun c c1 c2 => by rw [qb c c2]; funext i; exact zup_k c1
          have hr1 : ∀ i, i < 30 → μ2 (19 + (j + 1)) i = R i := fun i hi => by rw [qa i hi, zup_k (by omega), i4 (19 + j) (by omega) (by omega) (by omega) (by omega) (by omega) (by omega) (by omega)]; exact hrow i hi
          refine zA_aload_n dX6_goOn_97 rfl ?_
          refine zA_aload_n dX6_goOn_98 rfl ?_
          refine zA_getR fX6_11 t_17 rfl dX6_goOn_99 ?_
          refine zA_iload_n dX6_goOn_102 rfl ?_
          refine zA_iconst dX6_goOn_103 rfl ?_
          refine zA_iaddE (w := ((j + 1 : Nat) : Int)) dX6_goOn_104 ⟨by omega, by omega⟩ (by omega) ?_
          refine zA_aaldG (k' := 19 + (j + 1)) t_18 (by omega) (by omega) (t_rbs (j + 1) (by omega)) dX6_goOn_105 ?_
          refine zA_aload_n dX6_goOn_106 rfl ?_
          refine zA_getE (w := g) fX6_55 t_17 dX6_goOn_107 (by rw [F1 17 (by decide) (by omega), i2 5 (by decide)]; exact ha.1) ?_
          refine zA_iload dX6_goOn_110 rfl ?_
          refine zA_iload dX6_goOn_112 rfl ?_
          refine zA_cVv (st := []) kX6_79 t_1 rfl rfl (c_X2_exchange (d + 1) μ2 (19 + (j + 1)) n m t u g a b (t_rb (j + 1) (by omega)) (hH.keep (by rw [F1 1 (by omega) (by omega), i4 1 (by omega) (by omega) (by omega) (by omega) (by omega) (by omega) (by omega)]) (by rw [F1 3 (by omega) (by omega), i4 3 (by omega) (by omega) (by omega) (by omega) (by omega) (by omega) (by omega)]) (by rw [F1 4 (by omega) (by omega), i4 4 (by omega) (by omega) (by omega) (by omega) (by omega) (by omega) (by omega)])) (by omega) (by omega) (by omega) (rOk_congr hn5 hm6 (fun i hi => (hr1 i hi).symm) hok)) rfl rfl rfl dX6_goOn_114 (zfit0 (by omega) rfl) (fun μ3 q3 => ?_)
          obtain ⟨ra, rb⟩ := q3
          have hp6 : (6 * a + b) / 6 = a := by omega
          have hp7 : (6 * a + b) % 6 = b := by omega
          have F2 : ∀ c, c ≠ 5 → c ≠ 6 → c ≠ 7 → c ≠ 23 → c ≠ 19 + (j + 1) → μ3 c = ν c := fun c c1 c2 c3 c4 c5 => by rw [rb c c5 c1 c2 c3, F1 c c4 c5]
          have e23 : ∀ i, μ3 23 i = if i = j then 10 * (a : Int) + (b : Int) else ν 23 i := fun i => by rw [rb 23 (by omega) (by decide) (by decide) (by decide), qb 23 (by omega)]; unfold zup; by_cases e : i = j <;> simp [e]
          have e17 : μ3 17 = ν 17 := F2 17 (by decide) (by decide) (by decide) (by decide) (by omega)
          have e24 : μ3 24 = ν 24 := F2 24 (by decide) (by decide) (by decide) (by decide) (by omega)
          have hr2 : ∀ i, i < 30 → μ3 (19 + (j + 1)) i = rX u n g (6 * a + b) R i := fun i hi => by rw [ra, rX, hp6, hp7]; exact xchG_congr hn5 (by omega) (by omega) hr1 i hi
          have hV : mV m (6 * a + b) = true := decide_eq_true (by omega)
          have hpre2 : ∀ i, i < j + 1 → μ3 23 i = pv ((π * 36 + (6 * a + b)) / 36 ^ (j + 1 - 1 - i) % 36) := fun i hi => by
            rw [e23 i]
            by_cases e : i = j
            · rw [if_pos e, e, show j + 1 - 1 - j = 0 by omega, Nat.pow_zero, Nat.div_one, show (π * 36 + (6 * a + b)) % 36 = 6 * a + b by omega]; unfold pv; rw [hp6, hp7]
            · rw [if_neg e, i3 i (by omega), hpre i (by omega), show j + 1 - 1 - i = (j - 1 - i) + 1 by omega, Nat.pow_succ, Nat.mul_comm (36 ^ (j - 1 - i)) 36, ← Nat.div_div_eq_div_mul, show (π * 36 + (6 * a + b)) / 36 = π by omega]
          refine zA_aload_n dX6_goOn_117 rfl ?_
          refine zA_aload_n dX6_goOn_118 rfl ?_
          refine zA_iload_n dX6_goOn_119 rfl ?_
          refine zA_iconst dX6_goOn_120 rfl ?_
          refine zA_iaddE (w := ((j + 1 : Nat) : Int)) dX6_goOn_121 ⟨by omega, by omega⟩ (by omega) ?_
          refine zA_iload_n dX6_goOn_122 rfl ?_
          refine zA_cVv (st := []) kX6_62 t_17 rfl rfl (hrec (j + 1) (π * 36 + (6 * a + b)) _ _ (rX u n g (6 * a + b) R) μ3 (by omega) (hH.keep (by rw [F2 1 (by decide) (by decide) (by decide) (by decide) (by omega), i4 1 (by omega) (by omega) (by omega) (by omega) (by omega) (by omega) (by omega)]) (by rw [F2 3 (by decide) (by decide) (by decide) (by decide) (by omega), i4 3 (by omega) (by omega) (by omega) (by omega) (by omega) (by omega) (by omega)]) (by rw [F2 4 (by decide) (by decide) (by decide) (by decide) (by omega), i4 4 (by omega) (by omega) (by omega) (by omega) (by omega) (by omega) (by omega)])) (by unfold rAim; rw [e17, i2 5 (by decide), i2 6 (by decide), i2 7 (by decide), i2 8 (by decide), i2 9 (by decide), i2 10 (by decide)]; exact ha) (by unfold rS_; rw [e17, e24]; exact i1) hpre2 hr2 (by rw [rX, hp6, hp7]; exact xchG_ok hn5 hu1 (by omega) (by omega) (by omega) hok) (fun r2 hr => by rw [hr] at hZ; exact tot_dn (by omega) hV hZ) (by omega)) rfl rfl rfl dX6_goOn_123 (zfit0 (by omega) rfl) (fun μ4 q4 => ?_)
          refine zA_iincB (ls' := [some (zR 17), some (zR 1), some (zI (j : Int)), some (zI (L : Int)), some (zI (a : Int)), some (zI ((b : Int) + 1))]) dX6_goOn_126 rfl rfl ⟨by omega, by omega⟩ rfl ?_
          refine zA_goto (tgt := 34) dX6_goOn_129 rfl ?_
          refine ihb _ (by omega) (b + 1) rfl (by omega) (by omega) μ4 ?_
          obtain ⟨t1, t2, t3, t4⟩ := q4
          rw [show 6 * a + (b + 1) = 6 * a + b + 1 by omega, ch_c (by omega), ch_f (by omega), hV]
          simp only [if_true]
          rw [foA_s, ← Nat.add_assoc]
          refine ⟨t1, fun i hi => by rw [t2 i hi, e17, i2 i hi], fun i hi => by rw [t3 i (by omega), e23, if_neg (by omega), i3 i hi], fun c c1 c2 c3 c4 c5 c6 c7 => by rw [t4 c c1 c2 c3 c4 c5 c6 (by omega), F2 c c1 c2 c3 c5 (by omega), i4 c c1 c2 c3 c4 c5 c6 c7]⟩
      · refine zA_iconst dX6_goOn_55 rfl ?_
        refine zA_goto (tgt := 60) dX6_goOn_56 rfl ?_
        refine zA_cVb (st := []) kX6_75 t_17 rfl rfl (c_X6_canServe (d + 2) a b g co 1 ν (by rw [i2 5 (by decide)]; exact ha.1) (by rw [i2 6 (by decide)]; exact ha.2.1)) rfl rfl rfl dX6_goOn_60 (zfit0 (by omega) rfl) (fun v5 μ5 q5 => ?_)
        obtain ⟨bs, rfl⟩ := q5
        refine zA_ifb_eq (tgt := 126) dX6_goOn_63 rfl (fun h63 => ?_) (fun h63 => ?_)
        · refine zA_iincB (ls' := [some (zR 17), some (zR 1), some (zI (j : Int)), some (zI (L : Int)), some (zI (a : Int)), some (zI ((b : Int) + 1))]) dX6_goOn_126 rfl rfl ⟨by omega, by omega⟩ rfl ?_
          refine zA_goto (tgt := 34) dX6_goOn_129 rfl ?_
          have hp6 : (6 * a + b) / 6 = a := by omega
          have hp7 : (6 * a + b) % 6 = b := by omega
          have hcs : zbit g (a : Int) = 1 ∨ zbit g (b : Int) = 1 ∨ (r = 0 ∧ (a : Int) ≠ co ∧ (b : Int) ≠ co) := by
            refine Decidable.byContradiction (fun q => ?_)
            have := bs.mpr ⟨fun h => q (Or.inl h), fun h => q (Or.inr (Or.inl h)), by first | exact Or.inl rfl | (refine Decidable.byContradiction (fun h => q (Or.inr (Or.inr ⟨by omega, by omega, by omega⟩))))⟩
            simp_all
          have hz0 : (tot (rF x1 v x2 w) (rX u n g) (mV m) r (rX u n g (6 * a + b) R)) = 0 := by
            rcases hcs with h | h | ⟨h0, h3, h4⟩
            · rw [rX, hp6, hp7, xchG, if_pos (Or.inl h)]; exact hZ
            · rw [rX, hp6, hp7, xchG, if_pos (Or.inr h)]; exact hZ
            · subst h0
              rw [tot0] at hZ ⊢
              have hf : rF x1 v x2 w (rX u n g (6 * a + b) R) = rF x1 v x2 w R := by
                unfold rF
                rw [rX, hp6, hp7, xchG_out (by omega) (by omega), xchG_out (by omega) (by omega)]
              rw [hf]; exact hZ
          obtain ⟨c1, c2⟩ := ch_skip (F := rF x1 v x2 w) (X := rX u n g) (V := mV m) (r := r) (p := 6 * a + b) (R := R) 1 (by omega) (fun i i1 i2 => Or.inr (by rw [show i = 6 * a + b by omega]; exact hz0))
          refine ihb _ (by omega) (b + 1) rfl (by omega) (by omega) ν ?_
          rw [show 6 * a + (b + 1) = 6 * a + b + 1 by omega, c1, c2]
          exact hI
        · refine zA_aload_n dX6_goOn_66 rfl ?_
          refine zA_getR fX6_16 t_17 rfl dX6_goOn_67 ?_
          refine zA_iload_n dX6_goOn_70 rfl ?_
          refine zA_bipush dX6_goOn_71 rfl ?_
          refine zA_iload dX6_goOn_73 rfl ?_
          refine zA_imulB dX6_goOn_75 ⟨by omega, by omega⟩ ?_
          refine zA_iload dX6_goOn_76 rfl ?_
          refine zA_iaddB dX6_goOn_78 ⟨by omega, by omega⟩ ?_
          refine zA_iasE (j := j) t_23 (by omega) (by omega) dX6_goOn_79 rfl ?_
          refine zA_aload_n dX6_goOn_80 rfl ?_
          refine zA_getR fX6_11 t_17 rfl dX6_goOn_81 ?_
          refine zA_iload_n dX6_goOn_84 rfl ?_
          refine zA_aaldG (k' := 19 + j) t_18 (by omega) (by omega) (t_rbs j (by omega)) dX6_goOn_85 ?_
          refine zA_aload_n dX6_goOn_86 rfl ?_
          refine zA_getR fX6_11 t_17 rfl dX6_goOn_87 ?_
          refine zA_iload_n dX6_goOn_90 rfl ?_
          refine zA_iconst dX6_goOn_91 rfl ?_
          refine zA_iaddE (w := ((j + 1 : Nat) : Int)) dX6_goOn_92 ⟨by omega, by omega⟩ (by omega) ?_
          refine zA_aaldG (k' := 19 + (j + 1)) t_18 (by omega) (by omega) (t_rbs (j + 1) (by omega)) dX6_goOn_93 ?_
          refine zA_cNv (st := []) kX6_48 (c_X8_copyPartsR (d + 3) (19 + j) (19 + (j + 1)) (zup ν 23 j ((10 * (a : Int)) + (b : Int))) (t_rb j (by omega)) (t_rb (j + 1) (by omega))) rfl rfl rfl dX6_goOn_94 (zfit0 (by omega) rfl) (fun μ6 q6 => ?_)
          obtain ⟨qa, qb⟩ := q6
          have F1 : ∀ c, c ≠ 23 → c ≠ 19 + (j + 1) → μ6 c = ν c := fun c c1 c2 => by rw [qb c c2]; funext i; exact zup_k c1
          have hr1 : ∀ i, i < 30 → μ6 (19 + (j + 1)) i = R i := fun i hi => by rw [qa i hi, zup_k (by omega), i4 (19 + j) (by omega) (by omega) (by omega) (by omega) (by omega) (by omega) (by omega)]; exact hrow i hi
          refine zA_aload_n dX6_goOn_97 rfl ?_
          refine zA_aload_n dX6_goOn_98 rfl ?_
          refine zA_getR fX6_11 t_17 rfl dX6_goOn_99 ?_
          refine zA_iload_n dX6_goOn_102 rfl ?_
          refine zA_iconst dX6_goOn_103 rfl ?_
          refine zA_iaddE (w := ((j + 1 : Nat) : Int)) dX6_goOn_104 ⟨by omega, by omega⟩ (by omega) ?_
          refine zA_aaldG (k' := 19 + (j + 1)) t_18 (by omega) (by omega) (t_rbs (j + 1) (by omega)) dX6_goOn_105 ?_
          refine zA_aload_n dX6_goOn_106 rfl ?_
          refine zA_getE (w := g) fX6_55 t_17 dX6_goOn_107 (by rw [F1 17 (by decide) (by omega), i2 5 (by decide)]; exact ha.1) ?_
          refine zA_iload dX6_goOn_110 rfl ?_
          refine zA_iload dX6_goOn_112 rfl ?_
          refine zA_cVv (st := []) kX6_79 t_1 rfl rfl (c_X2_exchange (d + 1) μ6 (19 + (j + 1)) n m t u g a b (t_rb (j + 1) (by omega)) (hH.keep (by rw [F1 1 (by omega) (by omega), i4 1 (by omega) (by omega) (by omega) (by omega) (by omega) (by omega) (by omega)]) (by rw [F1 3 (by omega) (by omega), i4 3 (by omega) (by omega) (by omega) (by omega) (by omega) (by omega) (by omega)]) (by rw [F1 4 (by omega) (by omega), i4 4 (by omega) (by omega) (by omega) (by omega) (by omega) (by omega) (by omega)])) (by omega) (by omega) (by omega) (rOk_congr hn5 hm6 (fun i hi => (hr1 i hi).symm) hok)) rfl rfl rfl dX6_goOn_114 (zfit0 (by omega) rfl) (fun μ7 q7 => ?_)
          obtain ⟨ra, rb⟩ := q7
          have hp6 : (6 * a + b) / 6 = a := by omega
          have hp7 : (6 * a + b) % 6 = b := by omega
          have F2 : ∀ c, c ≠ 5 → c ≠ 6 → c ≠ 7 → c ≠ 23 → c ≠ 19 + (j + 1) → μ7 c = ν c := fun c c1 c2 c3 c4 c5 => by rw [rb c c5 c1 c2 c3, F1 c c4 c5]
          have e23 : ∀ i, μ7 23 i = if i = j then 10 * (a : Int) + (b : Int) else ν 23 i := fun i => by rw [rb 23 (by omega) (by decide) (by decide) (by decide), qb 23 (by omega)]; unfold zup; by_cases e : i = j <;> simp [e]
          have e17 : μ7 17 = ν 17 := F2 17 (by decide) (by decide) (by decide) (by decide) (by omega)
          have e24 : μ7 24 = ν 24 := F2 24 (by decide) (by decide) (by decide) (by decide) (by omega)
          have hr2 : ∀ i, i < 30 → μ7 (19 + (j + 1)) i = rX u n g (6 * a + b) R i := fun i hi => by rw [ra, rX, hp6, hp7]; exact xchG_congr hn5 (by omega) (by omega) hr1 i hi
          have hV : mV m (6 * a + b) = true := decide_eq_true (by omega)
          have hpre2 : ∀ i, i < j + 1 → μ7 23 i = pv ((π * 36 + (6 * a + b)) / 36 ^ (j + 1 - 1 - i) % 36) := fun i hi => by
            rw [e23 i]
            by_cases e : i = j
            · rw [if_pos e, e, show j + 1 - 1 - j = 0 by omega, Nat.pow_zero, Nat.div_one, show (π * 36 + (6 * a + b)) % 36 = 6 * a + b by omega]; unfold pv; rw [hp6, hp7]
            · rw [if_neg e, i3 i (by omega), hpre i (by omega), show j + 1 - 1 - i = (j - 1 - i) + 1 by omega, Nat.pow_succ, Nat.mul_comm (36 ^ (j - 1 - i)) 36, ← Nat.div_div_eq_div_mul, show (π * 36 + (6 * a + b)) / 36 = π by omega]
          refine zA_aload_n dX6_goOn_117 rfl ?_
          refine zA_aload_n dX6_goOn_118 rfl ?_
          refine zA_iload_n dX6_goOn_119 rfl ?_
          refine zA_iconst dX6_goOn_120 rfl ?_
          refine zA_iaddE (w := ((j + 1 : Nat) : Int)) dX6_goOn_121 ⟨by omega, by omega⟩ (by omega) ?_
          refine zA_iload_n dX6_goOn_122 rfl ?_
          refine zA_cVv (st := []) kX6_62 t_17 rfl rfl (hrec (j + 1) (π * 36 + (6 * a + b)) _ _ (rX u n g (6 * a + b) R) μ7 (by omega) (hH.keep (by rw [F2 1 (by decide) (by decide) (by decide) (by decide) (by omega), i4 1 (by omega) (by omega) (by omega) (by omega) (by omega) (by omega) (by omega)]) (by rw [F2 3 (by decide) (by decide) (by decide) (by decide) (by omega), i4 3 (by omega) (by omega) (by omega) (by omega) (by omega) (by omega) (by omega)]) (by rw [F2 4 (by decide) (by decide) (by decide) (by decide) (by omega), i4 4 (by omega) (by omega) (by omega) (by omega) (by omega) (by omega) (by omega)])) (by unfold rAim; rw [e17, i2 5 (by decide), i2 6 (by decide), i2 7 (by decide), i2 8 (by decide), i2 9 (by decide), i2 10 (by decide)]; exact ha) (by unfold rS_; rw [e17, e24]; exact i1) hpre2 hr2 (by rw [rX, hp6, hp7]; exact xchG_ok hn5 hu1 (by omega) (by omega) (by omega) hok) (fun r2 hr => by rw [hr] at hZ; exact tot_dn (by omega) hV hZ) (by omega)) rfl rfl rfl dX6_goOn_123 (zfit0 (by omega) rfl) (fun μ8 q8 => ?_)
          refine zA_iincB (ls' := [some (zR 17), some (zR 1), some (zI (j : Int)), some (zI (L : Int)), some (zI (a : Int)), some (zI ((b : Int) + 1))]) dX6_goOn_126 rfl rfl ⟨by omega, by omega⟩ rfl ?_
          refine zA_goto (tgt := 34) dX6_goOn_129 rfl ?_
          refine ihb _ (by omega) (b + 1) rfl (by omega) (by omega) μ8 ?_
          obtain ⟨t1, t2, t3, t4⟩ := q8
          rw [show 6 * a + (b + 1) = 6 * a + b + 1 by omega, ch_c (by omega), ch_f (by omega), hV]
          simp only [if_true]
          rw [foA_s, ← Nat.add_assoc]
          refine ⟨t1, fun i hi => by rw [t2 i hi, e17, i2 i hi], fun i hi => by rw [t3 i (by omega), e23, if_neg (by omega), i3 i hi], fun c c1 c2 c3 c4 c5 c6 c7 => by rw [t4 c c1 c2 c3 c4 c5 c6 (by omega), F2 c c1 c2 c3 c5 (by omega), i4 c c1 c2 c3 c4 c5 c6 c7]⟩
    · have hbe : b = m := by omega
      refine zA_iload dX6_goOn_34 rfl ?_
      refine zA_aload_n dX6_goOn_36 rfl ?_
      refine zA_getE (w := (m : Int)) fX6_70 t_1 dX6_goOn_37 (by rw [i4 1 (by decide) (by decide) (by decide) (by decide) (by decide) (by decide) (by omega)]; exact hm) ?_
      refine zA_icmp_ge (tgt := 132) dX6_goOn_40 rfl (fun h40 => ?_) (fun h40 => False.elim (by omega))
      refine zA_dr (ls' := [some (zR 17), some (zR 1), some (zI (j : Int)), some (zI (L : Int)), some (zI (a : Int)), none]) 5 rfl ?_
      have hsk : ∀ i, 6 * a + b ≤ i → i < 6 * a + b + (6 - b) → mV m i = false ∨ (tot (rF x1 v x2 w) (rX u n g) (mV m) r (rX u n g i R)) = 0 := fun i i1 i2 => Or.inl (decide_eq_false (by omega))
      obtain ⟨c1, c2⟩ := ch_skip (F := rF x1 v x2 w) (X := rX u n g) (V := mV m) (r := r) (p := 6 * a + b) (R := R) (6 - b) (by omega) hsk
      rw [show 6 * a + b + (6 - b) = 6 * (a + 1) by omega] at c1 c2
      refine hc ν ?_
      rw [c1, c2]
      exact hI
theorem rw_outer (d n m t L x1 x2 : Nat) (u g co v w : Int) (r : Nat) (hrec : rwSpec n m t L x1 x2 u g co v w (d + 4) r) (hL : L ≤ 3) (h1 : x1 < 30) (h2 : x2 < 30) (hx1 : ((x1 / 5 : Nat) : Int) = co) (hx2 : ((x2 / 5 : Nat) : Int) = co) (j π N : Nat) (fo : Option Nat) (R : Nat → Int) (μ : zM) (hj : j + (r + 1) = L) (hH : zHs μ n m t u) (ha : rAim μ g co x1 v x2 w) (hpre : (∀ i, i < j → μ 23 i = pv (π / 36 ^ (j - 1 - i) % 36))) (hrow : ∀ i, i < 30 → μ (19 + j) i = R i) (hok : rOk n m R) (hZ : (tot (rF x1 v x2 w) (rX u n g) (mV m) r R) = 0) (hN : N + 36 ^ (r + 1) ≤ 100000) : ∀ (t0 a : Nat), m - a = t0 → a ≤ m → ∀ ν : zM, rI L j μ ν (N + cN (md (rF x1 v x2 w) (rX u n g) (mV m) (r + 1) R) ((6 * a) * 36 ^ r)) (foA fo (fB (md (rF x1 v x2 w) (rX u n g) (mV m) (r + 1) R) ((6 * a) * 36 ^ r)) (π * 36 ^ (r + 1))) → zA RX6 cX6_goOn 6 (zRm (d + 5) 0) zN0 TF 0 ν 19 [some (zR 17), some (zR 1), some (zI (j : Int)), some (zI (L : Int)), some (zI (a : Int)), none] [] (zPv (fun ν => rI L j μ ν (N + (tot (rF x1 v x2 w) (rX u n g) (mV m) (r + 1) R)) (foA fo (fst (rF x1 v x2 w) (rX u n g) (mV m) (r + 1) R) (π * 36 ^ (r + 1))))) := by
  have hH0 := hH
  obtain ⟨hn, hu, hm, ht, hn5, hm6, ht10, hu1, hdk⟩ := hH0
  intro t0
  induction t0 using Nat.strongRecOn with
  | ind t0 ih =>
    intro a hk ham ν hI
    refine zA_iload dX6_goOn_19 rfl ?_
    refine zA_aload_n dX6_goOn_21 rfl ?_
    refine zA_getE (w := (m : Int)) fX6_70 t_1 dX6_goOn_22 (by rw [hI.2.2.2 1 (by decide) (by decide) (by decide) (by decide) (by decide) (by decide) (by omega)]; exact hm) ?_
    refine zA_icmp_ge (tgt := 138) dX6_goOn_25 rfl (fun h25 => ?_) (fun h25 => ?_)
    · refine zA_rv dX6_goOn_138 ?_
      have hsk : ∀ i, 6 * a ≤ i → i < 6 * a + (36 - 6 * a) → mV m i = false ∨ (tot (rF x1 v x2 w) (rX u n g) (mV m) r (rX u n g i R)) = 0 := fun i i1 i2 => Or.inl (decide_eq_false (by omega))
      obtain ⟨c1, c2⟩ := ch_skip (F := rF x1 v x2 w) (X := rX u n g) (V := mV m) (r := r) (p := 6 * a) (R := R) (36 - 6 * a) (by omega) hsk
      rw [show 6 * a + (36 - 6 * a) = 36 by omega] at c1 c2
      have hps : 36 ^ (r + 1) = 36 * 36 ^ r := by rw [Nat.pow_succ, Nat.mul_comm]
      rw [tot, fst, hps, c1, c2, ← hps]
      exact hI
    · refine zA_iload dX6_goOn_28 rfl ?_
      refine zA_iconst dX6_goOn_30 rfl ?_
      refine zA_iaddB dX6_goOn_31 ⟨by omega, by omega⟩ ?_
      refine zA_istore (ls' := [some (zR 17), some (zR 1), some (zI (j : Int)), some (zI (L : Int)), some (zI (a : Int)), some (zI ((a : Int) + 1))]) dX6_goOn_32 rfl rfl ?_
      have hsk : ∀ i, 6 * a ≤ i → i < 6 * a + (a + 1) → mV m i = false ∨ (tot (rF x1 v x2 w) (rX u n g) (mV m) r (rX u n g i R)) = 0 := fun i i1 i2 => Or.inl (decide_eq_false (by omega))
      obtain ⟨c1, c2⟩ := ch_skip (F := rF x1 v x2 w) (X := rX u n g) (V := mV m) (r := r) (p := 6 * a) (R := R) (a + 1) (by omega) hsk
      refine rw_inner d n m t L x1 x2 u g co v w r hrec hL h1 h2 hx1 hx2 j π N fo R μ hj hH ha hpre hrow hok hZ hN a (by omega) _ (fun ν hI => ?_) _ (a + 1) rfl (by omega) (by omega) ν (by rw [c1, c2]; exact hI)
      refine zA_iincB (ls' := [some (zR 17), some (zR 1), some (zI (j : Int)), some (zI (L : Int)), some (zI ((a : Int) + 1)), none]) dX6_goOn_132 rfl rfl ⟨by omega, by omega⟩ rfl ?_
      refine zA_goto (tgt := 19) dX6_goOn_135 rfl ?_
      exact ih _ (by omega) (a + 1) rfl (by omega) ν hI
theorem rw_step (d n m t L x1 x2 : Nat) (u g co v w : Int) (r : Nat) (hrec : rwSpec n m t L x1 x2 u g co v w (d + 4) r) (hL : L ≤ 3) (h1 : x1 < 30) (h2 : x2 < 30) (hx1 : ((x1 / 5 : Nat) : Int) = co) (hx2 : ((x2 / 5 : Nat) : Int) = co) : rwSpec n m t L x1 x2 u g co v w (d + 5) (r + 1) := by
  intro j π N fo R μ hj hH ha hS hpre hrow hok hZ hN
  refine zMv_of RX6 rfl (by decide) rfl (ls := [some (zR 17), some (zR 1), some (zI (j : Int)), some (zI (L : Int)), none, none]) rfl (fun hok0 => ?_)
  refine zA_iload_n dX6_goOn_0 rfl ?_
  refine zA_iload_n dX6_goOn_1 rfl ?_
  refine zA_icmp_ge (tgt := 10) dX6_goOn_2 rfl (fun hh2 => False.elim (by omega)) fun hh2 => ?_
  refine zA_iload_n dX6_goOn_5 rfl ?_
  refine zA_iconst dX6_goOn_6 rfl ?_
  refine zA_icmp_lt (tgt := 16) dX6_goOn_7 rfl (fun h7 => ?_) (fun h7 => False.elim (by omega))
  refine zA_iconst dX6_goOn_16 rfl ?_
  refine zA_istore (ls' := [some (zR 17), some (zR 1), some (zI (j : Int)), some (zI (L : Int)), some (zI 0), none]) dX6_goOn_17 rfl rfl ?_
  refine rw_outer d n m t L x1 x2 u g co v w r hrec hL h1 h2 hx1 hx2 j π N fo R μ hj hH ha hpre hrow hok (hZ r rfl) hN _ 0 rfl (by omega) μ ⟨?_, fun _ _ => rfl, fun _ _ => rfl, fun _ _ _ _ _ _ _ _ => rfl⟩
  rw [Nat.mul_zero, Nat.zero_mul]
  show rS_ L μ (N + 0) (foA fo none _)
  rw [foA_n]
  exact hS
theorem rw_all (n m t L x1 x2 : Nat) (u g co v w : Int) (hL : L ≤ 3) (h1 : x1 < 30) (h2 : x2 < 30) (hx1 : ((x1 / 5 : Nat) : Int) = co) (hx2 : ((x2 / 5 : Nat) : Int) = co) : ∀ (r d : Nat), rwSpec n m t L x1 x2 u g co v w (d + r + 4) r
  | 0, d => rw_leaf d n m t L x1 x2 u g co v w hL h1 h2
  | r + 1, d => rw_step (d + r) n m t L x1 x2 u g co v w r (rw_all n m t L x1 x2 u g co v w hL h1 h2 hx1 hx2 r d) hL h1 h2 hx1 hx2
def cV (T : Nat → Nat) (C : Nat → Option Nat) (i : Int) : Int := match fB (fun L => decide (0 < T L)) 4 with
  | none => -1
  | some L => if i = -1 then (L : Int) else if i = -2 then (T L : Int) else if 0 ≤ i ∧ i < L then (match C L with | none => -1 | some c => pv (c / 36 ^ (L - 1 - i.toNat) % 36)) else -1
theorem cN_bd {q : Nat → Bool} {r : Nat} (hr : r ≤ 3) : cN q (36 ^ r) ≤ 46656 := Nat.le_trans (cN_le _ _) (Nat.le_trans (Nat.pow_le_pow_right (n := 36) (by decide) hr) (by decide))
theorem l_X6_findFewest (d n m t x1 x2 : Nat) (u co v w : Int) (μ : zM) (hH : zHs μ n m t u) (hok : rOk n m (μ 53)) (h1 : x1 < 30) (h2 : x2 < 30) (hx1 : ((x1 / 5 : Nat) : Int) = co) (hx2 : ((x2 / 5 : Nat) : Int) = co) : ∀ (t0 k : Nat), 4 - k = t0 → k ≤ 4 → fB (fun L => decide (0 < (tot (rF x1 v x2 w) (rX u n (μ 52 1)) (mV m) L (μ 53)))) k = none → ∀ ν : zM, (ν 17 4 = 0 ∧ ν 17 3 = -1 ∧ rAim ν (μ 52 1) co x1 v x2 w ∧ (∀ i, i < 30 → ν 19 i = μ 53 i) ∧ (∀ c, c ≠ 5 → c ≠ 6 → c ≠ 7 → ¬ (17 ≤ c ∧ c ≤ 24) → ν c = μ c)) → zA RX6 cX6_findFewest 4 (zRm (d + 8) 0) zN0 TF 0 ν 33 [some (zR 17), some (zR 1), some (zR 52), some (zI (k : Int))] [] (zPv (fun ν => ν 17 3 = gOb (fB (fun L => decide (0 < (tot (rF x1 v x2 w) (rX u n (μ 52 1)) (mV m) L (μ 53)))) 4) ∧ (∀ L, fB (fun L => decide (0 < (tot (rF x1 v x2 w) (rX u n (μ 52 1)) (mV m) L (μ 53)))) 4 = some L → ν 17 4 = ((tot (rF x1 v x2 w) (rX u n (μ 52 1)) (mV m) L (μ 53)) : Int) ∧ ∀ c, (fst (rF x1 v x2 w) (rX u n (μ 52 1)) (mV m) L (μ 53)) = some c → ∀ i, i < L → ν 24 i = pv (c / 36 ^ (L - 1 - i) % 36)) ∧ (∀ c, c ≠ 5 → c ≠ 6 → c ≠ 7 → ¬ (17 ≤ c ∧ c ≤ 24) → ν c = μ c))) := by
  intro t0
  induction t0 using Nat.strongRecOn with
  | ind t0 ih =>
    intro k hk hk4 hnone ν hd
    obtain ⟨z1, z2, z3, z4, z5⟩ := hd
    refine zA_iload_n dX6_findFewest_33 rfl ?_
    refine zA_iconst dX6_findFewest_34 rfl ?_
    refine zA_icmp_gt (tgt := 74) dX6_findFewest_35 rfl (fun h35 => ?_) (fun h35 => ?_)
    · exact zA_rv dX6_findFewest_74 ⟨by rw [show (4 : Nat) = k by omega, hnone]; exact z2, fun L hL => (by rw [show (4 : Nat) = k by omega, hnone] at hL; cases hL), z5⟩
    · refine zA_aload_n dX6_findFewest_38 rfl ?_
      refine zA_getE (w := 0) fX6_59 t_17 dX6_findFewest_39 z1 ?_
      refine zA_if_ne (tgt := 74) dX6_findFewest_42 rfl (fun h42 => False.elim (by omega)) fun h42 => ?_
      refine zA_aload_n dX6_findFewest_45 rfl ?_
      refine zA_aload_n dX6_findFewest_46 rfl ?_
      refine zA_iconst dX6_findFewest_47 rfl ?_
      refine zA_iload_n dX6_findFewest_48 rfl ?_
      have hgo := rw_all n m t k x1 x2 u (μ 52 1) co v w (by omega) h1 h2 hx1 hx2 k (d + 3 - k)
      rw [show d + 3 - k + k + 4 = d + 7 by omega] at hgo
      have hpw : 0 + 36 ^ k ≤ 100000 := by
        have := Nat.pow_le_pow_right (n := 36) (by decide) (show k ≤ 3 by omega)
        omega
      have hZ : ∀ r', k = r' + 1 → (tot (rF x1 v x2 w) (rX u n (μ 52 1)) (mV m) r' (μ 53)) = 0 := fun r' hr => by
        have := fB_non hnone r' (by omega)
        have := of_decide_eq_false this
        omega
      refine zA_cVv (st := []) kX6_62 t_17 rfl rfl (hgo 0 0 0 none (μ 53) ν (by omega) (hH.keep (z5 1 (by decide) (by decide) (by decide) (by decide)) (z5 3 (by decide) (by decide) (by decide) (by decide)) (z5 4 (by decide) (by decide) (by decide) (by decide))) z3 ⟨z1, ⟨fun _ => rfl, fun _ => rfl⟩, fun C hC => by cases hC⟩ (fun i hi => by omega) z4 hok hZ hpw) rfl rfl rfl dX6_findFewest_49 (zfit0 (by omega) rfl) (fun μ1 q1 => ?_)
      obtain ⟨⟨t1, t2, t3⟩, t4, t5, t6⟩ := q1
      rw [Nat.zero_add] at t1 t2
      rw [Nat.zero_mul, show foA none (fst (rF x1 v x2 w) (rX u n (μ 52 1)) (mV m) k (μ 53)) 0 = (fst (rF x1 v x2 w) (rX u n (μ 52 1)) (mV m) k (μ 53)) by cases (fst (rF x1 v x2 w) (rX u n (μ 52 1)) (mV m) k (μ 53)) <;> simp [foA]] at t2 t3
      refine zA_aload_n dX6_findFewest_52 rfl ?_
      refine zA_aload_n dX6_findFewest_53 rfl ?_
      refine zA_getE (w := ((tot (rF x1 v x2 w) (rX u n (μ 52 1)) (mV m) k (μ 53)) : Int)) fX6_59 t_17 dX6_findFewest_54 t1 ?_
      refine zA_if_le (tgt := 64) dX6_findFewest_57 rfl (fun h57 => ?_) (fun h57 => ?_)
      · refine zA_iconst dX6_findFewest_64 rfl ?_
        refine zA_putI wX6_56 t_17 dX6_findFewest_65 ?_
        refine zA_iincB (ls' := [some (zR 17), some (zR 1), some (zR 52), some (zI ((k : Int) + 1))]) dX6_findFewest_68 rfl rfl ⟨by omega, by omega⟩ rfl ?_
        refine zA_goto (tgt := 33) dX6_findFewest_71 rfl ?_
        have h0 : (tot (rF x1 v x2 w) (rX u n (μ 52 1)) (mV m) k (μ 53)) = 0 := by omega
        have hn2 : fB (fun L => decide (0 < (tot (rF x1 v x2 w) (rX u n (μ 52 1)) (mV m) L (μ 53)))) (k + 1) = none := fB_no hnone (decide_eq_false (by omega))
        refine ih _ (by omega) (k + 1) rfl (by omega) hn2 _ ⟨?_, zup_s, ?_, fun i hi => ?_, fun c c1 c2 c3 c4 => ?_⟩
        · rw [zup_n (by decide), t1, h0]; rfl
        · unfold rAim at *
          refine ⟨?_, ?_, ?_, ?_, ?_, ?_⟩ <;> rw [zup_n (by decide), t4 _ (by decide)]
          · exact z3.1
          · exact z3.2.1
          · exact z3.2.2.1
          · exact z3.2.2.2.1
          · exact z3.2.2.2.2.1
          · exact z3.2.2.2.2.2
        · rw [zup_k (by decide), t6 19 (by decide) (by decide) (by decide) (by decide) (by decide) (by decide) (by omega)]; exact z4 i hi
        · rw [← z5 c c1 c2 c3 c4, ← t6 c c1 c2 c3 (by omega) (by omega) (by omega) (by omega)]
          funext i
          exact zup_k (by omega)
      · refine zA_iload_n dX6_findFewest_60 rfl ?_
        refine zA_goto (tgt := 65) dX6_findFewest_61 rfl ?_
        refine zA_putI wX6_56 t_17 dX6_findFewest_65 ?_
        refine zA_iincB (ls' := [some (zR 17), some (zR 1), some (zR 52), some (zI ((k : Int) + 1))]) dX6_findFewest_68 rfl rfl ⟨by omega, by omega⟩ rfl ?_
        refine zA_goto (tgt := 33) dX6_findFewest_71 rfl ?_
        have hpos : 0 < (tot (rF x1 v x2 w) (rX u n (μ 52 1)) (mV m) k (μ 53)) := by omega
        have hyes2 : ∀ e, k < e → fB (fun L => decide (0 < (tot (rF x1 v x2 w) (rX u n (μ 52 1)) (mV m) L (μ 53)))) e = some k := fB_yes hnone (decide_eq_true hpos)
        have hbd : (tot (rF x1 v x2 w) (rX u n (μ 52 1)) (mV m) k (μ 53)) ≤ 46656 := cN_bd (by omega)
        refine zA_iload_n dX6_findFewest_33 rfl ?_
        refine zA_iconst dX6_findFewest_34 rfl ?_
        refine zA_icmp_gt (tgt := 74) dX6_findFewest_35 rfl (fun h35 => ?_) (fun h35 => ?_)
        · refine zA_rv dX6_findFewest_74 ⟨?_, fun L hL => ?_, fun c c1 c2 c3 c4 => ?_⟩
          · rw [zup_s, hyes2 4 (by omega)]; rfl
          · rw [hyes2 4 (by omega)] at hL
            cases hL
            refine ⟨by rw [zup_n (by decide)]; exact t1, fun c hc i hi => ?_⟩
            rw [zup_k (by decide)]
            exact t3 c hc i hi
          · rw [← z5 c c1 c2 c3 c4, ← t6 c c1 c2 c3 (by omega) (by omega) (by omega) (by omega)]
            funext i
            exact zup_k (by omega)
        · refine zA_aload_n dX6_findFewest_38 rfl ?_
          refine zA_getE (w := ((tot (rF x1 v x2 w) (rX u n (μ 52 1)) (mV m) k (μ 53)) : Int)) fX6_59 t_17 dX6_findFewest_39 (by rw [zup_n (by decide)]; exact t1) ?_
          refine zA_if_ne (tgt := 74) dX6_findFewest_42 rfl (fun h42 => ?_) (fun h42 => False.elim (by omega))
          refine zA_rv dX6_findFewest_74 ⟨?_, fun L hL => ?_, fun c c1 c2 c3 c4 => ?_⟩
          · rw [zup_s, hyes2 4 (by omega)]; rfl
          · rw [hyes2 4 (by omega)] at hL
            cases hL
            refine ⟨by rw [zup_n (by decide)]; exact t1, fun c hc i hi => ?_⟩
            rw [zup_k (by decide)]
            exact t3 c hc i hi
          · rw [← z5 c c1 c2 c3 c4, ← t6 c c1 c2 c3 (by omega) (by omega) (by omega) (by omega)]
            funext i
            exact zup_k (by omega)
theorem c_X6_findFewest (d n m t x1 x2 : Nat) (u co v w : Int) (μ : zM) (hH : zHs μ n m t u) (hok : rOk n m (μ 53)) (h1 : x1 < 30) (h2 : x2 < 30) (hx1 : ((x1 / 5 : Nat) : Int) = co) (hx2 : ((x2 / 5 : Nat) : Int) = co) (ha : μ 17 6 = co ∧ μ 17 7 = (x1 : Int) ∧ μ 17 8 = v ∧ μ 17 9 = (x2 : Int) ∧ μ 17 10 = w) : zMet (d + 8) 0 yX6_findFewest cX6_findFewest 4 none TF μ [zR 17, zR 1, zR 52] (zPv (fun ν => ν 17 3 = gOb (fB (fun L => decide (0 < (tot (rF x1 v x2 w) (rX u n (μ 52 1)) (mV m) L (μ 53)))) 4) ∧ (∀ L, fB (fun L => decide (0 < (tot (rF x1 v x2 w) (rX u n (μ 52 1)) (mV m) L (μ 53)))) 4 = some L → ν 17 4 = ((tot (rF x1 v x2 w) (rX u n (μ 52 1)) (mV m) L (μ 53)) : Int) ∧ ∀ c, (fst (rF x1 v x2 w) (rX u n (μ 52 1)) (mV m) L (μ 53)) = some c → ∀ i, i < L → ν 24 i = pv (c / 36 ^ (L - 1 - i) % 36)) ∧ (∀ c, c ≠ 5 → c ≠ 6 → c ≠ 7 → ¬ (17 ≤ c ∧ c ≤ 24) → ν c = μ c))) := by
  refine zMv_of RX6 rfl (by decide) rfl (ls := [some (zR 17), some (zR 1), some (zR 52), none]) rfl (fun hok0 => ?_)
  refine zA_aload_n dX6_findFewest_0 rfl ?_
  refine zA_getR fX6_43 t_52 rfl dX6_findFewest_1 ?_
  refine zA_aload_n dX6_findFewest_4 rfl ?_
  refine zA_getR fX6_11 t_17 rfl dX6_findFewest_5 ?_
  refine zA_iconst dX6_findFewest_8 rfl ?_
  refine zA_aaldG t_18 (by omega) (by omega) rfl dX6_findFewest_9 ?_
  refine zA_cNv (st := []) kX6_48 (c_X8_copyPartsR (d + 6) 53 19 μ t_53 t_19) rfl rfl rfl dX6_findFewest_10 (zfit0 (by omega) rfl) (fun μ1 q1 => ?_)
  obtain ⟨q1a, q1b⟩ := q1
  refine zA_aload_n dX6_findFewest_13 rfl ?_
  refine zA_aload_n dX6_findFewest_14 rfl ?_
  refine zA_getE (w := μ 52 1) fX6_52 t_52 dX6_findFewest_15 (by rw [q1b 52 (by decide)]) ?_
  refine zA_putI wX6_55 t_17 dX6_findFewest_18 ?_
  refine zA_aload_n dX6_findFewest_21 rfl ?_
  refine zA_iconst dX6_findFewest_22 rfl ?_
  refine zA_putI wX6_56 t_17 dX6_findFewest_23 ?_
  refine zA_aload_n dX6_findFewest_26 rfl ?_
  refine zA_iconst dX6_findFewest_27 rfl ?_
  refine zA_putI wX6_59 t_17 dX6_findFewest_28 ?_
  refine zA_iconst dX6_findFewest_31 rfl ?_
  refine zA_istore_n (ls' := [some (zR 17), some (zR 1), some (zR 52), some (zI 0)]) dX6_findFewest_32 rfl rfl ?_
  refine l_X6_findFewest d n m t x1 x2 u co v w μ hH hok h1 h2 hx1 hx2 _ 0 rfl (by omega) rfl _ ⟨zup_s, by rw [zup_n (by decide), zup_s], ?_, fun i hi => ?_, fun c c1 c2 c3 c4 => ?_⟩
  · unfold rAim at *
    have e17 := q1b 17 (by decide)
    refine ⟨?_, ?_, ?_, ?_, ?_, ?_⟩
    · rw [zup_n (by decide), zup_n (by decide), zup_s]
    · rw [zup_n (by decide), zup_n (by decide), zup_n (by decide), e17]; exact ha.1
    · rw [zup_n (by decide), zup_n (by decide), zup_n (by decide), e17]; exact ha.2.1
    · rw [zup_n (by decide), zup_n (by decide), zup_n (by decide), e17]; exact ha.2.2.1
    · rw [zup_n (by decide), zup_n (by decide), zup_n (by decide), e17]; exact ha.2.2.2.1
    · rw [zup_n (by decide), zup_n (by decide), zup_n (by decide), e17]; exact ha.2.2.2.2
  · exact q1a i hi
  · rw [← q1b c (by omega)]
    funext i
    rw [zup_k (by omega), zup_k (by omega), zup_k (by omega)]
theorem c_X6_aimAt (d : Nat) (a c v e w : Int) (μ : zM) (ha : 0 ≤ a ∧ a < 6) (hc : 0 ≤ c ∧ c < 5) (he : 0 ≤ e ∧ e < 5) : zMet (d + 2) 0 yX6_aimAt cX6_aimAt 6 none TF μ [zR 17, zI a, zI c, zI v, zI e, zI w] (zPv (fun ν => (ν 17 6 = a ∧ ν 17 7 = a * 5 + c ∧ ν 17 8 = v ∧ ν 17 9 = a * 5 + e ∧ ν 17 10 = w) ∧ ∀ k, k ≠ 17 → ν k = μ k)) := by
  refine zMv_of RX6 rfl (by decide) rfl (ls := [some (zR 17), some (zI a), some (zI c), some (zI v), some (zI e), some (zI w)]) rfl (fun hok0 => ?_)
  refine zA_aload_n dX6_aimAt_0 rfl ?_
  refine zA_iload_n dX6_aimAt_1 rfl ?_
  refine zA_putI wX6_23 t_17 dX6_aimAt_2 ?_
  refine zA_aload_n dX6_aimAt_5 rfl ?_
  refine zA_iload_n dX6_aimAt_6 rfl ?_
  refine zA_iload_n dX6_aimAt_7 rfl ?_
  refine zA_cNi (st := [zR 17]) kX6_27 (c_X8_cell d a c (zup μ 17 6 a) (by omega) (by omega)) rfl rfl rfl dX6_aimAt_8 (zfit0 (by omega) rfl) (fun v1 μ1 q1 => ?_)
  obtain ⟨rfl, rfl⟩ := q1
  refine zA_putI wX6_31 t_17 dX6_aimAt_11 ?_
  refine zA_aload_n dX6_aimAt_14 rfl ?_
  refine zA_iload_n dX6_aimAt_15 rfl ?_
  refine zA_putI wX6_34 t_17 dX6_aimAt_16 ?_
  refine zA_aload_n dX6_aimAt_19 rfl ?_
  refine zA_iload_n dX6_aimAt_20 rfl ?_
  refine zA_iload dX6_aimAt_21 rfl ?_
  refine zA_cNi (st := [zR 17]) kX6_27 (c_X8_cell d a e (zup (zup (zup μ 17 6 a) 17 7 (a * 5 + c)) 17 8 v) (by omega) (by omega)) rfl rfl rfl dX6_aimAt_23 (zfit0 (by omega) rfl) (fun v2 μ2 q2 => ?_)
  obtain ⟨rfl, rfl⟩ := q2
  refine zA_putI wX6_37 t_17 dX6_aimAt_26 ?_
  refine zA_aload_n dX6_aimAt_29 rfl ?_
  refine zA_iload dX6_aimAt_30 rfl ?_
  refine zA_putI wX6_40 t_17 dX6_aimAt_32 ?_
  exact zA_rv dX6_aimAt_35 ⟨⟨rfl, rfl, rfl, rfl, rfl⟩, fun k hk => by funext i; rw [zup_k hk, zup_k hk, zup_k hk, zup_k hk, zup_k hk]⟩
theorem c_X8_came (d : Nat) (μ : zM) (n m t : Nat) (u a c v e w i : Int) (hH : zHs μ n m t u) (hok : rOk n m (μ 53)) : zMet (d + 9) 0 yX8_came cX8_came 7 (some .int) TF μ [zR 0, zI a, zI c, zI v, zI e, zI w, zI i] (zPi (fun r ξ => qC μ ξ ∧ ((¬ (((0 ≤ a ∧ a < m) ∧ (0 ≤ c ∧ c < n)) ∧ (0 ≤ e ∧ e < n) ∧ c ≠ e) ∧ r = -1000000001) ∨ ((((0 ≤ a ∧ a < m) ∧ (0 ≤ c ∧ c < n)) ∧ (0 ≤ e ∧ e < n) ∧ c ≠ e) ∧ ¬ ((0 ≤ v ∧ v ≤ 60) ∧ (0 ≤ w ∧ w ≤ 60)) ∧ r = -1000000002) ∨ ((((0 ≤ a ∧ a < m) ∧ (0 ≤ c ∧ c < n)) ∧ (0 ≤ e ∧ e < n) ∧ c ≠ e) ∧ ((0 ≤ v ∧ v ≤ 60) ∧ (0 ≤ w ∧ w ≤ 60)) ∧ r = cV (fun L => tot (rF (5 * a + c).toNat v (5 * a + e).toNat w) (rX u n (μ 52 1)) (mV m) L (μ 53)) (fun L => fst (rF (5 * a + c).toNat v (5 * a + e).toNat w) (rX u n (μ 52 1)) (mV m) L (μ 53)) i)))) := by
  have hH0 := hH
  obtain ⟨hn, hu, hm, ht, hn5, hm6, ht10, hu1, hdk⟩ := hH0
  refine zMi_of RX8 rfl (by decide) rfl (ls := [some (zR 0), some (zI a), some (zI c), some (zI v), some (zI e), some (zI w), some (zI i)]) rfl (fun hok0 => ?_)
  refine zA_aload_n dX8_came_0 rfl ?_
  refine zA_getR fX8_12 t_0 rfl dX8_came_1 ?_
  refine zA_iload_n dX8_came_4 rfl ?_
  refine zA_iload_n dX8_came_5 rfl ?_
  refine zA_cVb (st := []) kX8_140 t_1 rfl rfl (c_X2_hasCell (d + 6) a c μ) rfl rfl rfl dX8_came_6 (zfit0 (by omega) rfl) (fun v1 μ1 q1 => ?_)
  obtain ⟨b1, rfl⟩ := q1
  rw [hn, hm] at b1
  refine zA_ifb_eq (tgt := 30) dX8_came_9 rfl (fun h9 => ?_) (fun h9 => ?_)
  · refine zA_ldc cX8_151 dX8_came_30 rfl ?_
    exact zA_ri dX8_came_32 ⟨qC.refl _, Or.inl ⟨fun q => by first | exact absurd h27 q.2.2 | (have := b1.mpr q.1; simp_all; done) | (have := b2.mpr q.2.1; simp_all; done) | (have := q.2.2; simp_all; done), rfl⟩⟩
  · refine zA_aload_n dX8_came_12 rfl ?_
    refine zA_getR fX8_12 t_0 rfl dX8_came_13 ?_
    refine zA_iload dX8_came_16 rfl ?_
    refine zA_cVb (st := []) kX8_215 t_1 rfl rfl (c_X2_hasColour (d + 7) e μ) rfl rfl rfl dX8_came_18 (zfit0 (by omega) rfl) (fun v2 μ2 q2 => ?_)
    obtain ⟨b2, rfl⟩ := q2
    rw [hn] at b2
    refine zA_ifb_eq (tgt := 30) dX8_came_21 rfl (fun h21 => ?_) (fun h21 => ?_)
    · refine zA_ldc cX8_151 dX8_came_30 rfl ?_
      exact zA_ri dX8_came_32 ⟨qC.refl _, Or.inl ⟨fun q => by first | exact absurd h27 q.2.2 | (have := b1.mpr q.1; simp_all; done) | (have := b2.mpr q.2.1; simp_all; done) | (have := q.2.2; simp_all; done), rfl⟩⟩
    · refine zA_iload_n dX8_came_24 rfl ?_
      refine zA_iload dX8_came_25 rfl ?_
      refine zA_icmp_ne (tgt := 33) dX8_came_27 rfl (fun h27 => ?_) (fun h27 => ?_)
      · have hb : ((0 ≤ a ∧ a < m) ∧ (0 ≤ c ∧ c < n)) ∧ (0 ≤ e ∧ e < n) ∧ c ≠ e := ⟨b1.mp (by simpa using h9), b2.mp (by simpa using h21), h27⟩
        refine zA_iload_n dX8_came_33 rfl ?_
        refine zA_cSb (st := []) kX8_218 (c_X8_isAmount (d + 7) v μ) rfl rfl rfl dX8_came_34 (zfit0 (by omega) rfl) (fun v3 μ3 q3 => ?_)
        obtain ⟨b3, rfl⟩ := q3
        refine zA_ifb_eq (tgt := 48) dX8_came_37 rfl (fun h37 => ?_) (fun h37 => ?_)
        · refine zA_ldc cX8_88 dX8_came_48 rfl ?_
          exact zA_ri dX8_came_50 ⟨qC.refl _, Or.inr (Or.inl ⟨hb, fun q => by first | (have := b3.mpr q.1; simp_all; done) | (have := b4.mpr q.2; simp_all; done), rfl⟩)⟩
        · refine zA_iload dX8_came_40 rfl ?_
          refine zA_cSb (st := []) kX8_218 (c_X8_isAmount (d + 7) w μ) rfl rfl rfl dX8_came_42 (zfit0 (by omega) rfl) (fun v4 μ4 q4 => ?_)
          obtain ⟨b4, rfl⟩ := q4
          refine zA_ifb_ne (tgt := 51) dX8_came_45 rfl (fun h45 => ?_) (fun h45 => ?_)
          · have hv : (0 ≤ v ∧ v ≤ 60) ∧ (0 ≤ w ∧ w ≤ 60) := ⟨b3.mp (by simpa using h37), b4.mp (by simpa using h45)⟩
            refine zA_aload_n dX8_came_51 rfl ?_
            refine zA_getR fX8_26 t_0 rfl dX8_came_52 ?_
            refine zA_iload_n dX8_came_55 rfl ?_
            refine zA_iload_n dX8_came_56 rfl ?_
            refine zA_iload_n dX8_came_57 rfl ?_
            refine zA_iload dX8_came_58 rfl ?_
            refine zA_iload dX8_came_60 rfl ?_
            refine zA_cVv (st := []) kX8_221 t_17 rfl rfl (c_X6_aimAt (d + 6) a c v e w μ (by omega) (by omega) (by omega)) rfl rfl rfl dX8_came_62 (zfit0 (by omega) rfl) (fun μ5 q5 => ?_)
            obtain ⟨qa, qb⟩ := q5
            refine zA_aload_n dX8_came_65 rfl ?_
            refine zA_getR fX8_26 t_0 rfl dX8_came_66 ?_
            refine zA_aload_n dX8_came_69 rfl ?_
            refine zA_getR fX8_12 t_0 rfl dX8_came_70 ?_
            refine zA_aload_n dX8_came_73 rfl ?_
            refine zA_getR fX8_47 t_0 rfl dX8_came_74 ?_
            refine zA_cVv (st := []) kX8_225 t_17 rfl rfl (c_X6_findFewest d n m t (5 * a + c).toNat (5 * a + e).toNat u a v w μ5 (hH.keep (qb 1 (by decide)) (qb 3 (by decide)) (qb 4 (by decide))) (by rw [qb 53 (by decide)]; exact hok) (by omega) (by omega) (by omega) (by omega) ⟨qa.1, by rw [qa.2.1]; omega, qa.2.2.1, by rw [qa.2.2.2.1]; omega, qa.2.2.2.2⟩) rfl rfl rfl dX8_came_77 (zfit0 (by omega) rfl) (fun μ6 q6 => ?_)
            obtain ⟨f1, f2, f3⟩ := q6
            rw [qb 52 (by decide), qb 53 (by decide)] at f1 f2
            have hq : qC μ μ6 := fun k hk => by rw [f3 k (fun q => hk (by unfold cScr; omega)) (fun q => hk (by unfold cScr; omega)) (fun q => hk (by unfold cScr; omega)) (fun q => hk (by unfold cScr; omega)), qb k (fun q => hk (by unfold cScr; omega))]
            refine zA_aload_n dX8_came_80 rfl ?_
            refine zA_getR fX8_26 t_0 rfl dX8_came_81 ?_
            refine zA_getI fX8_229 t_17 dX8_came_84 ?_
            refine zA_iconst dX8_came_87 rfl ?_
            refine zA_icmp_eq (tgt := 97) dX8_came_88 rfl (fun h88 => ?_) (fun h88 => ?_)
            · refine zA_aload_n dX8_came_97 rfl ?_
              refine zA_getR fX8_26 t_0 rfl dX8_came_98 ?_
              refine zA_getI fX8_229 t_17 dX8_came_101 ?_
              refine zA_ri dX8_came_104 ⟨hq, Or.inr (Or.inr ⟨hb, hv, ?_⟩)⟩
              unfold cV
              cases hF : fB (fun L => decide (0 < tot (rF (5 * a + c).toNat v (5 * a + e).toNat w) (rX u n (μ 52 1)) (mV m) L (μ 53))) 4 with
              | none =>
                replace f1 := f1.trans (congrArg gOb hF)
                simp only [gOb] at f1
                first | exact f1 | (exfalso; omega)
              | some L =>
                rw [hF] at f1
                obtain ⟨g1, g2⟩ := f2 L hF
                simp only [gOb] at f1
                simp only
                have hL4 := (fB_lt hF).1
                first
                  | (rw [if_pos (by omega)]; exact f1)
                  | (rw [if_neg (by omega), if_pos (by omega)]; exact g1)
                  | (rw [if_neg (by omega), if_neg (by omega), if_neg (by omega)])
                  | (exfalso; omega)
                  | (rw [if_neg (by omega), if_neg (by omega), if_pos (by omega)]
                     cases hC : fst (rF (5 * a + c).toNat v (5 * a + e).toNat w) (rX u n (μ 52 1)) (mV m) L (μ 53) with
                     | none =>
                       exfalso
                       have h0 := tot_fst.mpr hC
                       have hp := of_decide_eq_true (fB_lt hF).2
                       omega
                     | some c0 => exact g2 c0 hC _ (by omega))
            · refine zA_iload dX8_came_91 rfl ?_
              refine zA_iconst dX8_came_93 rfl ?_
              refine zA_icmp_ne (tgt := 105) dX8_came_94 rfl (fun h94 => ?_) (fun h94 => ?_)
              · refine zA_iload dX8_came_105 rfl ?_
                refine zA_bipush dX8_came_107 rfl ?_
                refine zA_icmp_ne (tgt := 120) dX8_came_109 rfl (fun h109 => ?_) (fun h109 => ?_)
                · refine zA_iload dX8_came_120 rfl ?_
                  refine zA_if_lt (tgt := 150) dX8_came_122 rfl (fun h122 => ?_) (fun h122 => ?_)
                  · refine zA_iconst dX8_came_150 rfl ?_
                    refine zA_ri dX8_came_151 ⟨hq, Or.inr (Or.inr ⟨hb, hv, ?_⟩)⟩
                    unfold cV
                    cases hF : fB (fun L => decide (0 < tot (rF (5 * a + c).toNat v (5 * a + e).toNat w) (rX u n (μ 52 1)) (mV m) L (μ 53))) 4 with
                    | none =>
                      replace f1 := f1.trans (congrArg gOb hF)
                      simp only [gOb] at f1
                      first | exact f1 | (exfalso; omega)
                    | some L =>
                      rw [hF] at f1
                      obtain ⟨g1, g2⟩ := f2 L hF
                      simp only [gOb] at f1
                      simp only
                      have hL4 := (fB_lt hF).1
                      first
                        | (rw [if_pos (by omega)]; exact f1)
                        | (rw [if_neg (by omega), if_pos (by omega)]; exact g1)
                        | (rw [if_neg (by omega), if_neg (by omega), if_neg (by omega)])
                        | (exfalso; omega)
                        | (rw [if_neg (by omega), if_neg (by omega), if_pos (by omega)]
                           cases hC : fst (rF (5 * a + c).toNat v (5 * a + e).toNat w) (rX u n (μ 52 1)) (mV m) L (μ 53) with
                           | none =>
                             exfalso
                             have h0 := tot_fst.mpr hC
                             have hp := of_decide_eq_true (fB_lt hF).2
                             omega
                           | some c0 => exact g2 c0 hC _ (by omega))
                  · refine zA_iload dX8_came_125 rfl ?_
                    refine zA_aload_n dX8_came_127 rfl ?_
                    refine zA_getR fX8_26 t_0 rfl dX8_came_128 ?_
                    refine zA_getI fX8_229 t_17 dX8_came_131 ?_
                    refine zA_icmp_ge (tgt := 150) dX8_came_134 rfl (fun h134 => ?_) (fun h134 => ?_)
                    · refine zA_iconst dX8_came_150 rfl ?_
                      refine zA_ri dX8_came_151 ⟨hq, Or.inr (Or.inr ⟨hb, hv, ?_⟩)⟩
                      unfold cV
                      cases hF : fB (fun L => decide (0 < tot (rF (5 * a + c).toNat v (5 * a + e).toNat w) (rX u n (μ 52 1)) (mV m) L (μ 53))) 4 with
                      | none =>
                        replace f1 := f1.trans (congrArg gOb hF)
                        simp only [gOb] at f1
                        first | exact f1 | (exfalso; omega)
                      | some L =>
                        rw [hF] at f1
                        obtain ⟨g1, g2⟩ := f2 L hF
                        simp only [gOb] at f1
                        simp only
                        have hL4 := (fB_lt hF).1
                        first
                          | (rw [if_pos (by omega)]; exact f1)
                          | (rw [if_neg (by omega), if_pos (by omega)]; exact g1)
                          | (rw [if_neg (by omega), if_neg (by omega), if_neg (by omega)])
                          | (exfalso; omega)
                          | (rw [if_neg (by omega), if_neg (by omega), if_pos (by omega)]
                             cases hC : fst (rF (5 * a + c).toNat v (5 * a + e).toNat w) (rX u n (μ 52 1)) (mV m) L (μ 53) with
                             | none =>
                               exfalso
                               have h0 := tot_fst.mpr hC
                               have hp := of_decide_eq_true (fB_lt hF).2
                               omega
                             | some c0 => exact g2 c0 hC _ (by omega))
                    · have hlt4 : gOb (fB (fun L => decide (0 < tot (rF (5 * a + c).toNat v (5 * a + e).toNat w) (rX u n (μ 52 1)) (mV m) L (μ 53))) 4) < 4 := gOb_lt
                      refine zA_aload_n dX8_came_137 rfl ?_
                      refine zA_getR fX8_26 t_0 rfl dX8_came_138 ?_
                      refine zA_getR fX8_235 t_17 rfl dX8_came_141 ?_
                      refine zA_iload dX8_came_144 rfl ?_
                      refine zA_ialE (w := μ6 24 i.toNat) (j := i.toNat) t_24 (by omega) (by omega) dX8_came_146 rfl rfl ?_
                      refine zA_goto (tgt := 151) dX8_came_147 rfl ?_
                      refine zA_ri dX8_came_151 ⟨hq, Or.inr (Or.inr ⟨hb, hv, ?_⟩)⟩
                      unfold cV
                      cases hF : fB (fun L => decide (0 < tot (rF (5 * a + c).toNat v (5 * a + e).toNat w) (rX u n (μ 52 1)) (mV m) L (μ 53))) 4 with
                      | none =>
                        replace f1 := f1.trans (congrArg gOb hF)
                        simp only [gOb] at f1
                        first | exact f1 | (exfalso; omega)
                      | some L =>
                        rw [hF] at f1
                        obtain ⟨g1, g2⟩ := f2 L hF
                        simp only [gOb] at f1
                        simp only
                        have hL4 := (fB_lt hF).1
                        first
                          | (rw [if_pos (by omega)]; exact f1)
                          | (rw [if_neg (by omega), if_pos (by omega)]; exact g1)
                          | (rw [if_neg (by omega), if_neg (by omega), if_neg (by omega)])
                          | (exfalso; omega)
                          | (rw [if_neg (by omega), if_neg (by omega), if_pos (by omega)]
                             cases hC : fst (rF (5 * a + c).toNat v (5 * a + e).toNat w) (rX u n (μ 52 1)) (mV m) L (μ 53) with
                             | none =>
                               exfalso
                               have h0 := tot_fst.mpr hC
                               have hp := of_decide_eq_true (fB_lt hF).2
                               omega
                             | some c0 => exact g2 c0 hC _ (by omega))
                · refine zA_aload_n dX8_came_112 rfl ?_
                  refine zA_getR fX8_26 t_0 rfl dX8_came_113 ?_
                  refine zA_getI fX8_232 t_17 dX8_came_116 ?_
                  refine zA_ri dX8_came_119 ⟨hq, Or.inr (Or.inr ⟨hb, hv, ?_⟩)⟩
                  unfold cV
                  cases hF : fB (fun L => decide (0 < tot (rF (5 * a + c).toNat v (5 * a + e).toNat w) (rX u n (μ 52 1)) (mV m) L (μ 53))) 4 with
                  | none =>
                    replace f1 := f1.trans (congrArg gOb hF)
                    simp only [gOb] at f1
                    first | exact f1 | (exfalso; omega)
                  | some L =>
                    rw [hF] at f1
                    obtain ⟨g1, g2⟩ := f2 L hF
                    simp only [gOb] at f1
                    simp only
                    have hL4 := (fB_lt hF).1
                    first
                      | (rw [if_pos (by omega)]; exact f1)
                      | (rw [if_neg (by omega), if_pos (by omega)]; exact g1)
                      | (rw [if_neg (by omega), if_neg (by omega), if_neg (by omega)])
                      | (exfalso; omega)
                      | (rw [if_neg (by omega), if_neg (by omega), if_pos (by omega)]
                         cases hC : fst (rF (5 * a + c).toNat v (5 * a + e).toNat w) (rX u n (μ 52 1)) (mV m) L (μ 53) with
                         | none =>
                           exfalso
                           have h0 := tot_fst.mpr hC
                           have hp := of_decide_eq_true (fB_lt hF).2
                           omega
                         | some c0 => exact g2 c0 hC _ (by omega))
              · refine zA_aload_n dX8_came_97 rfl ?_
                refine zA_getR fX8_26 t_0 rfl dX8_came_98 ?_
                refine zA_getI fX8_229 t_17 dX8_came_101 ?_
                refine zA_ri dX8_came_104 ⟨hq, Or.inr (Or.inr ⟨hb, hv, ?_⟩)⟩
                unfold cV
                cases hF : fB (fun L => decide (0 < tot (rF (5 * a + c).toNat v (5 * a + e).toNat w) (rX u n (μ 52 1)) (mV m) L (μ 53))) 4 with
                | none =>
                  replace f1 := f1.trans (congrArg gOb hF)
                  simp only [gOb] at f1
                  first | exact f1 | (exfalso; omega)
                | some L =>
                  rw [hF] at f1
                  obtain ⟨g1, g2⟩ := f2 L hF
                  simp only [gOb] at f1
                  simp only
                  have hL4 := (fB_lt hF).1
                  first
                    | (rw [if_pos (by omega)]; exact f1)
                    | (rw [if_neg (by omega), if_pos (by omega)]; exact g1)
                    | (rw [if_neg (by omega), if_neg (by omega), if_neg (by omega)])
                    | (exfalso; omega)
                    | (rw [if_neg (by omega), if_neg (by omega), if_pos (by omega)]
                       cases hC : fst (rF (5 * a + c).toNat v (5 * a + e).toNat w) (rX u n (μ 52 1)) (mV m) L (μ 53) with
                       | none =>
                         exfalso
                         have h0 := tot_fst.mpr hC
                         have hp := of_decide_eq_true (fB_lt hF).2
                         omega
                       | some c0 => exact g2 c0 hC _ (by omega))
          · refine zA_ldc cX8_88 dX8_came_48 rfl ?_
            exact zA_ri dX8_came_50 ⟨qC.refl _, Or.inr (Or.inl ⟨hb, fun q => by first | (have := b3.mpr q.1; simp_all; done) | (have := b4.mpr q.2; simp_all; done), rfl⟩)⟩
      · refine zA_ldc cX8_151 dX8_came_30 rfl ?_
        exact zA_ri dX8_came_32 ⟨qC.refl _, Or.inl ⟨fun q => by first | exact absurd h27 q.2.2 | (have := b1.mpr q.1; simp_all; done) | (have := b2.mpr q.2.1; simp_all; done) | (have := q.2.2; simp_all; done), rfl⟩⟩
