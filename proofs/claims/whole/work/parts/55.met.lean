/-! ===== met ===== -/
def cN (q : Nat → Bool) : Nat → Nat
  | 0 => 0
  | p + 1 => if q p = true then cN q p + 1 else cN q p
def mFv : Option Nat → Int
  | none => -1
  | some p => 10 * ((p / 6 : Nat) : Int) + ((p % 6 : Nat) : Int)
theorem cN_le (q : Nat → Bool) : ∀ p, cN q p ≤ p
  | 0 => Nat.le_refl _
  | p + 1 => by have := cN_le q p; simp only [cN]; split <;> omega
theorem cN_congr {q q' : Nat → Bool} : ∀ {s : Nat}, (∀ j, j < s → q j = q' j) → cN q s = cN q' s
  | 0, _ => rfl
  | s + 1, h => by simp only [cN]; rw [cN_congr (fun j hj => h j (by omega)), h s (by omega)]
theorem cN_skip {q : Nat → Bool} {p : Nat} : ∀ (e : Nat), (∀ i, p ≤ i → i < p + e → q i = false) → cN q (p + e) = cN q p
  | 0, _ => rfl
  | e + 1, h => by
    rw [← Nat.add_assoc]
    simp only [cN]
    rw [h (p + e) (by omega) (by omega), if_neg (by decide), cN_skip e (fun i h1 h2 => h i h1 (by omega))]
theorem fB_s {q : Nat → Bool} {p : Nat} : fB q (p + 1) = (match fB q p with | some j => some j | none => if q p = true then some p else none) := by
  cases h : fB q p with
  | some j =>
    obtain ⟨h1, h2⟩ := fB_lt h
    simp only [fB]
    rw [h]
  | none =>
    cases h2 : q p with
    | true => simp only [if_true]; exact fB_yes h h2 _ (by omega)
    | false => simp only [Bool.false_eq_true, if_false]; exact fB_no h h2
theorem fB_skip {q : Nat → Bool} {p : Nat} : ∀ (e : Nat), (∀ i, p ≤ i → i < p + e → q i = false) → fB q (p + e) = fB q p
  | 0, _ => rfl
  | e + 1, h => by
    rw [← Nat.add_assoc, fB_s, h (p + e) (by omega) (by omega), fB_skip e (fun i h1 h2 => h i h1 (by omega))]
    cases fB q p <;> rfl
theorem cN_fB {q : Nat → Bool} : ∀ p, cN q p = 0 ↔ fB q p = none
  | 0 => by simp [cN, fB]
  | p + 1 => by
    have ih := cN_fB (q := q) p
    rw [fB_s]
    simp only [cN]
    cases h : q p with
    | true =>
      simp only [if_true]
      refine ⟨fun h => by omega, fun h => ?_⟩
      cases h2 : fB q p with
      | some j => rw [h2] at h; cases h
      | none => rw [h2] at h; cases h
    | false =>
      simp only [Bool.false_eq_true, if_false]
      rw [ih]
      cases fB q p <;> simp
/-- would two coats have v and w of colour c behind a touch -/
def mW (u : Int) (n : Nat) (g : Int) (R : Nat → Int) (c : Nat) (v w : Int) (a b : Nat) : Bool := decide ((xchG u n R g a b (a * 5 + c) = v ∧ xchG u n R g a b (b * 5 + c) = w) ∨ (xchG u n R g a b (a * 5 + c) = w ∧ xchG u n R g a b (b * 5 + c) = v))
theorem mW_congr {u : Int} {n : Nat} {g : Int} {R R' : Nat → Int} {c : Nat} {v w : Int} {a b : Nat} (hn : n ≤ 5) (hc : c < 5) (ha : a < 6) (hb : b < 6) (h : ∀ i, i < 30 → R i = R' i) : mW u n g R c v w a b = mW u n g R' c v w a b := by
  unfold mW
  rw [xchG_congr hn ha hb h (a * 5 + c) (by omega), xchG_congr hn ha hb h (b * 5 + c) (by omega)]
theorem mW_congrL {u : Int} {n m : Nat} {g : Int} {R R' : Nat → Int} {c : Nat} {v w : Int} {a b : Nat} (hn : n ≤ 5) (hc : c < n) (ha : a < m) (hb : b < m) (h : ∀ i, lv n m i → R i = R' i) : mW u n g R c v w a b = mW u n g R' c v w a b := by
  unfold mW
  rw [xchG_congrL hn ha hb h (a * 5 + c) (by omega), xchG_congrL hn ha hb h (b * 5 + c) (by omega)]
def mQ (m : Nat) (W : Nat → Nat → Bool) (p : Nat) : Bool := decide (p / 6 < p % 6 ∧ p % 6 < m) && W (p / 6) (p % 6)
theorem mQ_no {m : Nat} {W : Nat → Nat → Bool} {p : Nat} (h : ¬ (p / 6 < p % 6 ∧ p % 6 < m)) : mQ m W p = false := by unfold mQ; rw [decide_eq_false h]; rfl
theorem mQ_yes {m : Nat} {W : Nat → Nat → Bool} {p : Nat} (h : (p / 6 < p % 6 ∧ p % 6 < m)) : mQ m W p = W (p / 6) (p % 6) := by unfold mQ; rw [decide_eq_true h]; rfl
theorem mQ_congr {m : Nat} {W W' : Nat → Nat → Bool} (hm : m ≤ 6) (h : ∀ a b, a < m → b < m → W a b = W' a b) (p : Nat) : mQ m W p = mQ m W' p := by
  by_cases hp : p / 6 < p % 6 ∧ p % 6 < m
  · rw [mQ_yes hp, mQ_yes hp, h _ _ (by omega) (by omega)]
  · rw [mQ_no hp, mQ_no hp]
theorem mQ_ab {m : Nat} {W : Nat → Nat → Bool} {a b : Nat} (h : a < b) (hb : b < m) (hm : m ≤ 6) : mQ m W (6 * a + b) = W a b := by
  have h1 : (6 * a + b) / 6 = a := by omega
  have h2 : (6 * a + b) % 6 = b := by omega
  rw [mQ_yes (by omega), h1, h2]
/-- one more pair -/
theorem mSt {q : Nat → Bool} {p : Nat} {c f : Int} (h1 : c = cN q p) (h2 : f = mFv (fB q p)) : (q p = true → c + 1 = cN q (p + 1) ∧ (if c = 0 then 10 * ((p / 6 : Nat) : Int) + ((p % 6 : Nat) : Int) else f) = mFv (fB q (p + 1))) ∧ (q p = false → c = cN q (p + 1) ∧ f = mFv (fB q (p + 1))) := by
  subst h1 h2
  refine ⟨fun h => ?_, fun h => ?_⟩
  · rw [fB_s]
    simp only [cN, h, if_true]
    refine ⟨by omega, ?_⟩
    have := cN_fB (q := q) p
    by_cases hc : cN q p = 0
    · rw [if_pos (by omega), this.mp hc]
      rfl
    · rw [if_neg (by omega)]
      cases hf : fB q p with
      | none => exact absurd (this.mpr hf) hc
      | some j => rfl
  · rw [fB_s]
    simp only [cN, h, Bool.false_eq_true, if_false]
    refine ⟨trivial, ?_⟩
    cases fB q p <;> rfl
theorem c_X8_wouldHave (d : Nat) (ν : zM) (n m t a b c : Nat) (u v w : Int) (hH : zHs ν n m t u) (hok : rOk n m (ν 53)) (ha : a < m) (hb : b < m) (hab : a ≠ b) (hc : c < n) : zMet (d + 4) 0 yX8_wouldHave cX8_wouldHave 8 (some .boolean) TF ν [zR 0, zI (a : Int), zI (b : Int), zI (c : Int), zI v, zI w] (zPb (fun r ξ => (r = true ↔ mW u n (ν 52 1) (ν 53) c v w a b = true) ∧ ∀ k, k ≠ 104 → k ≠ 5 → k ≠ 6 → k ≠ 7 → ξ k = ν k)) := by
  have hH0 := hH
  obtain ⟨hn, hu, hm, ht, hn5, hm6, ht10, hu1, hdk⟩ := hH0
  refine zMb_of RX8 rfl (by decide) rfl (ls := [some (zR 0), some (zI (a : Int)), some (zI (b : Int)), some (zI (c : Int)), some (zI v), some (zI w), none, none]) rfl (fun hok0 => ?_)
  refine zA_aload_n dX8_wouldHave_0 rfl ?_
  refine zA_getR fX8_47 t_0 rfl dX8_wouldHave_1 ?_
  refine zA_getR fX8_144 t_52 rfl dX8_wouldHave_4 ?_
  refine zA_aload_n dX8_wouldHave_7 rfl ?_
  refine zA_getR fX8_78 t_0 rfl dX8_wouldHave_8 ?_
  refine zA_cSv (st := []) kX8_172 (c_X8_copyPartsR (d + 2) 53 104 ν t_53 t_104) rfl rfl rfl dX8_wouldHave_11 (zfit0 (by omega) rfl) (fun μ1 q1 => ?_)
  obtain ⟨q1a, q1b⟩ := q1
  refine zA_aload_n dX8_wouldHave_14 rfl ?_
  refine zA_getR fX8_12 t_0 rfl dX8_wouldHave_15 ?_
  refine zA_aload_n dX8_wouldHave_18 rfl ?_
  refine zA_getR fX8_78 t_0 rfl dX8_wouldHave_19 ?_
  refine zA_aload_n dX8_wouldHave_22 rfl ?_
  refine zA_getR fX8_47 t_0 rfl dX8_wouldHave_23 ?_
  refine zA_getE (w := ν 52 1) fX8_126 t_52 dX8_wouldHave_26 (by rw [q1b 52 (by decide)]) ?_
  refine zA_iload_n dX8_wouldHave_29 rfl ?_
  refine zA_iload_n dX8_wouldHave_30 rfl ?_
  refine zA_cVv (st := []) kX8_293 t_1 rfl rfl (c_X2_exchange d μ1 104 n m t u (ν 52 1) a b t_104 (hH.keep (q1b 1 (by decide)) (q1b 3 (by decide)) (q1b 4 (by decide))) (by omega) (by omega) (by omega) (rOk_congr hn5 hm6 (fun i hi => (q1a i hi).symm) hok)) rfl rfl rfl dX8_wouldHave_31 (zfit0 (by omega) rfl) (fun μ2 q2 => ?_)
  obtain ⟨q2a, q2b⟩ := q2
  have X := fun i hi => (by rw [q2a]; exact xchG_congr (u := u) (g := ν 52 1) (a := a) (b := b) hn5 (by omega) (by omega) q1a i hi : μ2 104 i = xchG u n (ν 53) (ν 52 1) a b i)
  have Fr : ∀ k, k ≠ 104 → k ≠ 5 → k ≠ 6 → k ≠ 7 → μ2 k = ν k := fun k k1 k2 k3 k4 => by rw [q2b k k1 k2 k3 k4, q1b k k1]
  refine zA_aload_n dX8_wouldHave_34 rfl ?_
  refine zA_getR fX8_78 t_0 rfl dX8_wouldHave_35 ?_
  refine zA_iload_n dX8_wouldHave_38 rfl ?_
  refine zA_iload_n dX8_wouldHave_39 rfl ?_
  refine zA_cSi (st := [zR 104]) kX8_147 (c_X8_cell (d + 2) (a : Int) (c : Int) μ2 (by omega) (by omega)) rfl rfl rfl dX8_wouldHave_40 (zfit0 (by omega) rfl) (fun v3 μ3 q3 => ?_)
  obtain ⟨rfl, rfl⟩ := q3
  refine zA_ialE (w := xchG u n (ν 53) (ν 52 1) a b (a * 5 + c)) (j := a * 5 + c) t_104 (by omega) (by omega) dX8_wouldHave_43 rfl (by rw [← X _ (by omega)]) ?_
  refine zA_istore (ls' := [some (zR 0), some (zI (a : Int)), some (zI (b : Int)), some (zI (c : Int)), some (zI v), some (zI w), some (zI (xchG u n (ν 53) (ν 52 1) a b (a * 5 + c))), none]) dX8_wouldHave_44 rfl rfl ?_
  refine zA_aload_n dX8_wouldHave_46 rfl ?_
  refine zA_getR fX8_78 t_0 rfl dX8_wouldHave_47 ?_
  refine zA_iload_n dX8_wouldHave_50 rfl ?_
  refine zA_iload_n dX8_wouldHave_51 rfl ?_
  refine zA_cSi (st := [zR 104]) kX8_147 (c_X8_cell (d + 2) (b : Int) (c : Int) μ2 (by omega) (by omega)) rfl rfl rfl dX8_wouldHave_52 (zfit0 (by omega) rfl) (fun v4 μ4 q4 => ?_)
  obtain ⟨rfl, rfl⟩ := q4
  refine zA_ialE (w := xchG u n (ν 53) (ν 52 1) a b (b * 5 + c)) (j := b * 5 + c) t_104 (by omega) (by omega) dX8_wouldHave_55 rfl (by rw [← X _ (by omega)]) ?_
  refine zA_istore (ls' := [some (zR 0), some (zI (a : Int)), some (zI (b : Int)), some (zI (c : Int)), some (zI v), some (zI w), some (zI (xchG u n (ν 53) (ν 52 1) a b (a * 5 + c))), some (zI (xchG u n (ν 53) (ν 52 1) a b (b * 5 + c)))]) dX8_wouldHave_56 rfl rfl ?_
  refine zA_iload dX8_wouldHave_58 rfl ?_
  refine zA_iload dX8_wouldHave_60 rfl ?_
  refine zA_icmp_ne (tgt := 72) dX8_wouldHave_62 rfl (fun h62 => ?_) (fun h62 => ?_)
  · refine zA_iload dX8_wouldHave_72 rfl ?_
    refine zA_iload dX8_wouldHave_74 rfl ?_
    refine zA_icmp_ne (tgt := 90) dX8_wouldHave_76 rfl (fun h76 => ?_) (fun h76 => ?_)
    · refine zA_iconst dX8_wouldHave_90 rfl ?_
      exact zA_rb (b := false) dX8_wouldHave_91 rfl ⟨by unfold mW; rw [decide_eq_true_eq]; simp only [Bool.false_eq_true, false_iff]; omega, Fr⟩
    · refine zA_iload dX8_wouldHave_79 rfl ?_
      refine zA_iload dX8_wouldHave_81 rfl ?_
      refine zA_icmp_ne (tgt := 90) dX8_wouldHave_83 rfl (fun h83 => ?_) (fun h83 => ?_)
      · refine zA_iconst dX8_wouldHave_90 rfl ?_
        exact zA_rb (b := false) dX8_wouldHave_91 rfl ⟨by unfold mW; rw [decide_eq_true_eq]; simp only [Bool.false_eq_true, false_iff]; omega, Fr⟩
      · refine zA_iconst dX8_wouldHave_86 rfl ?_
        refine zA_goto (tgt := 91) dX8_wouldHave_87 rfl ?_
        exact zA_rb (b := true) dX8_wouldHave_91 rfl ⟨by unfold mW; rw [decide_eq_true_eq]; simp only [true_iff]; omega, Fr⟩
  · refine zA_iload dX8_wouldHave_65 rfl ?_
    refine zA_iload dX8_wouldHave_67 rfl ?_
    refine zA_icmp_eq (tgt := 86) dX8_wouldHave_69 rfl (fun h69 => ?_) (fun h69 => ?_)
    · refine zA_iconst dX8_wouldHave_86 rfl ?_
      refine zA_goto (tgt := 91) dX8_wouldHave_87 rfl ?_
      exact zA_rb (b := true) dX8_wouldHave_91 rfl ⟨by unfold mW; rw [decide_eq_true_eq]; simp only [true_iff]; omega, Fr⟩
    · refine zA_iload dX8_wouldHave_72 rfl ?_
      refine zA_iload dX8_wouldHave_74 rfl ?_
      refine zA_icmp_ne (tgt := 90) dX8_wouldHave_76 rfl (fun h76 => ?_) (fun h76 => ?_)
      · refine zA_iconst dX8_wouldHave_90 rfl ?_
        exact zA_rb (b := false) dX8_wouldHave_91 rfl ⟨by unfold mW; rw [decide_eq_true_eq]; simp only [Bool.false_eq_true, false_iff]; omega, Fr⟩
      · refine zA_iload dX8_wouldHave_79 rfl ?_
        refine zA_iload dX8_wouldHave_81 rfl ?_
        refine zA_icmp_ne (tgt := 90) dX8_wouldHave_83 rfl (fun h83 => ?_) (fun h83 => ?_)
        · refine zA_iconst dX8_wouldHave_90 rfl ?_
          exact zA_rb (b := false) dX8_wouldHave_91 rfl ⟨by unfold mW; rw [decide_eq_true_eq]; simp only [Bool.false_eq_true, false_iff]; omega, Fr⟩
        · refine zA_iconst dX8_wouldHave_86 rfl ?_
          refine zA_goto (tgt := 91) dX8_wouldHave_87 rfl ?_
          exact zA_rb (b := true) dX8_wouldHave_91 rfl ⟨by unfold mW; rw [decide_eq_true_eq]; simp only [true_iff]; omega, Fr⟩
theorem l_X8_metB (d : Nat) (μ : zM) (n m t c : Nat) (u v w x : Int) (hH : zHs μ n m t u) (hok : rOk n m (μ 53)) (hc : c < n) (a : Nat) (ha : a < m) (P : zP) : ∀ (t0 b : Nat) (cc f : Int), m - b = t0 → a < b → b ≤ m → cc = cN (mQ m (mW u n (μ 52 1) (μ 53) c v w)) (6 * a + b) → f = mFv (fB (mQ m (mW u n (μ 52 1) (μ 53) c v w)) (6 * a + b)) → ∀ ν : zM, (∀ k, k ≠ 104 → k ≠ 5 → k ≠ 6 → k ≠ 7 → ν k = μ k) → (∀ cc f : Int, cc = cN (mQ m (mW u n (μ 52 1) (μ 53) c v w)) (6 * (a + 1)) → f = mFv (fB (mQ m (mW u n (μ 52 1) (μ 53) c v w)) (6 * (a + 1))) → ∀ ν : zM, (∀ k, k ≠ 104 → k ≠ 5 → k ≠ 6 → k ≠ 7 → ν k = μ k) → zA RX8 cX8_met 9 (zRm (d + 5) 0) zN0 TF 0 ν 124 [some (zR 0), some (zI (c : Int)), some (zI v), some (zI w), some (zI x), some (zI cc), some (zI f), some (zI (a : Int)), none] [] P) → zA RX8 cX8_met 9 (zRm (d + 5) 0) zN0 TF 0 ν 69 [some (zR 0), some (zI (c : Int)), some (zI v), some (zI w), some (zI x), some (zI cc), some (zI f), some (zI (a : Int)), some (zI (b : Int))] [] P := by
  have hH0 := hH
  obtain ⟨hn, hu, hm, ht, hn5, hm6, ht10, hu1, hdk⟩ := hH0
  intro t0
  induction t0 using Nat.strongRecOn with
  | ind t0 ihb0 =>
    intro b cc f hk hab hbm h1 h2 ν hfr iha0
    have ihb := fun t1 ht1 b cc f h1 h2 h3 h4 h5 ν h6 => ihb0 t1 ht1 b cc f h1 h2 h3 h4 h5 ν h6 iha0
    have iha := fun {cc f : Int} h1 h2 ν h3 => iha0 cc f h1 h2 ν h3
    refine zA_iload dX8_met_69 rfl ?_
    refine zA_aload_n dX8_met_71 rfl ?_
    refine zA_getR fX8_12 t_0 rfl dX8_met_72 ?_
    refine zA_getE (w := (m : Int)) fX8_111 t_1 dX8_met_75 (by rw [hfr 1 (by decide) (by decide) (by decide) (by decide)]; exact hm) ?_
    refine zA_icmp_ge (tgt := 124) dX8_met_78 rfl (fun h78 => ?_) (fun h78 => ?_)
    · refine zA_dr (ls' := [some (zR 0), some (zI (c : Int)), some (zI v), some (zI w), some (zI x), some (zI cc), some (zI f), some (zI (a : Int)), none]) 8 rfl ?_
      have hk : ∀ i, 6 * a + b ≤ i → i < 6 * a + b + (6 - b) → (mQ m (mW u n (μ 52 1) (μ 53) c v w)) i = false := fun i h3 h4 => mQ_no (by omega)
      have e1 := cN_skip _ hk
      have e2 := fB_skip _ hk
      rw [show 6 * a + b + (6 - b) = 6 * (a + 1) by omega] at e1 e2
      exact iha (by rw [e1]; exact h1) (by rw [e2]; exact h2) ν hfr
    · have hle := cN_le (mQ m (mW u n (μ 52 1) (μ 53) c v w)) (6 * a + b)
      refine zA_aload_n dX8_met_81 rfl ?_
      refine zA_iload dX8_met_82 rfl ?_
      refine zA_iload dX8_met_84 rfl ?_
      refine zA_iload_n dX8_met_86 rfl ?_
      refine zA_iload_n dX8_met_87 rfl ?_
      refine zA_iload_n dX8_met_88 rfl ?_
      refine zA_cVb (st := []) kX8_238 t_0 rfl rfl (c_X8_wouldHave d ν n m t a b c u v w (hH.keep (hfr 1 (by decide) (by decide) (by decide) (by decide)) (hfr 3 (by decide) (by decide) (by decide) (by decide)) (hfr 4 (by decide) (by decide) (by decide) (by decide))) (by rw [hfr 53 (by decide) (by decide) (by decide) (by decide)]; exact hok) (by omega) (by omega) (by omega) hc) rfl rfl rfl dX8_met_89 (zfit0 (by omega) rfl) (fun v1 μ1 q1 => ?_)
      obtain ⟨bw, fw⟩ := q1
      rw [hfr 52 (by decide) (by decide) (by decide) (by decide), hfr 53 (by decide) (by decide) (by decide) (by decide)] at bw
      have fr2 : ∀ k, k ≠ 104 → k ≠ 5 → k ≠ 6 → k ≠ 7 → μ1 k = μ k := fun k k1 k2 k3 k4 => by rw [fw k k1 k2 k3 k4, hfr k k1 k2 k3 k4]
      refine zA_ifb_eq (tgt := 118) dX8_met_92 rfl (fun h92 => ?_) (fun h92 => ?_)
      · refine zA_iincB (ls' := [some (zR 0), some (zI (c : Int)), some (zI v), some (zI w), some (zI x), some (zI cc), some (zI f), some (zI (a : Int)), some (zI ((b : Int) + 1))]) dX8_met_118 rfl rfl ⟨by omega, by omega⟩ rfl ?_
        refine zA_goto (tgt := 69) dX8_met_121 rfl ?_
        have hq := mQ_ab (W := mW u n (μ 52 1) (μ 53) c v w) (show a < b by omega) (show b < m by omega) hm6
        have hs := mSt (q := (mQ m (mW u n (μ 52 1) (μ 53) c v w))) (p := 6 * a + b) h1 h2
        have hq2 : (mQ m (mW u n (μ 52 1) (μ 53) c v w)) (6 * a + b) = false := by rw [hq]; cases hx : mW u n (μ 52 1) (μ 53) c v w a b with | false => rfl | true => exfalso; have := bw.mpr hx; simp_all
        exact ihb _ (by omega) (b + 1) cc f rfl (by omega) (by omega) (hs.2 hq2).1 (hs.2 hq2).2 μ1 fr2
      · refine zA_iload dX8_met_95 rfl ?_
        refine zA_if_ne (tgt := 111) dX8_met_97 rfl (fun h97 => ?_) (fun h97 => ?_)
        · refine zA_iload dX8_met_111 rfl ?_
          refine zA_istore (ls' := [some (zR 0), some (zI (c : Int)), some (zI v), some (zI w), some (zI x), some (zI cc), some (zI f), some (zI (a : Int)), some (zI (b : Int))]) dX8_met_113 rfl rfl ?_
          refine zA_iincB (ls' := [some (zR 0), some (zI (c : Int)), some (zI v), some (zI w), some (zI x), some (zI (cc + 1)), some (zI f), some (zI (a : Int)), some (zI (b : Int))]) dX8_met_115 rfl rfl ⟨by omega, by omega⟩ rfl ?_
          refine zA_iincB (ls' := [some (zR 0), some (zI (c : Int)), some (zI v), some (zI w), some (zI x), some (zI (cc + 1)), some (zI f), some (zI (a : Int)), some (zI ((b : Int) + 1))]) dX8_met_118 rfl rfl ⟨by omega, by omega⟩ rfl ?_
          refine zA_goto (tgt := 69) dX8_met_121 rfl ?_
          have hq := mQ_ab (W := mW u n (μ 52 1) (μ 53) c v w) (show a < b by omega) (show b < m by omega) hm6
          have hs := mSt (q := (mQ m (mW u n (μ 52 1) (μ 53) c v w))) (p := 6 * a + b) h1 h2
          have hq2 : (mQ m (mW u n (μ 52 1) (μ 53) c v w)) (6 * a + b) = true := by rw [hq]; exact bw.mp (by simpa using h92)
          have h10 : (6 * a + b) / 6 = a := by omega
          have h11 : (6 * a + b) % 6 = b := by omega
          obtain ⟨g1, g2⟩ := hs.1 hq2
          rw [h10, h11] at g2
          rw [if_neg h97] at g2
          exact ihb _ (by omega) (b + 1) _ _ rfl (by omega) (by omega) g1 g2 μ1 fr2
        · refine zA_bipush dX8_met_100 rfl ?_
          refine zA_iload dX8_met_102 rfl ?_
          refine zA_imulB dX8_met_104 ⟨by omega, by omega⟩ ?_
          refine zA_iload dX8_met_105 rfl ?_
          refine zA_iaddB dX8_met_107 ⟨by omega, by omega⟩ ?_
          refine zA_goto (tgt := 113) dX8_met_108 rfl ?_
          refine zA_istore (ls' := [some (zR 0), some (zI (c : Int)), some (zI v), some (zI w), some (zI x), some (zI cc), some (zI ((10 * (a : Int)) + (b : Int))), some (zI (a : Int)), some (zI (b : Int))]) dX8_met_113 rfl rfl ?_
          refine zA_iincB (ls' := [some (zR 0), some (zI (c : Int)), some (zI v), some (zI w), some (zI x), some (zI (cc + 1)), some (zI ((10 * (a : Int)) + (b : Int))), some (zI (a : Int)), some (zI (b : Int))]) dX8_met_115 rfl rfl ⟨by omega, by omega⟩ rfl ?_
          refine zA_iincB (ls' := [some (zR 0), some (zI (c : Int)), some (zI v), some (zI w), some (zI x), some (zI (cc + 1)), some (zI ((10 * (a : Int)) + (b : Int))), some (zI (a : Int)), some (zI ((b : Int) + 1))]) dX8_met_118 rfl rfl ⟨by omega, by omega⟩ rfl ?_
          refine zA_goto (tgt := 69) dX8_met_121 rfl ?_
          have hq := mQ_ab (W := mW u n (μ 52 1) (μ 53) c v w) (show a < b by omega) (show b < m by omega) hm6
          have hs := mSt (q := (mQ m (mW u n (μ 52 1) (μ 53) c v w))) (p := 6 * a + b) h1 h2
          have hq2 : (mQ m (mW u n (μ 52 1) (μ 53) c v w)) (6 * a + b) = true := by rw [hq]; exact bw.mp (by simpa using h92)
          have h10 : (6 * a + b) / 6 = a := by omega
          have h11 : (6 * a + b) % 6 = b := by omega
          obtain ⟨g1, g2⟩ := hs.1 hq2
          rw [h10, h11] at g2
          rw [if_pos h97] at g2
          exact ihb _ (by omega) (b + 1) _ _ rfl (by omega) (by omega) g1 g2 μ1 fr2
theorem l_X8_met (d : Nat) (μ : zM) (n m t c : Nat) (u v w x : Int) (hH : zHs μ n m t u) (hok : rOk n m (μ 53)) (hc : c < n) : ∀ (t0 a : Nat) (cc f : Int), m - a = t0 → a ≤ m → cc = cN (mQ m (mW u n (μ 52 1) (μ 53) c v w)) (6 * a) → f = mFv (fB (mQ m (mW u n (μ 52 1) (μ 53) c v w)) (6 * a)) → ∀ ν : zM, (∀ k, k ≠ 104 → k ≠ 5 → k ≠ 6 → k ≠ 7 → ν k = μ k) → zA RX8 cX8_met 9 (zRm (d + 5) 0) zN0 TF 0 ν 51 [some (zR 0), some (zI (c : Int)), some (zI v), some (zI w), some (zI x), some (zI cc), some (zI f), some (zI (a : Int)), none] [] (zPi (fun r ξ => r = (if x = 0 then (cN (mQ m (mW u n (μ 52 1) (μ 53) c v w)) 36 : Int) else mFv (fB (mQ m (mW u n (μ 52 1) (μ 53) c v w)) 36)) ∧ (∀ k, k ≠ 104 → k ≠ 5 → k ≠ 6 → k ≠ 7 → ξ k = μ k))) := by
  have hH0 := hH
  obtain ⟨hn, hu, hm, ht, hn5, hm6, ht10, hu1, hdk⟩ := hH0
  intro t0
  induction t0 using Nat.strongRecOn with
  | ind t0 ih =>
    intro a cc f hk ham h1 h2 ν hfr
    refine zA_iload dX8_met_51 rfl ?_
    refine zA_aload_n dX8_met_53 rfl ?_
    refine zA_getR fX8_12 t_0 rfl dX8_met_54 ?_
    refine zA_getE (w := (m : Int)) fX8_111 t_1 dX8_met_57 (by rw [hfr 1 (by decide) (by decide) (by decide) (by decide)]; exact hm) ?_
    refine zA_icmp_ge (tgt := 130) dX8_met_60 rfl (fun h60 => ?_) (fun h60 => ?_)
    · have hk : ∀ i, 6 * a ≤ i → i < 6 * a + (36 - 6 * a) → (mQ m (mW u n (μ 52 1) (μ 53) c v w)) i = false := fun i h3 h4 => mQ_no (by omega)
      have e1 := cN_skip _ hk
      have e2 := fB_skip _ hk
      rw [show 6 * a + (36 - 6 * a) = 36 by omega] at e1 e2
      refine zA_iload dX8_met_130 rfl ?_
      refine zA_if_ne (tgt := 140) dX8_met_132 rfl (fun h132 => ?_) (fun h132 => ?_)
      · refine zA_iload dX8_met_140 rfl ?_
        exact zA_ri dX8_met_142 ⟨by rw [if_neg (by omega), e2]; exact h2, hfr⟩
      · refine zA_iload dX8_met_135 rfl ?_
        refine zA_goto (tgt := 142) dX8_met_137 rfl ?_
        exact zA_ri dX8_met_142 ⟨by rw [if_pos (by omega), e1]; exact h1, hfr⟩
    · refine zA_iload dX8_met_63 rfl ?_
      refine zA_iconst dX8_met_65 rfl ?_
      refine zA_iaddB dX8_met_66 ⟨by omega, by omega⟩ ?_
      refine zA_istore (ls' := [some (zR 0), some (zI (c : Int)), some (zI v), some (zI w), some (zI x), some (zI cc), some (zI f), some (zI (a : Int)), some (zI ((a : Int) + 1))]) dX8_met_67 rfl rfl ?_
      have hk : ∀ i, 6 * a ≤ i → i < 6 * a + (a + 1) → (mQ m (mW u n (μ 52 1) (μ 53) c v w)) i = false := fun i h3 h4 => mQ_no (by omega)
      have e1 := cN_skip _ hk
      have e2 := fB_skip _ hk
      refine l_X8_metB d μ n m t c u v w x hH hok hc a (by omega) _ _ (a + 1) cc f rfl (by omega) (by omega) (by rw [e1]; exact h1) (by rw [e2]; exact h2) ν hfr (fun cc f h1 h2 ν hfr => ?_)
      refine zA_iincB (ls' := [some (zR 0), some (zI (c : Int)), some (zI v), some (zI w), some (zI x), some (zI cc), some (zI f), some (zI ((a : Int) + 1)), none]) dX8_met_124 rfl rfl ⟨by omega, by omega⟩ rfl ?_
      refine zA_goto (tgt := 51) dX8_met_127 rfl ?_
      exact ih _ (by omega) (a + 1) cc f rfl (by omega) h1 h2 ν hfr
theorem c_X8_met (d : Nat) (μ : zM) (n m t : Nat) (u c v w x : Int) (hH : zHs μ n m t u) (hok : rOk n m (μ 53)) : zMet (d + 5) 0 yX8_met cX8_met 9 (some .int) TF μ [zR 0, zI c, zI v, zI w, zI x] (zPi (fun r ξ => qC μ ξ ∧ ((¬ (0 ≤ c ∧ c < n) ∧ r = -1000000001) ∨ ((0 ≤ c ∧ c < n) ∧ ¬ ((0 ≤ v ∧ v ≤ 60) ∧ (0 ≤ w ∧ w ≤ 60) ∧ (0 ≤ x ∧ x ≤ 1)) ∧ r = -1000000002) ∨ ((0 ≤ c ∧ c < n) ∧ ((0 ≤ v ∧ v ≤ 60) ∧ (0 ≤ w ∧ w ≤ 60) ∧ (0 ≤ x ∧ x ≤ 1)) ∧ r = (if x = 0 then (cN (mQ m (mW u n (μ 52 1) (μ 53) c.toNat v w)) 36 : Int) else mFv (fB (mQ m (mW u n (μ 52 1) (μ 53) c.toNat v w)) 36)))))) := by
  have hH0 := hH
  obtain ⟨hn, hu, hm, ht, hn5, hm6, ht10, hu1, hdk⟩ := hH0
  refine zMi_of RX8 rfl (by decide) rfl (ls := [some (zR 0), some (zI c), some (zI v), some (zI w), some (zI x), none, none, none, none]) rfl (fun hok0 => ?_)
  refine zA_aload_n dX8_met_0 rfl ?_
  refine zA_getR fX8_12 t_0 rfl dX8_met_1 ?_
  refine zA_iload_n dX8_met_4 rfl ?_
  refine zA_cVb (st := []) kX8_215 t_1 rfl rfl (c_X2_hasColour (d + 3) c μ) rfl rfl rfl dX8_met_5 (zfit0 (by omega) rfl) (fun v1 μ1 q1 => ?_)
  obtain ⟨b1, rfl⟩ := q1
  rw [hn] at b1
  refine zA_ifb_ne (tgt := 14) dX8_met_8 rfl (fun h8 => ?_) (fun h8 => ?_)
  · have hb := b1.mp h8
    refine zA_iload_n dX8_met_14 rfl ?_
    refine zA_cSb (st := []) kX8_218 (c_X8_isAmount (d + 3) v μ) rfl rfl rfl dX8_met_15 (zfit0 (by omega) rfl) (fun v2 μ2 q2 => ?_)
    obtain ⟨b2, rfl⟩ := q2
    refine zA_ifb_eq (tgt := 39) dX8_met_18 rfl (fun h18 => ?_) (fun h18 => ?_)
    · refine zA_ldc cX8_88 dX8_met_39 rfl ?_
      exact zA_ri dX8_met_41 ⟨qC.refl _, Or.inr (Or.inl ⟨hb, fun q => by first | omega | (have := b2.mpr q.1; simp_all; done) | (have := b3.mpr q.2.1; simp_all; done), rfl⟩)⟩
    · refine zA_iload_n dX8_met_21 rfl ?_
      refine zA_cSb (st := []) kX8_218 (c_X8_isAmount (d + 3) w μ) rfl rfl rfl dX8_met_22 (zfit0 (by omega) rfl) (fun v3 μ3 q3 => ?_)
      obtain ⟨b3, rfl⟩ := q3
      refine zA_ifb_eq (tgt := 39) dX8_met_25 rfl (fun h25 => ?_) (fun h25 => ?_)
      · refine zA_ldc cX8_88 dX8_met_39 rfl ?_
        exact zA_ri dX8_met_41 ⟨qC.refl _, Or.inr (Or.inl ⟨hb, fun q => by first | omega | (have := b2.mpr q.1; simp_all; done) | (have := b3.mpr q.2.1; simp_all; done), rfl⟩)⟩
      · refine zA_iload dX8_met_28 rfl ?_
        refine zA_if_lt (tgt := 39) dX8_met_30 rfl (fun h30 => ?_) (fun h30 => ?_)
        · refine zA_ldc cX8_88 dX8_met_39 rfl ?_
          exact zA_ri dX8_met_41 ⟨qC.refl _, Or.inr (Or.inl ⟨hb, fun q => by first | omega | (have := b2.mpr q.1; simp_all; done) | (have := b3.mpr q.2.1; simp_all; done), rfl⟩)⟩
        · refine zA_iload dX8_met_33 rfl ?_
          refine zA_iconst dX8_met_35 rfl ?_
          refine zA_icmp_le (tgt := 42) dX8_met_36 rfl (fun h36 => ?_) (fun h36 => ?_)
          · have hv : ((0 ≤ v ∧ v ≤ 60) ∧ (0 ≤ w ∧ w ≤ 60) ∧ (0 ≤ x ∧ x ≤ 1)) := ⟨b2.mp (by simpa using h18), b3.mp (by simpa using h25), by omega⟩
            refine zA_iconst dX8_met_42 rfl ?_
            refine zA_istore (ls' := [some (zR 0), some (zI c), some (zI v), some (zI w), some (zI x), some (zI 0), none, none, none]) dX8_met_43 rfl rfl ?_
            refine zA_iconst dX8_met_45 rfl ?_
            refine zA_istore (ls' := [some (zR 0), some (zI c), some (zI v), some (zI w), some (zI x), some (zI 0), some (zI (-1)), none, none]) dX8_met_46 rfl rfl ?_
            refine zA_iconst dX8_met_48 rfl ?_
            refine zA_istore (ls' := [some (zR 0), some (zI c), some (zI v), some (zI w), some (zI x), some (zI 0), some (zI (-1)), some (zI 0), none]) dX8_met_49 rfl rfl ?_
            obtain ⟨c, rfl⟩ := Int.eq_ofNat_of_zero_le hb.1
            exact zAi_mono (l_X8_met d μ n m t c u v w x hH hok (by omega) _ 0 0 (-1) rfl (by omega) rfl rfl μ (fun _ _ _ _ _ => rfl)) (fun r ξ h => ⟨fun k hk => h.2 k (fun e => hk (by unfold cScr; omega)) (fun e => hk (by unfold cScr; omega)) (fun e => hk (by unfold cScr; omega)) (fun e => hk (by unfold cScr; omega)), Or.inr (Or.inr ⟨hb, hv, h.1⟩)⟩)
          · refine zA_ldc cX8_88 dX8_met_39 rfl ?_
            exact zA_ri dX8_met_41 ⟨qC.refl _, Or.inr (Or.inl ⟨hb, fun q => by first | omega | (have := b2.mpr q.1; simp_all; done) | (have := b3.mpr q.2.1; simp_all; done), rfl⟩)⟩
  · refine zA_ldc cX8_151 dX8_met_11 rfl ?_
    exact zA_ri dX8_met_13 ⟨qC.refl _, Or.inl ⟨fun q => by have := b1.mpr q; simp_all, rfl⟩⟩
theorem l_X9_met (d : Nat) (μ : zM) (n m t c : Nat) (u v w x : Int) (hH : zMs μ n m t u) (hok : rOk n m (μ 114)) (hc : c < n) : ∀ (t0 p : Nat) (cc f : Int), 36 - p = t0 → p ≤ 36 → cc = cN (mQ m (mW u n (μ 114 30) (μ 114) c v w)) p → f = mFv (fB (mQ m (mW u n (μ 114 30) (μ 114) c v w)) p) → ∀ ν : zM, (∀ k, k ≠ 122 → k ≠ 119 → ν k = μ k) → zA RX9 cX9_met 13 (zRm (d + 4) 0) zN0 TF 0 ν 48 [some (zR 110), some (zI (c : Int)), some (zI v), some (zI w), some (zI x), some (zI cc), some (zI f), some (zI (p : Int)), none, none, none, none, none] [] (zPi (fun r ξ => r = (if x = 0 then (cN (mQ m (mW u n (μ 114 30) (μ 114) c v w)) 36 : Int) else mFv (fB (mQ m (mW u n (μ 114 30) (μ 114) c v w)) 36)) ∧ (∀ k, k ≠ 122 → k ≠ 119 → ξ k = μ k))) := by
  have hH0 := hH
  obtain ⟨hn, hu, hm, ht, hn5, hm6, ht10, hu1, hdk⟩ := hH0
  intro t0
  induction t0 using Nat.strongRecOn with
  | ind t0 ih =>
    intro p cc f hk hp36 h1 h2 ν hfr
    refine zA_iload dX9_met_48 rfl ?_
    refine zA_bipush dX9_met_50 rfl ?_
    refine zA_icmp_ge (tgt := 204) dX9_met_52 rfl (fun h52 => ?_) (fun h52 => ?_)
    · refine zA_iload dX9_met_204 rfl ?_
      refine zA_if_ne (tgt := 214) dX9_met_206 rfl (fun h206 => ?_) (fun h206 => ?_)
      · refine zA_iload dX9_met_214 rfl ?_
        exact zA_ri dX9_met_216 ⟨by rw [if_neg (by omega), show (36 : Nat) = p by omega]; exact h2, hfr⟩
      · refine zA_iload dX9_met_209 rfl ?_
        refine zA_goto (tgt := 216) dX9_met_211 rfl ?_
        exact zA_ri dX9_met_216 ⟨by rw [if_pos (by omega), show (36 : Nat) = p by omega]; exact h1, hfr⟩
    · have hle := cN_le (mQ m (mW u n (μ 114 30) (μ 114) c v w)) p
      refine zA_iload dX9_met_55 rfl ?_
      refine zA_bipush dX9_met_57 rfl ?_
      refine zA_idivE (w := ((p / 6 : Nat) : Int)) dX9_met_59 (by omega) (by omega) (by omega) ?_
      refine zA_istore (ls' := [some (zR 110), some (zI (c : Int)), some (zI v), some (zI w), some (zI x), some (zI cc), some (zI f), some (zI (p : Int)), some (zI (((p / 6 : Nat) : Int))), none, none, none, none]) dX9_met_60 rfl rfl ?_
      refine zA_iload dX9_met_62 rfl ?_
      refine zA_bipush dX9_met_64 rfl ?_
      refine zA_iremE (w := ((p % 6 : Nat) : Int)) dX9_met_66 (by omega) (by omega) (by omega) ?_
      refine zA_istore (ls' := [some (zR 110), some (zI (c : Int)), some (zI v), some (zI w), some (zI x), some (zI cc), some (zI f), some (zI (p : Int)), some (zI (((p / 6 : Nat) : Int))), some (zI (((p % 6 : Nat) : Int))), none, none, none]) dX9_met_67 rfl rfl ?_
      refine zA_iload dX9_met_69 rfl ?_
      refine zA_iload dX9_met_71 rfl ?_
      refine zA_icmp_ge (tgt := 198) dX9_met_73 rfl (fun h73 => ?_) (fun h73 => ?_)
      · refine zA_iincB (ls' := [some (zR 110), some (zI (c : Int)), some (zI v), some (zI w), some (zI x), some (zI cc), some (zI f), some (zI ((p : Int) + 1)), some (zI (((p / 6 : Nat) : Int))), some (zI (((p % 6 : Nat) : Int))), none, none, none]) dX9_met_198 rfl rfl ⟨by omega, by omega⟩ rfl ?_
        refine zA_goto (tgt := 48) dX9_met_201 rfl ?_
        refine zA_dr (ls' := [some (zR 110), some (zI (c : Int)), some (zI v), some (zI w), some (zI x), some (zI cc), some (zI f), some (zI ((p : Int) + 1)), none, some (zI (((p % 6 : Nat) : Int))), none, none, none]) 8 rfl ?_
        refine zA_dr (ls' := [some (zR 110), some (zI (c : Int)), some (zI v), some (zI w), some (zI x), some (zI cc), some (zI f), some (zI ((p : Int) + 1)), none, none, none, none, none]) 9 rfl ?_
        have hs := mSt (q := (mQ m (mW u n (μ 114 30) (μ 114) c v w))) (p := p) h1 h2
        have hq2 : (mQ m (mW u n (μ 114 30) (μ 114) c v w)) p = false := mQ_no (by omega)
        exact ih _ (by omega) (p + 1) cc f rfl (by omega) (hs.2 hq2).1 (hs.2 hq2).2 ν hfr
      · refine zA_iload dX9_met_76 rfl ?_
        refine zA_aload_n dX9_met_78 rfl ?_
        refine zA_getE (w := (m : Int)) fX9_78 t_110 dX9_met_79 (by rw [hfr 110 (by decide) (by decide)]; exact hm) ?_
        refine zA_icmp_ge (tgt := 198) dX9_met_82 rfl (fun h82 => ?_) (fun h82 => ?_)
        · refine zA_iincB (ls' := [some (zR 110), some (zI (c : Int)), some (zI v), some (zI w), some (zI x), some (zI cc), some (zI f), some (zI ((p : Int) + 1)), some (zI (((p / 6 : Nat) : Int))), some (zI (((p % 6 : Nat) : Int))), none, none, none]) dX9_met_198 rfl rfl ⟨by omega, by omega⟩ rfl ?_
          refine zA_goto (tgt := 48) dX9_met_201 rfl ?_
          refine zA_dr (ls' := [some (zR 110), some (zI (c : Int)), some (zI v), some (zI w), some (zI x), some (zI cc), some (zI f), some (zI ((p : Int) + 1)), none, some (zI (((p % 6 : Nat) : Int))), none, none, none]) 8 rfl ?_
          refine zA_dr (ls' := [some (zR 110), some (zI (c : Int)), some (zI v), some (zI w), some (zI x), some (zI cc), some (zI f), some (zI ((p : Int) + 1)), none, none, none, none, none]) 9 rfl ?_
          have hs := mSt (q := (mQ m (mW u n (μ 114 30) (μ 114) c v w))) (p := p) h1 h2
          have hq2 : (mQ m (mW u n (μ 114 30) (μ 114) c v w)) p = false := mQ_no (by omega)
          exact ih _ (by omega) (p + 1) cc f rfl (by omega) (hs.2 hq2).1 (hs.2 hq2).2 ν hfr
        · refine zA_aload_n dX9_met_85 rfl ?_
          refine zA_cVv (st := []) kX9_225 t_110 rfl rfl (c_X9_begin (d + 2) ν) rfl rfl rfl dX9_met_86 (zfit0 (by omega) rfl) (fun μ1 q1 => ?_)
          obtain ⟨q1a, q1b⟩ := q1
          refine zA_aload_n dX9_met_89 rfl ?_
          refine zA_aload_n dX9_met_90 rfl ?_
          refine zA_getR fX9_47 t_110 rfl dX9_met_91 ?_
          refine zA_iload dX9_met_94 rfl ?_
          refine zA_iload dX9_met_96 rfl ?_
          refine zA_cVv (st := []) kX9_202 t_110 rfl rfl (c_X9_rubIn d μ1 122 n m t 30 u (p / 6) (p % 6) t_122 (by decide) (by decide) (hH.keep (by rw [q1b 110 (by decide), hfr 110 (by decide) (by decide)]) (by rw [q1b 112 (by decide), hfr 112 (by decide) (by decide)]) (by rw [q1b 113 (by decide), hfr 113 (by decide) (by decide)])) (by omega) (by omega) (by omega) (rOk_congr hn5 hm6 (fun i hi => by rw [q1a i hi, hfr 114 (by decide) (by decide)]) hok)) rfl rfl rfl dX9_met_98 (zfit0 (by omega) rfl) (fun μ2 q2 => ?_)
          obtain ⟨q2a, q2b⟩ := q2
          have X := fun i hi => (by rw [q2a, q1b 114 (by decide), hfr 114 (by decide) (by decide)]; exact xchG_congr (u := u) (g := μ 114 30) (a := p / 6) (b := p % 6) hn5 (by omega) (by omega) (fun i hi => by rw [q1a i hi, hfr 114 (by decide) (by decide)]) i hi : μ2 122 i = xchG u n (μ 114) (μ 114 30) (p / 6) (p % 6) i)
          have Fr : ∀ k, k ≠ 122 → k ≠ 119 → μ2 k = μ k := fun k k1 k2 => by rw [q2b k k1 k2, q1b k k1, hfr k k1 k2]
          refine zA_aload_n dX9_met_101 rfl ?_
          refine zA_getR fX9_47 t_110 rfl dX9_met_102 ?_
          refine zA_iconst dX9_met_105 rfl ?_
          refine zA_iload dX9_met_106 rfl ?_
          refine zA_imulB dX9_met_108 ⟨by omega, by omega⟩ ?_
          refine zA_iload_n dX9_met_109 rfl ?_
          refine zA_iaddB dX9_met_110 ⟨by omega, by omega⟩ ?_
          refine zA_ialE (w := xchG u n (μ 114) (μ 114 30) (p / 6) (p % 6) (p / 6 * 5 + c)) (j := ((5 * (((p / 6 : Nat) : Int))) + (c : Int)).toNat) t_122 (by omega) (by omega) dX9_met_111 rfl (by rw [← X _ (by omega), show (5 * ((p / 6 : Nat) : Int) + (c : Int)).toNat = p / 6 * 5 + c by omega]) ?_
          refine zA_istore (ls' := [some (zR 110), some (zI (c : Int)), some (zI v), some (zI w), some (zI x), some (zI cc), some (zI f), some (zI (p : Int)), some (zI (((p / 6 : Nat) : Int))), some (zI (((p % 6 : Nat) : Int))), some (zI (xchG u n (μ 114) (μ 114 30) (p / 6) (p % 6) (p / 6 * 5 + c))), none, none]) dX9_met_112 rfl rfl ?_
          refine zA_aload_n dX9_met_114 rfl ?_
          refine zA_getR fX9_47 t_110 rfl dX9_met_115 ?_
          refine zA_iconst dX9_met_118 rfl ?_
          refine zA_iload dX9_met_119 rfl ?_
          refine zA_imulB dX9_met_121 ⟨by omega, by omega⟩ ?_
          refine zA_iload_n dX9_met_122 rfl ?_
          refine zA_iaddB dX9_met_123 ⟨by omega, by omega⟩ ?_
          refine zA_ialE (w := xchG u n (μ 114) (μ 114 30) (p / 6) (p % 6) (p % 6 * 5 + c)) (j := ((5 * (((p % 6 : Nat) : Int))) + (c : Int)).toNat) t_122 (by omega) (by omega) dX9_met_124 rfl (by rw [← X _ (by omega), show (5 * ((p % 6 : Nat) : Int) + (c : Int)).toNat = p % 6 * 5 + c by omega]) ?_
          refine zA_istore (ls' := [some (zR 110), some (zI (c : Int)), some (zI v), some (zI w), some (zI x), some (zI cc), some (zI f), some (zI (p : Int)), some (zI (((p / 6 : Nat) : Int))), some (zI (((p % 6 : Nat) : Int))), some (zI (xchG u n (μ 114) (μ 114 30) (p / 6) (p % 6) (p / 6 * 5 + c))), some (zI (xchG u n (μ 114) (μ 114 30) (p / 6) (p % 6) (p % 6 * 5 + c))), none]) dX9_met_125 rfl rfl ?_
          refine zA_iload dX9_met_127 rfl ?_
          refine zA_iload_n dX9_met_129 rfl ?_
          refine zA_icmp_ne (tgt := 139) dX9_met_130 rfl (fun h130 => ?_) (fun h130 => ?_)
          · refine zA_iload dX9_met_139 rfl ?_
            refine zA_iload_n dX9_met_141 rfl ?_
            refine zA_icmp_ne (tgt := 155) dX9_met_142 rfl (fun h142 => ?_) (fun h142 => ?_)
            · refine zA_iconst dX9_met_155 rfl ?_
              refine zA_istore (ls' := [some (zR 110), some (zI (c : Int)), some (zI v), some (zI w), some (zI x), some (zI cc), some (zI f), some (zI (p : Int)), some (zI (((p / 6 : Nat) : Int))), some (zI (((p % 6 : Nat) : Int))), some (zI (xchG u n (μ 114) (μ 114 30) (p / 6) (p % 6) (p / 6 * 5 + c))), some (zI (xchG u n (μ 114) (μ 114 30) (p / 6) (p % 6) (p % 6 * 5 + c))), some (zI 0)]) dX9_met_156 rfl rfl ?_
              refine zA_iload dX9_met_158 rfl ?_
              refine zA_if_eq (tgt := 179) dX9_met_160 rfl (fun h160 => ?_) (fun h160 => False.elim (by omega))
              refine zA_iload dX9_met_179 rfl ?_
              refine zA_istore (ls' := [some (zR 110), some (zI (c : Int)), some (zI v), some (zI w), some (zI x), some (zI cc), some (zI f), some (zI (p : Int)), some (zI (((p / 6 : Nat) : Int))), some (zI (((p % 6 : Nat) : Int))), some (zI (xchG u n (μ 114) (μ 114 30) (p / 6) (p % 6) (p / 6 * 5 + c))), some (zI (xchG u n (μ 114) (μ 114 30) (p / 6) (p % 6) (p % 6 * 5 + c))), some (zI 0)]) dX9_met_181 rfl rfl ?_
              refine zA_iload dX9_met_183 rfl ?_
              refine zA_iload dX9_met_185 rfl ?_
              refine zA_if_eq (tgt := 194) dX9_met_187 rfl (fun h187 => ?_) (fun h187 => False.elim (by omega))
              refine zA_iconst dX9_met_194 rfl ?_
              refine zA_iaddB dX9_met_195 ⟨by omega, by omega⟩ ?_
              refine zA_istore (ls' := [some (zR 110), some (zI (c : Int)), some (zI v), some (zI w), some (zI x), some (zI (cc + 0)), some (zI f), some (zI (p : Int)), some (zI (((p / 6 : Nat) : Int))), some (zI (((p % 6 : Nat) : Int))), some (zI (xchG u n (μ 114) (μ 114 30) (p / 6) (p % 6) (p / 6 * 5 + c))), some (zI (xchG u n (μ 114) (μ 114 30) (p / 6) (p % 6) (p % 6 * 5 + c))), some (zI 0)]) dX9_met_196 rfl rfl ?_
              refine zA_iincB (ls' := [some (zR 110), some (zI (c : Int)), some (zI v), some (zI w), some (zI x), some (zI (cc + 0)), some (zI f), some (zI ((p : Int) + 1)), some (zI (((p / 6 : Nat) : Int))), some (zI (((p % 6 : Nat) : Int))), some (zI (xchG u n (μ 114) (μ 114 30) (p / 6) (p % 6) (p / 6 * 5 + c))), some (zI (xchG u n (μ 114) (μ 114 30) (p / 6) (p % 6) (p % 6 * 5 + c))), some (zI 0)]) dX9_met_198 rfl rfl ⟨by omega, by omega⟩ rfl ?_
              refine zA_goto (tgt := 48) dX9_met_201 rfl ?_
              refine zA_dr (ls' := [some (zR 110), some (zI (c : Int)), some (zI v), some (zI w), some (zI x), some (zI (cc + 0)), some (zI f), some (zI ((p : Int) + 1)), none, some (zI (((p % 6 : Nat) : Int))), some (zI (xchG u n (μ 114) (μ 114 30) (p / 6) (p % 6) (p / 6 * 5 + c))), some (zI (xchG u n (μ 114) (μ 114 30) (p / 6) (p % 6) (p % 6 * 5 + c))), some (zI 0)]) 8 rfl ?_
              refine zA_dr (ls' := [some (zR 110), some (zI (c : Int)), some (zI v), some (zI w), some (zI x), some (zI (cc + 0)), some (zI f), some (zI ((p : Int) + 1)), none, none, some (zI (xchG u n (μ 114) (μ 114 30) (p / 6) (p % 6) (p / 6 * 5 + c))), some (zI (xchG u n (μ 114) (μ 114 30) (p / 6) (p % 6) (p % 6 * 5 + c))), some (zI 0)]) 9 rfl ?_
              refine zA_dr (ls' := [some (zR 110), some (zI (c : Int)), some (zI v), some (zI w), some (zI x), some (zI (cc + 0)), some (zI f), some (zI ((p : Int) + 1)), none, none, none, some (zI (xchG u n (μ 114) (μ 114 30) (p / 6) (p % 6) (p % 6 * 5 + c))), some (zI 0)]) 10 rfl ?_
              refine zA_dr (ls' := [some (zR 110), some (zI (c : Int)), some (zI v), some (zI w), some (zI x), some (zI (cc + 0)), some (zI f), some (zI ((p : Int) + 1)), none, none, none, none, some (zI 0)]) 11 rfl ?_
              refine zA_dr (ls' := [some (zR 110), some (zI (c : Int)), some (zI v), some (zI w), some (zI x), some (zI (cc + 0)), some (zI f), some (zI ((p : Int) + 1)), none, none, none, none, none]) 12 rfl ?_
              have hs := mSt (q := (mQ m (mW u n (μ 114 30) (μ 114) c v w))) (p := p) h1 h2
              have hq := mQ_yes (m := m) (W := mW u n (μ 114 30) (μ 114) c v w) (p := p) (by omega)
              have hq2 : (mQ m (mW u n (μ 114 30) (μ 114) c v w)) p = false := by rw [hq]; unfold mW; rw [decide_eq_false_iff_not]; omega
              obtain ⟨g1, g2⟩ := hs.2 hq2
              exact ih _ (by omega) (p + 1) _ _ rfl (by omega) (by omega) g2 μ2 Fr
            · refine zA_iload dX9_met_145 rfl ?_
              refine zA_iload_n dX9_met_147 rfl ?_
              refine zA_icmp_ne (tgt := 155) dX9_met_148 rfl (fun h148 => ?_) (fun h148 => ?_)
              · refine zA_iconst dX9_met_155 rfl ?_
                refine zA_istore (ls' := [some (zR 110), some (zI (c : Int)), some (zI v), some (zI w), some (zI x), some (zI cc), some (zI f), some (zI (p : Int)), some (zI (((p / 6 : Nat) : Int))), some (zI (((p % 6 : Nat) : Int))), some (zI (xchG u n (μ 114) (μ 114 30) (p / 6) (p % 6) (p / 6 * 5 + c))), some (zI (xchG u n (μ 114) (μ 114 30) (p / 6) (p % 6) (p % 6 * 5 + c))), some (zI 0)]) dX9_met_156 rfl rfl ?_
                refine zA_iload dX9_met_158 rfl ?_
                refine zA_if_eq (tgt := 179) dX9_met_160 rfl (fun h160 => ?_) (fun h160 => False.elim (by omega))
                refine zA_iload dX9_met_179 rfl ?_
                refine zA_istore (ls' := [some (zR 110), some (zI (c : Int)), some (zI v), some (zI w), some (zI x), some (zI cc), some (zI f), some (zI (p : Int)), some (zI (((p / 6 : Nat) : Int))), some (zI (((p % 6 : Nat) : Int))), some (zI (xchG u n (μ 114) (μ 114 30) (p / 6) (p % 6) (p / 6 * 5 + c))), some (zI (xchG u n (μ 114) (μ 114 30) (p / 6) (p % 6) (p % 6 * 5 + c))), some (zI 0)]) dX9_met_181 rfl rfl ?_
                refine zA_iload dX9_met_183 rfl ?_
                refine zA_iload dX9_met_185 rfl ?_
                refine zA_if_eq (tgt := 194) dX9_met_187 rfl (fun h187 => ?_) (fun h187 => False.elim (by omega))
                refine zA_iconst dX9_met_194 rfl ?_
                refine zA_iaddB dX9_met_195 ⟨by omega, by omega⟩ ?_
                refine zA_istore (ls' := [some (zR 110), some (zI (c : Int)), some (zI v), some (zI w), some (zI x), some (zI (cc + 0)), some (zI f), some (zI (p : Int)), some (zI (((p / 6 : Nat) : Int))), some (zI (((p % 6 : Nat) : Int))), some (zI (xchG u n (μ 114) (μ 114 30) (p / 6) (p % 6) (p / 6 * 5 + c))), some (zI (xchG u n (μ 114) (μ 114 30) (p / 6) (p % 6) (p % 6 * 5 + c))), some (zI 0)]) dX9_met_196 rfl rfl ?_
                refine zA_iincB (ls' := [some (zR 110), some (zI (c : Int)), some (zI v), some (zI w), some (zI x), some (zI (cc + 0)), some (zI f), some (zI ((p : Int) + 1)), some (zI (((p / 6 : Nat) : Int))), some (zI (((p % 6 : Nat) : Int))), some (zI (xchG u n (μ 114) (μ 114 30) (p / 6) (p % 6) (p / 6 * 5 + c))), some (zI (xchG u n (μ 114) (μ 114 30) (p / 6) (p % 6) (p % 6 * 5 + c))), some (zI 0)]) dX9_met_198 rfl rfl ⟨by omega, by omega⟩ rfl ?_
                refine zA_goto (tgt := 48) dX9_met_201 rfl ?_
                refine zA_dr (ls' := [some (zR 110), some (zI (c : Int)), some (zI v), some (zI w), some (zI x), some (zI (cc + 0)), some (zI f), some (zI ((p : Int) + 1)), none, some (zI (((p % 6 : Nat) : Int))), some (zI (xchG u n (μ 114) (μ 114 30) (p / 6) (p % 6) (p / 6 * 5 + c))), some (zI (xchG u n (μ 114) (μ 114 30) (p / 6) (p % 6) (p % 6 * 5 + c))), some (zI 0)]) 8 rfl ?_
                refine zA_dr (ls' := [some (zR 110), some (zI (c : Int)), some (zI v), some (zI w), some (zI x), some (zI (cc + 0)), some (zI f), some (zI ((p : Int) + 1)), none, none, some (zI (xchG u n (μ 114) (μ 114 30) (p / 6) (p % 6) (p / 6 * 5 + c))), some (zI (xchG u n (μ 114) (μ 114 30) (p / 6) (p % 6) (p % 6 * 5 + c))), some (zI 0)]) 9 rfl ?_
                refine zA_dr (ls' := [some (zR 110), some (zI (c : Int)), some (zI v), some (zI w), some (zI x), some (zI (cc + 0)), some (zI f), some (zI ((p : Int) + 1)), none, none, none, some (zI (xchG u n (μ 114) (μ 114 30) (p / 6) (p % 6) (p % 6 * 5 + c))), some (zI 0)]) 10 rfl ?_
                refine zA_dr (ls' := [some (zR 110), some (zI (c : Int)), some (zI v), some (zI w), some (zI x), some (zI (cc + 0)), some (zI f), some (zI ((p : Int) + 1)), none, none, none, none, some (zI 0)]) 11 rfl ?_
                refine zA_dr (ls' := [some (zR 110), some (zI (c : Int)), some (zI v), some (zI w), some (zI x), some (zI (cc + 0)), some (zI f), some (zI ((p : Int) + 1)), none, none, none, none, none]) 12 rfl ?_
                have hs := mSt (q := (mQ m (mW u n (μ 114 30) (μ 114) c v w))) (p := p) h1 h2
                have hq := mQ_yes (m := m) (W := mW u n (μ 114 30) (μ 114) c v w) (p := p) (by omega)
                have hq2 : (mQ m (mW u n (μ 114 30) (μ 114) c v w)) p = false := by rw [hq]; unfold mW; rw [decide_eq_false_iff_not]; omega
                obtain ⟨g1, g2⟩ := hs.2 hq2
                exact ih _ (by omega) (p + 1) _ _ rfl (by omega) (by omega) g2 μ2 Fr
              · refine zA_iconst dX9_met_151 rfl ?_
                refine zA_goto (tgt := 156) dX9_met_152 rfl ?_
                refine zA_istore (ls' := [some (zR 110), some (zI (c : Int)), some (zI v), some (zI w), some (zI x), some (zI cc), some (zI f), some (zI (p : Int)), some (zI (((p / 6 : Nat) : Int))), some (zI (((p % 6 : Nat) : Int))), some (zI (xchG u n (μ 114) (μ 114 30) (p / 6) (p % 6) (p / 6 * 5 + c))), some (zI (xchG u n (μ 114) (μ 114 30) (p / 6) (p % 6) (p % 6 * 5 + c))), some (zI 1)]) dX9_met_156 rfl rfl ?_
                refine zA_iload dX9_met_158 rfl ?_
                refine zA_if_eq (tgt := 179) dX9_met_160 rfl (fun h160 => False.elim (by omega)) fun h160 => ?_
                refine zA_iload dX9_met_163 rfl ?_
                refine zA_if_ne (tgt := 179) dX9_met_165 rfl (fun h165 => ?_) (fun h165 => ?_)
                · refine zA_iload dX9_met_179 rfl ?_
                  refine zA_istore (ls' := [some (zR 110), some (zI (c : Int)), some (zI v), some (zI w), some (zI x), some (zI cc), some (zI f), some (zI (p : Int)), some (zI (((p / 6 : Nat) : Int))), some (zI (((p % 6 : Nat) : Int))), some (zI (xchG u n (μ 114) (μ 114 30) (p / 6) (p % 6) (p / 6 * 5 + c))), some (zI (xchG u n (μ 114) (μ 114 30) (p / 6) (p % 6) (p % 6 * 5 + c))), some (zI 1)]) dX9_met_181 rfl rfl ?_
                  refine zA_iload dX9_met_183 rfl ?_
                  refine zA_iload dX9_met_185 rfl ?_
                  refine zA_if_eq (tgt := 194) dX9_met_187 rfl (fun h187 => False.elim (by omega)) fun h187 => ?_
                  refine zA_iconst dX9_met_190 rfl ?_
                  refine zA_goto (tgt := 195) dX9_met_191 rfl ?_
                  refine zA_iaddB dX9_met_195 ⟨by omega, by omega⟩ ?_
                  refine zA_istore (ls' := [some (zR 110), some (zI (c : Int)), some (zI v), some (zI w), some (zI x), some (zI (cc + 1)), some (zI f), some (zI (p : Int)), some (zI (((p / 6 : Nat) : Int))), some (zI (((p % 6 : Nat) : Int))), some (zI (xchG u n (μ 114) (μ 114 30) (p / 6) (p % 6) (p / 6 * 5 + c))), some (zI (xchG u n (μ 114) (μ 114 30) (p / 6) (p % 6) (p % 6 * 5 + c))), some (zI 1)]) dX9_met_196 rfl rfl ?_
                  refine zA_iincB (ls' := [some (zR 110), some (zI (c : Int)), some (zI v), some (zI w), some (zI x), some (zI (cc + 1)), some (zI f), some (zI ((p : Int) + 1)), some (zI (((p / 6 : Nat) : Int))), some (zI (((p % 6 : Nat) : Int))), some (zI (xchG u n (μ 114) (μ 114 30) (p / 6) (p % 6) (p / 6 * 5 + c))), some (zI (xchG u n (μ 114) (μ 114 30) (p / 6) (p % 6) (p % 6 * 5 + c))), some (zI 1)]) dX9_met_198 rfl rfl ⟨by omega, by omega⟩ rfl ?_
                  refine zA_goto (tgt := 48) dX9_met_201 rfl ?_
                  refine zA_dr (ls' := [some (zR 110), some (zI (c : Int)), some (zI v), some (zI w), some (zI x), some (zI (cc + 1)), some (zI f), some (zI ((p : Int) + 1)), none, some (zI (((p % 6 : Nat) : Int))), some (zI (xchG u n (μ 114) (μ 114 30) (p / 6) (p % 6) (p / 6 * 5 + c))), some (zI (xchG u n (μ 114) (μ 114 30) (p / 6) (p % 6) (p % 6 * 5 + c))), some (zI 1)]) 8 rfl ?_
                  refine zA_dr (ls' := [some (zR 110), some (zI (c : Int)), some (zI v), some (zI w), some (zI x), some (zI (cc + 1)), some (zI f), some (zI ((p : Int) + 1)), none, none, some (zI (xchG u n (μ 114) (μ 114 30) (p / 6) (p % 6) (p / 6 * 5 + c))), some (zI (xchG u n (μ 114) (μ 114 30) (p / 6) (p % 6) (p % 6 * 5 + c))), some (zI 1)]) 9 rfl ?_
                  refine zA_dr (ls' := [some (zR 110), some (zI (c : Int)), some (zI v), some (zI w), some (zI x), some (zI (cc + 1)), some (zI f), some (zI ((p : Int) + 1)), none, none, none, some (zI (xchG u n (μ 114) (μ 114 30) (p / 6) (p % 6) (p % 6 * 5 + c))), some (zI 1)]) 10 rfl ?_
                  refine zA_dr (ls' := [some (zR 110), some (zI (c : Int)), some (zI v), some (zI w), some (zI x), some (zI (cc + 1)), some (zI f), some (zI ((p : Int) + 1)), none, none, none, none, some (zI 1)]) 11 rfl ?_
                  refine zA_dr (ls' := [some (zR 110), some (zI (c : Int)), some (zI v), some (zI w), some (zI x), some (zI (cc + 1)), some (zI f), some (zI ((p : Int) + 1)), none, none, none, none, none]) 12 rfl ?_
                  have hs := mSt (q := (mQ m (mW u n (μ 114 30) (μ 114) c v w))) (p := p) h1 h2
                  have hq := mQ_yes (m := m) (W := mW u n (μ 114 30) (μ 114) c v w) (p := p) (by omega)
                  have hq2 : (mQ m (mW u n (μ 114 30) (μ 114) c v w)) p = true := by rw [hq]; unfold mW; rw [decide_eq_true_eq]; omega
                  obtain ⟨g1, g2⟩ := hs.1 hq2
                  rw [if_neg h165] at g2
                  exact ih _ (by omega) (p + 1) _ _ rfl (by omega) g1 g2 μ2 Fr
                · refine zA_bipush dX9_met_168 rfl ?_
                  refine zA_iload dX9_met_170 rfl ?_
                  refine zA_imulB dX9_met_172 ⟨by omega, by omega⟩ ?_
                  refine zA_iload dX9_met_173 rfl ?_
                  refine zA_iaddB dX9_met_175 ⟨by omega, by omega⟩ ?_
                  refine zA_goto (tgt := 181) dX9_met_176 rfl ?_
                  refine zA_istore (ls' := [some (zR 110), some (zI (c : Int)), some (zI v), some (zI w), some (zI x), some (zI cc), some (zI ((10 * (((p / 6 : Nat) : Int))) + (((p % 6 : Nat) : Int)))), some (zI (p : Int)), some (zI (((p / 6 : Nat) : Int))), some (zI (((p % 6 : Nat) : Int))), some (zI (xchG u n (μ 114) (μ 114 30) (p / 6) (p % 6) (p / 6 * 5 + c))), some (zI (xchG u n (μ 114) (μ 114 30) (p / 6) (p % 6) (p % 6 * 5 + c))), some (zI 1)]) dX9_met_181 rfl rfl ?_
                  refine zA_iload dX9_met_183 rfl ?_
                  refine zA_iload dX9_met_185 rfl ?_
                  refine zA_if_eq (tgt := 194) dX9_met_187 rfl (fun h187 => False.elim (by omega)) fun h187 => ?_
                  refine zA_iconst dX9_met_190 rfl ?_
                  refine zA_goto (tgt := 195) dX9_met_191 rfl ?_
                  refine zA_iaddB dX9_met_195 ⟨by omega, by omega⟩ ?_
                  refine zA_istore (ls' := [some (zR 110), some (zI (c : Int)), some (zI v), some (zI w), some (zI x), some (zI (cc + 1)), some (zI ((10 * (((p / 6 : Nat) : Int))) + (((p % 6 : Nat) : Int)))), some (zI (p : Int)), some (zI (((p / 6 : Nat) : Int))), some (zI (((p % 6 : Nat) : Int))), some (zI (xchG u n (μ 114) (μ 114 30) (p / 6) (p % 6) (p / 6 * 5 + c))), some (zI (xchG u n (μ 114) (μ 114 30) (p / 6) (p % 6) (p % 6 * 5 + c))), some (zI 1)]) dX9_met_196 rfl rfl ?_
                  refine zA_iincB (ls' := [some (zR 110), some (zI (c : Int)), some (zI v), some (zI w), some (zI x), some (zI (cc + 1)), some (zI ((10 * (((p / 6 : Nat) : Int))) + (((p % 6 : Nat) : Int)))), some (zI ((p : Int) + 1)), some (zI (((p / 6 : Nat) : Int))), some (zI (((p % 6 : Nat) : Int))), some (zI (xchG u n (μ 114) (μ 114 30) (p / 6) (p % 6) (p / 6 * 5 + c))), some (zI (xchG u n (μ 114) (μ 114 30) (p / 6) (p % 6) (p % 6 * 5 + c))), some (zI 1)]) dX9_met_198 rfl rfl ⟨by omega, by omega⟩ rfl ?_
                  refine zA_goto (tgt := 48) dX9_met_201 rfl ?_
                  refine zA_dr (ls' := [some (zR 110), some (zI (c : Int)), some (zI v), some (zI w), some (zI x), some (zI (cc + 1)), some (zI ((10 * (((p / 6 : Nat) : Int))) + (((p % 6 : Nat) : Int)))), some (zI ((p : Int) + 1)), none, some (zI (((p % 6 : Nat) : Int))), some (zI (xchG u n (μ 114) (μ 114 30) (p / 6) (p % 6) (p / 6 * 5 + c))), some (zI (xchG u n (μ 114) (μ 114 30) (p / 6) (p % 6) (p % 6 * 5 + c))), some (zI 1)]) 8 rfl ?_
                  refine zA_dr (ls' := [some (zR 110), some (zI (c : Int)), some (zI v), some (zI w), some (zI x), some (zI (cc + 1)), some (zI ((10 * (((p / 6 : Nat) : Int))) + (((p % 6 : Nat) : Int)))), some (zI ((p : Int) + 1)), none, none, some (zI (xchG u n (μ 114) (μ 114 30) (p / 6) (p % 6) (p / 6 * 5 + c))), some (zI (xchG u n (μ 114) (μ 114 30) (p / 6) (p % 6) (p % 6 * 5 + c))), some (zI 1)]) 9 rfl ?_
                  refine zA_dr (ls' := [some (zR 110), some (zI (c : Int)), some (zI v), some (zI w), some (zI x), some (zI (cc + 1)), some (zI ((10 * (((p / 6 : Nat) : Int))) + (((p % 6 : Nat) : Int)))), some (zI ((p : Int) + 1)), none, none, none, some (zI (xchG u n (μ 114) (μ 114 30) (p / 6) (p % 6) (p % 6 * 5 + c))), some (zI 1)]) 10 rfl ?_
                  refine zA_dr (ls' := [some (zR 110), some (zI (c : Int)), some (zI v), some (zI w), some (zI x), some (zI (cc + 1)), some (zI ((10 * (((p / 6 : Nat) : Int))) + (((p % 6 : Nat) : Int)))), some (zI ((p : Int) + 1)), none, none, none, none, some (zI 1)]) 11 rfl ?_
                  refine zA_dr (ls' := [some (zR 110), some (zI (c : Int)), some (zI v), some (zI w), some (zI x), some (zI (cc + 1)), some (zI ((10 * (((p / 6 : Nat) : Int))) + (((p % 6 : Nat) : Int)))), some (zI ((p : Int) + 1)), none, none, none, none, none]) 12 rfl ?_
                  have hs := mSt (q := (mQ m (mW u n (μ 114 30) (μ 114) c v w))) (p := p) h1 h2
                  have hq := mQ_yes (m := m) (W := mW u n (μ 114 30) (μ 114) c v w) (p := p) (by omega)
                  have hq2 : (mQ m (mW u n (μ 114 30) (μ 114) c v w)) p = true := by rw [hq]; unfold mW; rw [decide_eq_true_eq]; omega
                  obtain ⟨g1, g2⟩ := hs.1 hq2
                  rw [if_pos h165] at g2
                  exact ih _ (by omega) (p + 1) _ _ rfl (by omega) g1 g2 μ2 Fr
          · refine zA_iload dX9_met_133 rfl ?_
            refine zA_iload_n dX9_met_135 rfl ?_
            refine zA_icmp_eq (tgt := 151) dX9_met_136 rfl (fun h136 => ?_) (fun h136 => ?_)
            · refine zA_iconst dX9_met_151 rfl ?_
              refine zA_goto (tgt := 156) dX9_met_152 rfl ?_
              refine zA_istore (ls' := [some (zR 110), some (zI (c : Int)), some (zI v), some (zI w), some (zI x), some (zI cc), some (zI f), some (zI (p : Int)), some (zI (((p / 6 : Nat) : Int))), some (zI (((p % 6 : Nat) : Int))), some (zI (xchG u n (μ 114) (μ 114 30) (p / 6) (p % 6) (p / 6 * 5 + c))), some (zI (xchG u n (μ 114) (μ 114 30) (p / 6) (p % 6) (p % 6 * 5 + c))), some (zI 1)]) dX9_met_156 rfl rfl ?_
              refine zA_iload dX9_met_158 rfl ?_
              refine zA_if_eq (tgt := 179) dX9_met_160 rfl (fun h160 => False.elim (by omega)) fun h160 => ?_
              refine zA_iload dX9_met_163 rfl ?_
              refine zA_if_ne (tgt := 179) dX9_met_165 rfl (fun h165 => ?_) (fun h165 => ?_)
              · refine zA_iload dX9_met_179 rfl ?_
                refine zA_istore (ls' := [some (zR 110), some (zI (c : Int)), some (zI v), some (zI w), some (zI x), some (zI cc), some (zI f), some (zI (p : Int)), some (zI (((p / 6 : Nat) : Int))), some (zI (((p % 6 : Nat) : Int))), some (zI (xchG u n (μ 114) (μ 114 30) (p / 6) (p % 6) (p / 6 * 5 + c))), some (zI (xchG u n (μ 114) (μ 114 30) (p / 6) (p % 6) (p % 6 * 5 + c))), some (zI 1)]) dX9_met_181 rfl rfl ?_
                refine zA_iload dX9_met_183 rfl ?_
                refine zA_iload dX9_met_185 rfl ?_
                refine zA_if_eq (tgt := 194) dX9_met_187 rfl (fun h187 => False.elim (by omega)) fun h187 => ?_
                refine zA_iconst dX9_met_190 rfl ?_
                refine zA_goto (tgt := 195) dX9_met_191 rfl ?_
                refine zA_iaddB dX9_met_195 ⟨by omega, by omega⟩ ?_
                refine zA_istore (ls' := [some (zR 110), some (zI (c : Int)), some (zI v), some (zI w), some (zI x), some (zI (cc + 1)), some (zI f), some (zI (p : Int)), some (zI (((p / 6 : Nat) : Int))), some (zI (((p % 6 : Nat) : Int))), some (zI (xchG u n (μ 114) (μ 114 30) (p / 6) (p % 6) (p / 6 * 5 + c))), some (zI (xchG u n (μ 114) (μ 114 30) (p / 6) (p % 6) (p % 6 * 5 + c))), some (zI 1)]) dX9_met_196 rfl rfl ?_
                refine zA_iincB (ls' := [some (zR 110), some (zI (c : Int)), some (zI v), some (zI w), some (zI x), some (zI (cc + 1)), some (zI f), some (zI ((p : Int) + 1)), some (zI (((p / 6 : Nat) : Int))), some (zI (((p % 6 : Nat) : Int))), some (zI (xchG u n (μ 114) (μ 114 30) (p / 6) (p % 6) (p / 6 * 5 + c))), some (zI (xchG u n (μ 114) (μ 114 30) (p / 6) (p % 6) (p % 6 * 5 + c))), some (zI 1)]) dX9_met_198 rfl rfl ⟨by omega, by omega⟩ rfl ?_
                refine zA_goto (tgt := 48) dX9_met_201 rfl ?_
                refine zA_dr (ls' := [some (zR 110), some (zI (c : Int)), some (zI v), some (zI w), some (zI x), some (zI (cc + 1)), some (zI f), some (zI ((p : Int) + 1)), none, some (zI (((p % 6 : Nat) : Int))), some (zI (xchG u n (μ 114) (μ 114 30) (p / 6) (p % 6) (p / 6 * 5 + c))), some (zI (xchG u n (μ 114) (μ 114 30) (p / 6) (p % 6) (p % 6 * 5 + c))), some (zI 1)]) 8 rfl ?_
                refine zA_dr (ls' := [some (zR 110), some (zI (c : Int)), some (zI v), some (zI w), some (zI x), some (zI (cc + 1)), some (zI f), some (zI ((p : Int) + 1)), none, none, some (zI (xchG u n (μ 114) (μ 114 30) (p / 6) (p % 6) (p / 6 * 5 + c))), some (zI (xchG u n (μ 114) (μ 114 30) (p / 6) (p % 6) (p % 6 * 5 + c))), some (zI 1)]) 9 rfl ?_
                refine zA_dr (ls' := [some (zR 110), some (zI (c : Int)), some (zI v), some (zI w), some (zI x), some (zI (cc + 1)), some (zI f), some (zI ((p : Int) + 1)), none, none, none, some (zI (xchG u n (μ 114) (μ 114 30) (p / 6) (p % 6) (p % 6 * 5 + c))), some (zI 1)]) 10 rfl ?_
                refine zA_dr (ls' := [some (zR 110), some (zI (c : Int)), some (zI v), some (zI w), some (zI x), some (zI (cc + 1)), some (zI f), some (zI ((p : Int) + 1)), none, none, none, none, some (zI 1)]) 11 rfl ?_
                refine zA_dr (ls' := [some (zR 110), some (zI (c : Int)), some (zI v), some (zI w), some (zI x), some (zI (cc + 1)), some (zI f), some (zI ((p : Int) + 1)), none, none, none, none, none]) 12 rfl ?_
                have hs := mSt (q := (mQ m (mW u n (μ 114 30) (μ 114) c v w))) (p := p) h1 h2
                have hq := mQ_yes (m := m) (W := mW u n (μ 114 30) (μ 114) c v w) (p := p) (by omega)
                have hq2 : (mQ m (mW u n (μ 114 30) (μ 114) c v w)) p = true := by rw [hq]; unfold mW; rw [decide_eq_true_eq]; omega
                obtain ⟨g1, g2⟩ := hs.1 hq2
                rw [if_neg h165] at g2
                exact ih _ (by omega) (p + 1) _ _ rfl (by omega) g1 g2 μ2 Fr
              · refine zA_bipush dX9_met_168 rfl ?_
                refine zA_iload dX9_met_170 rfl ?_
                refine zA_imulB dX9_met_172 ⟨by omega, by omega⟩ ?_
                refine zA_iload dX9_met_173 rfl ?_
                refine zA_iaddB dX9_met_175 ⟨by omega, by omega⟩ ?_
                refine zA_goto (tgt := 181) dX9_met_176 rfl ?_
                refine zA_istore (ls' := [some (zR 110), some (zI (c : Int)), some (zI v), some (zI w), some (zI x), some (zI cc), some (zI ((10 * (((p / 6 : Nat) : Int))) + (((p % 6 : Nat) : Int)))), some (zI (p : Int)), some (zI (((p / 6 : Nat) : Int))), some (zI (((p % 6 : Nat) : Int))), some (zI (xchG u n (μ 114) (μ 114 30) (p / 6) (p % 6) (p / 6 * 5 + c))), some (zI (xchG u n (μ 114) (μ 114 30) (p / 6) (p % 6) (p % 6 * 5 + c))), some (zI 1)]) dX9_met_181 rfl rfl ?_
                refine zA_iload dX9_met_183 rfl ?_
                refine zA_iload dX9_met_185 rfl ?_
                refine zA_if_eq (tgt := 194) dX9_met_187 rfl (fun h187 => False.elim (by omega)) fun h187 => ?_
                refine zA_iconst dX9_met_190 rfl ?_
                refine zA_goto (tgt := 195) dX9_met_191 rfl ?_
                refine zA_iaddB dX9_met_195 ⟨by omega, by omega⟩ ?_
                refine zA_istore (ls' := [some (zR 110), some (zI (c : Int)), some (zI v), some (zI w), some (zI x), some (zI (cc + 1)), some (zI ((10 * (((p / 6 : Nat) : Int))) + (((p % 6 : Nat) : Int)))), some (zI (p : Int)), some (zI (((p / 6 : Nat) : Int))), some (zI (((p % 6 : Nat) : Int))), some (zI (xchG u n (μ 114) (μ 114 30) (p / 6) (p % 6) (p / 6 * 5 + c))), some (zI (xchG u n (μ 114) (μ 114 30) (p / 6) (p % 6) (p % 6 * 5 + c))), some (zI 1)]) dX9_met_196 rfl rfl ?_
                refine zA_iincB (ls' := [some (zR 110), some (zI (c : Int)), some (zI v), some (zI w), some (zI x), some (zI (cc + 1)), some (zI ((10 * (((p / 6 : Nat) : Int))) + (((p % 6 : Nat) : Int)))), some (zI ((p : Int) + 1)), some (zI (((p / 6 : Nat) : Int))), some (zI (((p % 6 : Nat) : Int))), some (zI (xchG u n (μ 114) (μ 114 30) (p / 6) (p % 6) (p / 6 * 5 + c))), some (zI (xchG u n (μ 114) (μ 114 30) (p / 6) (p % 6) (p % 6 * 5 + c))), some (zI 1)]) dX9_met_198 rfl rfl ⟨by omega, by omega⟩ rfl ?_
                refine zA_goto (tgt := 48) dX9_met_201 rfl ?_
                refine zA_dr (ls' := [some (zR 110), some (zI (c : Int)), some (zI v), some (zI w), some (zI x), some (zI (cc + 1)), some (zI ((10 * (((p / 6 : Nat) : Int))) + (((p % 6 : Nat) : Int)))), some (zI ((p : Int) + 1)), none, some (zI (((p % 6 : Nat) : Int))), some (zI (xchG u n (μ 114) (μ 114 30) (p / 6) (p % 6) (p / 6 * 5 + c))), some (zI (xchG u n (μ 114) (μ 114 30) (p / 6) (p % 6) (p % 6 * 5 + c))), some (zI 1)]) 8 rfl ?_
                refine zA_dr (ls' := [some (zR 110), some (zI (c : Int)), some (zI v), some (zI w), some (zI x), some (zI (cc + 1)), some (zI ((10 * (((p / 6 : Nat) : Int))) + (((p % 6 : Nat) : Int)))), some (zI ((p : Int) + 1)), none, none, some (zI (xchG u n (μ 114) (μ 114 30) (p / 6) (p % 6) (p / 6 * 5 + c))), some (zI (xchG u n (μ 114) (μ 114 30) (p / 6) (p % 6) (p % 6 * 5 + c))), some (zI 1)]) 9 rfl ?_
                refine zA_dr (ls' := [some (zR 110), some (zI (c : Int)), some (zI v), some (zI w), some (zI x), some (zI (cc + 1)), some (zI ((10 * (((p / 6 : Nat) : Int))) + (((p % 6 : Nat) : Int)))), some (zI ((p : Int) + 1)), none, none, none, some (zI (xchG u n (μ 114) (μ 114 30) (p / 6) (p % 6) (p % 6 * 5 + c))), some (zI 1)]) 10 rfl ?_
                refine zA_dr (ls' := [some (zR 110), some (zI (c : Int)), some (zI v), some (zI w), some (zI x), some (zI (cc + 1)), some (zI ((10 * (((p / 6 : Nat) : Int))) + (((p % 6 : Nat) : Int)))), some (zI ((p : Int) + 1)), none, none, none, none, some (zI 1)]) 11 rfl ?_
                refine zA_dr (ls' := [some (zR 110), some (zI (c : Int)), some (zI v), some (zI w), some (zI x), some (zI (cc + 1)), some (zI ((10 * (((p / 6 : Nat) : Int))) + (((p % 6 : Nat) : Int)))), some (zI ((p : Int) + 1)), none, none, none, none, none]) 12 rfl ?_
                have hs := mSt (q := (mQ m (mW u n (μ 114 30) (μ 114) c v w))) (p := p) h1 h2
                have hq := mQ_yes (m := m) (W := mW u n (μ 114 30) (μ 114) c v w) (p := p) (by omega)
                have hq2 : (mQ m (mW u n (μ 114 30) (μ 114) c v w)) p = true := by rw [hq]; unfold mW; rw [decide_eq_true_eq]; omega
                obtain ⟨g1, g2⟩ := hs.1 hq2
                rw [if_pos h165] at g2
                exact ih _ (by omega) (p + 1) _ _ rfl (by omega) g1 g2 μ2 Fr
            · refine zA_iload dX9_met_139 rfl ?_
              refine zA_iload_n dX9_met_141 rfl ?_
              refine zA_icmp_ne (tgt := 155) dX9_met_142 rfl (fun h142 => ?_) (fun h142 => ?_)
              · refine zA_iconst dX9_met_155 rfl ?_
                refine zA_istore (ls' := [some (zR 110), some (zI (c : Int)), some (zI v), some (zI w), some (zI x), some (zI cc), some (zI f), some (zI (p : Int)), some (zI (((p / 6 : Nat) : Int))), some (zI (((p % 6 : Nat) : Int))), some (zI (xchG u n (μ 114) (μ 114 30) (p / 6) (p % 6) (p / 6 * 5 + c))), some (zI (xchG u n (μ 114) (μ 114 30) (p / 6) (p % 6) (p % 6 * 5 + c))), some (zI 0)]) dX9_met_156 rfl rfl ?_
                refine zA_iload dX9_met_158 rfl ?_
                refine zA_if_eq (tgt := 179) dX9_met_160 rfl (fun h160 => ?_) (fun h160 => False.elim (by omega))
                refine zA_iload dX9_met_179 rfl ?_
                refine zA_istore (ls' := [some (zR 110), some (zI (c : Int)), some (zI v), some (zI w), some (zI x), some (zI cc), some (zI f), some (zI (p : Int)), some (zI (((p / 6 : Nat) : Int))), some (zI (((p % 6 : Nat) : Int))), some (zI (xchG u n (μ 114) (μ 114 30) (p / 6) (p % 6) (p / 6 * 5 + c))), some (zI (xchG u n (μ 114) (μ 114 30) (p / 6) (p % 6) (p % 6 * 5 + c))), some (zI 0)]) dX9_met_181 rfl rfl ?_
                refine zA_iload dX9_met_183 rfl ?_
                refine zA_iload dX9_met_185 rfl ?_
                refine zA_if_eq (tgt := 194) dX9_met_187 rfl (fun h187 => ?_) (fun h187 => False.elim (by omega))
                refine zA_iconst dX9_met_194 rfl ?_
                refine zA_iaddB dX9_met_195 ⟨by omega, by omega⟩ ?_
                refine zA_istore (ls' := [some (zR 110), some (zI (c : Int)), some (zI v), some (zI w), some (zI x), some (zI (cc + 0)), some (zI f), some (zI (p : Int)), some (zI (((p / 6 : Nat) : Int))), some (zI (((p % 6 : Nat) : Int))), some (zI (xchG u n (μ 114) (μ 114 30) (p / 6) (p % 6) (p / 6 * 5 + c))), some (zI (xchG u n (μ 114) (μ 114 30) (p / 6) (p % 6) (p % 6 * 5 + c))), some (zI 0)]) dX9_met_196 rfl rfl ?_
                refine zA_iincB (ls' := [some (zR 110), some (zI (c : Int)), some (zI v), some (zI w), some (zI x), some (zI (cc + 0)), some (zI f), some (zI ((p : Int) + 1)), some (zI (((p / 6 : Nat) : Int))), some (zI (((p % 6 : Nat) : Int))), some (zI (xchG u n (μ 114) (μ 114 30) (p / 6) (p % 6) (p / 6 * 5 + c))), some (zI (xchG u n (μ 114) (μ 114 30) (p / 6) (p % 6) (p % 6 * 5 + c))), some (zI 0)]) dX9_met_198 rfl rfl ⟨by omega, by omega⟩ rfl ?_
                refine zA_goto (tgt := 48) dX9_met_201 rfl ?_
                refine zA_dr (ls' := [some (zR 110), some (zI (c : Int)), some (zI v), some (zI w), some (zI x), some (zI (cc + 0)), some (zI f), some (zI ((p : Int) + 1)), none, some (zI (((p % 6 : Nat) : Int))), some (zI (xchG u n (μ 114) (μ 114 30) (p / 6) (p % 6) (p / 6 * 5 + c))), some (zI (xchG u n (μ 114) (μ 114 30) (p / 6) (p % 6) (p % 6 * 5 + c))), some (zI 0)]) 8 rfl ?_
                refine zA_dr (ls' := [some (zR 110), some (zI (c : Int)), some (zI v), some (zI w), some (zI x), some (zI (cc + 0)), some (zI f), some (zI ((p : Int) + 1)), none, none, some (zI (xchG u n (μ 114) (μ 114 30) (p / 6) (p % 6) (p / 6 * 5 + c))), some (zI (xchG u n (μ 114) (μ 114 30) (p / 6) (p % 6) (p % 6 * 5 + c))), some (zI 0)]) 9 rfl ?_
                refine zA_dr (ls' := [some (zR 110), some (zI (c : Int)), some (zI v), some (zI w), some (zI x), some (zI (cc + 0)), some (zI f), some (zI ((p : Int) + 1)), none, none, none, some (zI (xchG u n (μ 114) (μ 114 30) (p / 6) (p % 6) (p % 6 * 5 + c))), some (zI 0)]) 10 rfl ?_
                refine zA_dr (ls' := [some (zR 110), some (zI (c : Int)), some (zI v), some (zI w), some (zI x), some (zI (cc + 0)), some (zI f), some (zI ((p : Int) + 1)), none, none, none, none, some (zI 0)]) 11 rfl ?_
                refine zA_dr (ls' := [some (zR 110), some (zI (c : Int)), some (zI v), some (zI w), some (zI x), some (zI (cc + 0)), some (zI f), some (zI ((p : Int) + 1)), none, none, none, none, none]) 12 rfl ?_
                have hs := mSt (q := (mQ m (mW u n (μ 114 30) (μ 114) c v w))) (p := p) h1 h2
                have hq := mQ_yes (m := m) (W := mW u n (μ 114 30) (μ 114) c v w) (p := p) (by omega)
                have hq2 : (mQ m (mW u n (μ 114 30) (μ 114) c v w)) p = false := by rw [hq]; unfold mW; rw [decide_eq_false_iff_not]; omega
                obtain ⟨g1, g2⟩ := hs.2 hq2
                exact ih _ (by omega) (p + 1) _ _ rfl (by omega) (by omega) g2 μ2 Fr
              · refine zA_iload dX9_met_145 rfl ?_
                refine zA_iload_n dX9_met_147 rfl ?_
                refine zA_icmp_ne (tgt := 155) dX9_met_148 rfl (fun h148 => ?_) (fun h148 => ?_)
                · refine zA_iconst dX9_met_155 rfl ?_
                  refine zA_istore (ls' := [some (zR 110), some (zI (c : Int)), some (zI v), some (zI w), some (zI x), some (zI cc), some (zI f), some (zI (p : Int)), some (zI (((p / 6 : Nat) : Int))), some (zI (((p % 6 : Nat) : Int))), some (zI (xchG u n (μ 114) (μ 114 30) (p / 6) (p % 6) (p / 6 * 5 + c))), some (zI (xchG u n (μ 114) (μ 114 30) (p / 6) (p % 6) (p % 6 * 5 + c))), some (zI 0)]) dX9_met_156 rfl rfl ?_
                  refine zA_iload dX9_met_158 rfl ?_
                  refine zA_if_eq (tgt := 179) dX9_met_160 rfl (fun h160 => ?_) (fun h160 => False.elim (by omega))
                  refine zA_iload dX9_met_179 rfl ?_
                  refine zA_istore (ls' := [some (zR 110), some (zI (c : Int)), some (zI v), some (zI w), some (zI x), some (zI cc), some (zI f), some (zI (p : Int)), some (zI (((p / 6 : Nat) : Int))), some (zI (((p % 6 : Nat) : Int))), some (zI (xchG u n (μ 114) (μ 114 30) (p / 6) (p % 6) (p / 6 * 5 + c))), some (zI (xchG u n (μ 114) (μ 114 30) (p / 6) (p % 6) (p % 6 * 5 + c))), some (zI 0)]) dX9_met_181 rfl rfl ?_
                  refine zA_iload dX9_met_183 rfl ?_
                  refine zA_iload dX9_met_185 rfl ?_
                  refine zA_if_eq (tgt := 194) dX9_met_187 rfl (fun h187 => ?_) (fun h187 => False.elim (by omega))
                  refine zA_iconst dX9_met_194 rfl ?_
                  refine zA_iaddB dX9_met_195 ⟨by omega, by omega⟩ ?_
                  refine zA_istore (ls' := [some (zR 110), some (zI (c : Int)), some (zI v), some (zI w), some (zI x), some (zI (cc + 0)), some (zI f), some (zI (p : Int)), some (zI (((p / 6 : Nat) : Int))), some (zI (((p % 6 : Nat) : Int))), some (zI (xchG u n (μ 114) (μ 114 30) (p / 6) (p % 6) (p / 6 * 5 + c))), some (zI (xchG u n (μ 114) (μ 114 30) (p / 6) (p % 6) (p % 6 * 5 + c))), some (zI 0)]) dX9_met_196 rfl rfl ?_
                  refine zA_iincB (ls' := [some (zR 110), some (zI (c : Int)), some (zI v), some (zI w), some (zI x), some (zI (cc + 0)), some (zI f), some (zI ((p : Int) + 1)), some (zI (((p / 6 : Nat) : Int))), some (zI (((p % 6 : Nat) : Int))), some (zI (xchG u n (μ 114) (μ 114 30) (p / 6) (p % 6) (p / 6 * 5 + c))), some (zI (xchG u n (μ 114) (μ 114 30) (p / 6) (p % 6) (p % 6 * 5 + c))), some (zI 0)]) dX9_met_198 rfl rfl ⟨by omega, by omega⟩ rfl ?_
                  refine zA_goto (tgt := 48) dX9_met_201 rfl ?_
                  refine zA_dr (ls' := [some (zR 110), some (zI (c : Int)), some (zI v), some (zI w), some (zI x), some (zI (cc + 0)), some (zI f), some (zI ((p : Int) + 1)), none, some (zI (((p % 6 : Nat) : Int))), some (zI (xchG u n (μ 114) (μ 114 30) (p / 6) (p % 6) (p / 6 * 5 + c))), some (zI (xchG u n (μ 114) (μ 114 30) (p / 6) (p % 6) (p % 6 * 5 + c))), some (zI 0)]) 8 rfl ?_
                  refine zA_dr (ls' := [some (zR 110), some (zI (c : Int)), some (zI v), some (zI w), some (zI x), some (zI (cc + 0)), some (zI f), some (zI ((p : Int) + 1)), none, none, some (zI (xchG u n (μ 114) (μ 114 30) (p / 6) (p % 6) (p / 6 * 5 + c))), some (zI (xchG u n (μ 114) (μ 114 30) (p / 6) (p % 6) (p % 6 * 5 + c))), some (zI 0)]) 9 rfl ?_
                  refine zA_dr (ls' := [some (zR 110), some (zI (c : Int)), some (zI v), some (zI w), some (zI x), some (zI (cc + 0)), some (zI f), some (zI ((p : Int) + 1)), none, none, none, some (zI (xchG u n (μ 114) (μ 114 30) (p / 6) (p % 6) (p % 6 * 5 + c))), some (zI 0)]) 10 rfl ?_
                  refine zA_dr (ls' := [some (zR 110), some (zI (c : Int)), some (zI v), some (zI w), some (zI x), some (zI (cc + 0)), some (zI f), some (zI ((p : Int) + 1)), none, none, none, none, some (zI 0)]) 11 rfl ?_
                  refine zA_dr (ls' := [some (zR 110), some (zI (c : Int)), some (zI v), some (zI w), some (zI x), some (zI (cc + 0)), some (zI f), some (zI ((p : Int) + 1)), none, none, none, none, none]) 12 rfl ?_
                  have hs := mSt (q := (mQ m (mW u n (μ 114 30) (μ 114) c v w))) (p := p) h1 h2
                  have hq := mQ_yes (m := m) (W := mW u n (μ 114 30) (μ 114) c v w) (p := p) (by omega)
                  have hq2 : (mQ m (mW u n (μ 114 30) (μ 114) c v w)) p = false := by rw [hq]; unfold mW; rw [decide_eq_false_iff_not]; omega
                  obtain ⟨g1, g2⟩ := hs.2 hq2
                  exact ih _ (by omega) (p + 1) _ _ rfl (by omega) (by omega) g2 μ2 Fr
                · refine zA_iconst dX9_met_151 rfl ?_
                  refine zA_goto (tgt := 156) dX9_met_152 rfl ?_
                  refine zA_istore (ls' := [some (zR 110), some (zI (c : Int)), some (zI v), some (zI w), some (zI x), some (zI cc), some (zI f), some (zI (p : Int)), some (zI (((p / 6 : Nat) : Int))), some (zI (((p % 6 : Nat) : Int))), some (zI (xchG u n (μ 114) (μ 114 30) (p / 6) (p % 6) (p / 6 * 5 + c))), some (zI (xchG u n (μ 114) (μ 114 30) (p / 6) (p % 6) (p % 6 * 5 + c))), some (zI 1)]) dX9_met_156 rfl rfl ?_
                  refine zA_iload dX9_met_158 rfl ?_
                  refine zA_if_eq (tgt := 179) dX9_met_160 rfl (fun h160 => False.elim (by omega)) fun h160 => ?_
                  refine zA_iload dX9_met_163 rfl ?_
                  refine zA_if_ne (tgt := 179) dX9_met_165 rfl (fun h165 => ?_) (fun h165 => ?_)
                  · refine zA_iload dX9_met_179 rfl ?_
                    refine zA_istore (ls' := [some (zR 110), some (zI (c : Int)), some (zI v), some (zI w), some (zI x), some (zI cc), some (zI f), some (zI (p : Int)), some (zI (((p / 6 : Nat) : Int))), some (zI (((p % 6 : Nat) : Int))), some (zI (xchG u n (μ 114) (μ 114 30) (p / 6) (p % 6) (p / 6 * 5 + c))), some (zI (xchG u n (μ 114) (μ 114 30) (p / 6) (p % 6) (p % 6 * 5 + c))), some (zI 1)]) dX9_met_181 rfl rfl ?_
                    refine zA_iload dX9_met_183 rfl ?_
                    refine zA_iload dX9_met_185 rfl ?_
                    refine zA_if_eq (tgt := 194) dX9_met_187 rfl (fun h187 => False.elim (by omega)) fun h187 => ?_
                    refine zA_iconst dX9_met_190 rfl ?_
                    refine zA_goto (tgt := 195) dX9_met_191 rfl ?_
                    refine zA_iaddB dX9_met_195 ⟨by omega, by omega⟩ ?_
                    refine zA_istore (ls' := [some (zR 110), some (zI (c : Int)), some (zI v), some (zI w), some (zI x), some (zI (cc + 1)), some (zI f), some (zI (p : Int)), some (zI (((p / 6 : Nat) : Int))), some (zI (((p % 6 : Nat) : Int))), some (zI (xchG u n (μ 114) (μ 114 30) (p / 6) (p % 6) (p / 6 * 5 + c))), some (zI (xchG u n (μ 114) (μ 114 30) (p / 6) (p % 6) (p % 6 * 5 + c))), some (zI 1)]) dX9_met_196 rfl rfl ?_
                    refine zA_iincB (ls' := [some (zR 110), some (zI (c : Int)), some (zI v), some (zI w), some (zI x), some (zI (cc + 1)), some (zI f), some (zI ((p : Int) + 1)), some (zI (((p / 6 : Nat) : Int))), some (zI (((p % 6 : Nat) : Int))), some (zI (xchG u n (μ 114) (μ 114 30) (p / 6) (p % 6) (p / 6 * 5 + c))), some (zI (xchG u n (μ 114) (μ 114 30) (p / 6) (p % 6) (p % 6 * 5 + c))), some (zI 1)]) dX9_met_198 rfl rfl ⟨by omega, by omega⟩ rfl ?_
                    refine zA_goto (tgt := 48) dX9_met_201 rfl ?_
                    refine zA_dr (ls' := [some (zR 110), some (zI (c : Int)), some (zI v), some (zI w), some (zI x), some (zI (cc + 1)), some (zI f), some (zI ((p : Int) + 1)), none, some (zI (((p % 6 : Nat) : Int))), some (zI (xchG u n (μ 114) (μ 114 30) (p / 6) (p % 6) (p / 6 * 5 + c))), some (zI (xchG u n (μ 114) (μ 114 30) (p / 6) (p % 6) (p % 6 * 5 + c))), some (zI 1)]) 8 rfl ?_
                    refine zA_dr (ls' := [some (zR 110), some (zI (c : Int)), some (zI v), some (zI w), some (zI x), some (zI (cc + 1)), some (zI f), some (zI ((p : Int) + 1)), none, none, some (zI (xchG u n (μ 114) (μ 114 30) (p / 6) (p % 6) (p / 6 * 5 + c))), some (zI (xchG u n (μ 114) (μ 114 30) (p / 6) (p % 6) (p % 6 * 5 + c))), some (zI 1)]) 9 rfl ?_
                    refine zA_dr (ls' := [some (zR 110), some (zI (c : Int)), some (zI v), some (zI w), some (zI x), some (zI (cc + 1)), some (zI f), some (zI ((p : Int) + 1)), none, none, none, some (zI (xchG u n (μ 114) (μ 114 30) (p / 6) (p % 6) (p % 6 * 5 + c))), some (zI 1)]) 10 rfl ?_
                    refine zA_dr (ls' := [some (zR 110), some (zI (c : Int)), some (zI v), some (zI w), some (zI x), some (zI (cc + 1)), some (zI f), some (zI ((p : Int) + 1)), none, none, none, none, some (zI 1)]) 11 rfl ?_
                    refine zA_dr (ls' := [some (zR 110), some (zI (c : Int)), some (zI v), some (zI w), some (zI x), some (zI (cc + 1)), some (zI f), some (zI ((p : Int) + 1)), none, none, none, none, none]) 12 rfl ?_
                    have hs := mSt (q := (mQ m (mW u n (μ 114 30) (μ 114) c v w))) (p := p) h1 h2
                    have hq := mQ_yes (m := m) (W := mW u n (μ 114 30) (μ 114) c v w) (p := p) (by omega)
                    have hq2 : (mQ m (mW u n (μ 114 30) (μ 114) c v w)) p = true := by rw [hq]; unfold mW; rw [decide_eq_true_eq]; omega
                    obtain ⟨g1, g2⟩ := hs.1 hq2
                    rw [if_neg h165] at g2
                    exact ih _ (by omega) (p + 1) _ _ rfl (by omega) g1 g2 μ2 Fr
                  · refine zA_bipush dX9_met_168 rfl ?_
                    refine zA_iload dX9_met_170 rfl ?_
                    refine zA_imulB dX9_met_172 ⟨by omega, by omega⟩ ?_
                    refine zA_iload dX9_met_173 rfl ?_
                    refine zA_iaddB dX9_met_175 ⟨by omega, by omega⟩ ?_
                    refine zA_goto (tgt := 181) dX9_met_176 rfl ?_
                    refine zA_istore (ls' := [some (zR 110), some (zI (c : Int)), some (zI v), some (zI w), some (zI x), some (zI cc), some (zI ((10 * (((p / 6 : Nat) : Int))) + (((p % 6 : Nat) : Int)))), some (zI (p : Int)), some (zI (((p / 6 : Nat) : Int))), some (zI (((p % 6 : Nat) : Int))), some (zI (xchG u n (μ 114) (μ 114 30) (p / 6) (p % 6) (p / 6 * 5 + c))), some (zI (xchG u n (μ 114) (μ 114 30) (p / 6) (p % 6) (p % 6 * 5 + c))), some (zI 1)]) dX9_met_181 rfl rfl ?_
                    refine zA_iload dX9_met_183 rfl ?_
                    refine zA_iload dX9_met_185 rfl ?_
                    refine zA_if_eq (tgt := 194) dX9_met_187 rfl (fun h187 => False.elim (by omega)) fun h187 => ?_
                    refine zA_iconst dX9_met_190 rfl ?_
                    refine zA_goto (tgt := 195) dX9_met_191 rfl ?_
                    refine zA_iaddB dX9_met_195 ⟨by omega, by omega⟩ ?_
                    refine zA_istore (ls' := [some (zR 110), some (zI (c : Int)), some (zI v), some (zI w), some (zI x), some (zI (cc + 1)), some (zI ((10 * (((p / 6 : Nat) : Int))) + (((p % 6 : Nat) : Int)))), some (zI (p : Int)), some (zI (((p / 6 : Nat) : Int))), some (zI (((p % 6 : Nat) : Int))), some (zI (xchG u n (μ 114) (μ 114 30) (p / 6) (p % 6) (p / 6 * 5 + c))), some (zI (xchG u n (μ 114) (μ 114 30) (p / 6) (p % 6) (p % 6 * 5 + c))), some (zI 1)]) dX9_met_196 rfl rfl ?_
                    refine zA_iincB (ls' := [some (zR 110), some (zI (c : Int)), some (zI v), some (zI w), some (zI x), some (zI (cc + 1)), some (zI ((10 * (((p / 6 : Nat) : Int))) + (((p % 6 : Nat) : Int)))), some (zI ((p : Int) + 1)), some (zI (((p / 6 : Nat) : Int))), some (zI (((p % 6 : Nat) : Int))), some (zI (xchG u n (μ 114) (μ 114 30) (p / 6) (p % 6) (p / 6 * 5 + c))), some (zI (xchG u n (μ 114) (μ 114 30) (p / 6) (p % 6) (p % 6 * 5 + c))), some (zI 1)]) dX9_met_198 rfl rfl ⟨by omega, by omega⟩ rfl ?_
                    refine zA_goto (tgt := 48) dX9_met_201 rfl ?_
                    refine zA_dr (ls' := [some (zR 110), some (zI (c : Int)), some (zI v), some (zI w), some (zI x), some (zI (cc + 1)), some (zI ((10 * (((p / 6 : Nat) : Int))) + (((p % 6 : Nat) : Int)))), some (zI ((p : Int) + 1)), none, some (zI (((p % 6 : Nat) : Int))), some (zI (xchG u n (μ 114) (μ 114 30) (p / 6) (p % 6) (p / 6 * 5 + c))), some (zI (xchG u n (μ 114) (μ 114 30) (p / 6) (p % 6) (p % 6 * 5 + c))), some (zI 1)]) 8 rfl ?_
                    refine zA_dr (ls' := [some (zR 110), some (zI (c : Int)), some (zI v), some (zI w), some (zI x), some (zI (cc + 1)), some (zI ((10 * (((p / 6 : Nat) : Int))) + (((p % 6 : Nat) : Int)))), some (zI ((p : Int) + 1)), none, none, some (zI (xchG u n (μ 114) (μ 114 30) (p / 6) (p % 6) (p / 6 * 5 + c))), some (zI (xchG u n (μ 114) (μ 114 30) (p / 6) (p % 6) (p % 6 * 5 + c))), some (zI 1)]) 9 rfl ?_
                    refine zA_dr (ls' := [some (zR 110), some (zI (c : Int)), some (zI v), some (zI w), some (zI x), some (zI (cc + 1)), some (zI ((10 * (((p / 6 : Nat) : Int))) + (((p % 6 : Nat) : Int)))), some (zI ((p : Int) + 1)), none, none, none, some (zI (xchG u n (μ 114) (μ 114 30) (p / 6) (p % 6) (p % 6 * 5 + c))), some (zI 1)]) 10 rfl ?_
                    refine zA_dr (ls' := [some (zR 110), some (zI (c : Int)), some (zI v), some (zI w), some (zI x), some (zI (cc + 1)), some (zI ((10 * (((p / 6 : Nat) : Int))) + (((p % 6 : Nat) : Int)))), some (zI ((p : Int) + 1)), none, none, none, none, some (zI 1)]) 11 rfl ?_
                    refine zA_dr (ls' := [some (zR 110), some (zI (c : Int)), some (zI v), some (zI w), some (zI x), some (zI (cc + 1)), some (zI ((10 * (((p / 6 : Nat) : Int))) + (((p % 6 : Nat) : Int)))), some (zI ((p : Int) + 1)), none, none, none, none, none]) 12 rfl ?_
                    have hs := mSt (q := (mQ m (mW u n (μ 114 30) (μ 114) c v w))) (p := p) h1 h2
                    have hq := mQ_yes (m := m) (W := mW u n (μ 114 30) (μ 114) c v w) (p := p) (by omega)
                    have hq2 : (mQ m (mW u n (μ 114 30) (μ 114) c v w)) p = true := by rw [hq]; unfold mW; rw [decide_eq_true_eq]; omega
                    obtain ⟨g1, g2⟩ := hs.1 hq2
                    rw [if_pos h165] at g2
                    exact ih _ (by omega) (p + 1) _ _ rfl (by omega) g1 g2 μ2 Fr
theorem c_X9_met (d : Nat) (μ : zM) (n m t : Nat) (u c v w x : Int) (hH : zMs μ n m t u) (hok : rOk n m (μ 114)) : zMet (d + 4) 0 yX9_met cX9_met 13 (some .int) TF μ [zR 110, zI c, zI v, zI w, zI x] (zPi (fun r ξ => qM μ ξ ∧ ((¬ (0 ≤ c ∧ c < n) ∧ r = -1000000001) ∨ ((0 ≤ c ∧ c < n) ∧ ¬ ((0 ≤ v ∧ v ≤ 60) ∧ (0 ≤ w ∧ w ≤ 60) ∧ (0 ≤ x ∧ x ≤ 1)) ∧ r = -1000000002) ∨ ((0 ≤ c ∧ c < n) ∧ ((0 ≤ v ∧ v ≤ 60) ∧ (0 ≤ w ∧ w ≤ 60) ∧ (0 ≤ x ∧ x ≤ 1)) ∧ r = (if x = 0 then (cN (mQ m (mW u n (μ 114 30) (μ 114) c.toNat v w)) 36 : Int) else mFv (fB (mQ m (mW u n (μ 114 30) (μ 114) c.toNat v w)) 36)))))) := by
  have hH0 := hH
  obtain ⟨hn, hu, hm, ht, hn5, hm6, ht10, hu1, hdk⟩ := hH0
  refine zMi_of RX9 rfl (by decide) rfl (ls := [some (zR 110), some (zI c), some (zI v), some (zI w), some (zI x), none, none, none, none, none, none, none, none]) rfl (fun hok0 => ?_)
  refine zA_aload_n dX9_met_0 rfl ?_
  refine zA_iload_n dX9_met_1 rfl ?_
  refine zA_cVb (st := []) kX9_191 t_110 rfl rfl (c_X9_isColour (d + 1) c μ (by omega)) rfl rfl rfl dX9_met_2 (zfit0 (by omega) rfl) (fun v1 μ1 q1 => ?_)
  obtain ⟨b1, rfl⟩ := q1
  rw [hn] at b1
  refine zA_ifb_ne (tgt := 11) dX9_met_5 rfl (fun h5 => ?_) (fun h5 => ?_)
  · have hb := b1.mp h5
    refine zA_iload_n dX9_met_11 rfl ?_
    refine zA_cSb (st := []) kX9_249 (c_X9_isParts (d + 1) v μ) rfl rfl rfl dX9_met_12 (zfit0 (by omega) rfl) (fun v2 μ2 q2 => ?_)
    obtain ⟨b2, rfl⟩ := q2
    refine zA_ifb_eq (tgt := 36) dX9_met_15 rfl (fun h15 => ?_) (fun h15 => ?_)
    · refine zA_ldc cX9_89 dX9_met_36 rfl ?_
      exact zA_ri dX9_met_38 ⟨qM.refl _, Or.inr (Or.inl ⟨hb, fun q => by first | (have := b2.mpr q.1; simp_all; done) | (have := b3.mpr q.2.1; simp_all; done) | (have := b4.mpr q.2.2; simp_all; done), rfl⟩)⟩
    · refine zA_iload_n dX9_met_18 rfl ?_
      refine zA_cSb (st := []) kX9_249 (c_X9_isParts (d + 1) w μ) rfl rfl rfl dX9_met_19 (zfit0 (by omega) rfl) (fun v3 μ3 q3 => ?_)
      obtain ⟨b3, rfl⟩ := q3
      refine zA_ifb_eq (tgt := 36) dX9_met_22 rfl (fun h22 => ?_) (fun h22 => ?_)
      · refine zA_ldc cX9_89 dX9_met_36 rfl ?_
        exact zA_ri dX9_met_38 ⟨qM.refl _, Or.inr (Or.inl ⟨hb, fun q => by first | (have := b2.mpr q.1; simp_all; done) | (have := b3.mpr q.2.1; simp_all; done) | (have := b4.mpr q.2.2; simp_all; done), rfl⟩)⟩
      · refine zA_iload dX9_met_25 rfl ?_
        refine zA_i2l dX9_met_27 ?_
        refine zA_lconst (v := 0) dX9_met_28 rfl rfl ?_
        refine zA_lconst (v := 1) dX9_met_29 rfl rfl ?_
        refine zA_cSb (st := []) kX9_81 (c_X9_in (d + 2) x 0 1 μ) rfl rfl rfl dX9_met_30 (zfit0 (by omega) rfl) (fun v4 μ4 q4 => ?_)
        obtain ⟨b4, rfl⟩ := q4
        refine zA_ifb_ne (tgt := 39) dX9_met_33 rfl (fun h33 => ?_) (fun h33 => ?_)
        · have hv : ((0 ≤ v ∧ v ≤ 60) ∧ (0 ≤ w ∧ w ≤ 60) ∧ (0 ≤ x ∧ x ≤ 1)) := ⟨b2.mp (by simpa using h15), b3.mp (by simpa using h22), b4.mp (by simpa using h33)⟩
          refine zA_iconst dX9_met_39 rfl ?_
          refine zA_istore (ls' := [some (zR 110), some (zI c), some (zI v), some (zI w), some (zI x), some (zI 0), none, none, none, none, none, none, none]) dX9_met_40 rfl rfl ?_
          refine zA_iconst dX9_met_42 rfl ?_
          refine zA_istore (ls' := [some (zR 110), some (zI c), some (zI v), some (zI w), some (zI x), some (zI 0), some (zI (-1)), none, none, none, none, none, none]) dX9_met_43 rfl rfl ?_
          refine zA_iconst dX9_met_45 rfl ?_
          refine zA_istore (ls' := [some (zR 110), some (zI c), some (zI v), some (zI w), some (zI x), some (zI 0), some (zI (-1)), some (zI 0), none, none, none, none, none]) dX9_met_46 rfl rfl ?_
          obtain ⟨c, rfl⟩ := Int.eq_ofNat_of_zero_le hb.1
          exact zAi_mono (l_X9_met d μ n m t c u v w x hH hok (by omega) _ 0 0 (-1) rfl (by omega) rfl rfl μ (fun _ _ _ => rfl)) (fun r ξ h => ⟨⟨fun k _ h2 _ h4 _ _ => h.2 k h4 h2, fun i _ _ => by rw [h.2 110 (by decide) (by decide)]⟩, Or.inr (Or.inr ⟨hb, hv, h.1⟩)⟩)
        · refine zA_ldc cX9_89 dX9_met_36 rfl ?_
          exact zA_ri dX9_met_38 ⟨qM.refl _, Or.inr (Or.inl ⟨hb, fun q => by first | (have := b2.mpr q.1; simp_all; done) | (have := b3.mpr q.2.1; simp_all; done) | (have := b4.mpr q.2.2; simp_all; done), rfl⟩)⟩
  · refine zA_ldc cX9_194 dX9_met_8 rfl ?_
    exact zA_ri dX9_met_10 ⟨qM.refl _, Or.inl ⟨fun q => by have := b1.mpr q; simp_all, rfl⟩⟩
theorem pr_met (μ : zM) (c v w x : Int) (n m t : Nat) (u : Int) (hI : zInv μ n m t u) : zPair yX8_met cX8_met 9 yX9_met cX9_met 13 [zI c, zI v, zI w, zI x] μ := by
  obtain ⟨hn, hu, hm, ht0, hn5, hm6, ht10, hu1, hdk⟩ := hI.1.1
  have hg : μ 52 1 = μ 114 30 := hI.2.1.2.2.1
  refine zPair_q hI (if (0 ≤ c ∧ c < n) then (if ((0 ≤ v ∧ v ≤ 60) ∧ (0 ≤ w ∧ w ≤ 60) ∧ (0 ≤ x ∧ x ≤ 1)) then (if x = 0 then (cN (mQ m (mW u n (μ 114 30) (μ 114) c.toNat v w)) 36 : Int) else mFv (fB (mQ m (mW u n (μ 114 30) (μ 114) c.toNat v w)) 36)) else -1000000002) else -1000000001) (zMi_mono (c_X8_met 15 μ n m t u c v w x hI.1.1 hI.2.1.2.1) ?_) (fun ν hq hν => zMi_mono (c_X9_met 16 ν n m t u c v w x hν.1.2.1 hν.mrow) ?_)
  · rintro r ν ⟨hq, h⟩
    refine ⟨?_, hq⟩
    rcases h with ⟨h1, rfl⟩ | ⟨h1, h2, rfl⟩ | ⟨h1, h2, hr⟩
    · rw [if_neg h1]
    · rw [if_pos h1, if_neg h2]
    · rw [hr, if_pos h1, if_pos h2, hg]
      have hQ : ∀ p, (mQ m (mW u n (μ 114 30) (μ 53) c.toNat v w)) p = (mQ m (mW u n (μ 114 30) (μ 114) c.toNat v w)) p := mQ_congr hm6 (fun a b ha hb => mW_congrL hn5 (by omega) ha hb hI.row)
      rw [cN_congr (fun j _ => hQ j), fB_congr (fun j _ => hQ j)]
  · rintro r ξ ⟨hx, h⟩
    refine ⟨?_, hx⟩
    have e114 : ν 114 = μ 114 := hq 114 (by unfold cScr; omega)
    rw [e114] at h
    rcases h with ⟨h1, rfl⟩ | ⟨h1, h2, rfl⟩ | ⟨h1, h2, hr⟩
    · rw [if_neg h1]
    · rw [if_pos h1, if_neg h2]
    · rw [hr, if_pos h1, if_pos h2]
