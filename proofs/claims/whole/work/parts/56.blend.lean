/-! ===== bits, blend ===== -/
def bQ (s : Int) (i : Nat) : Bool := decide (zbit s (i : Int) = 1)
theorem bQ_test {n i : Nat} (hn : n < 2 ^ 31) (hi : i < 32) : bQ (n : Int) i = n.testBit i := by
  rw [Bool.eq_iff_iff, bQ, decide_eq_true_eq]
  exact zbit_test hn hi
theorem bQ_hi {n m i : Nat} (hn : n < 2 ^ m) (hm : m ≤ i) (hi : i < 31) : bQ (n : Int) i = false := by
  have h1 : 2 ^ m ≤ 2 ^ i := Nat.pow_le_pow_right (by decide) hm
  have h2 : 2 ^ i ≤ 2 ^ 31 := Nat.pow_le_pow_right (by decide) (by omega)
  rw [bQ_test (by omega) (by omega), Nat.testBit_lt_two_pow (by omega)]
theorem pop_12 {n m : Nat} (hn : n < 2 ^ m) (hm : m ≤ 12) : cN (bQ (n : Int)) 12 = cN (bQ (n : Int)) m := by
  have := cN_skip (q := bQ (n : Int)) (p := m) (12 - m) (fun i h1 h2 => bQ_hi hn h1 (by omega))
  rw [show m + (12 - m) = 12 by omega] at this
  exact this
theorem cN_0 {q : Nat → Bool} : ∀ {p : Nat}, cN q p = 0 → ∀ i, i < p → q i = false
  | 0, _, i, hi => by omega
  | p + 1, h, i, hi => by
    simp only [cN] at h
    cases hq : q p with
    | true => rw [hq] at h; simp only [if_true] at h; omega
    | false =>
      rw [hq] at h
      simp only [Bool.false_eq_true, if_false] at h
      by_cases e : i = p
      · rw [e]; exact hq
      · exact cN_0 h i (by omega)
theorem pop_0 {n m : Nat} (hn : n < 2 ^ m) (hm : m ≤ 12) : cN (bQ (n : Int)) m = 0 ↔ n = 0 := by
  have hp : 2 ^ m ≤ 2 ^ 12 := Nat.pow_le_pow_right (by decide) hm
  refine ⟨fun h => Nat.eq_of_testBit_eq (fun i => ?_), fun h => ?_⟩
  · rw [Nat.zero_testBit]
    by_cases hi : i < m
    · rw [← bQ_test (by omega) (by omega)]; exact cN_0 h i hi
    · exact Nat.testBit_lt_two_pow (Nat.lt_of_lt_of_le hn (Nat.pow_le_pow_right (by decide) (by omega)))
  · subst h
    rw [show m = 0 + m by omega]
    exact cN_skip (q := bQ ((0 : Nat) : Int)) m (fun i h1 h2 => bQ_hi (m := 0) (by decide) (by omega) (by omega))
def b1 (x : Int) : Int := zwi (x - zand (zushr x 1) 1431655765)
def b2 (y : Int) : Int := zwi (zand y 858993459 + zand (zushr y 2) 858993459)
def b3 (y : Int) : Int := zand (zwi (y + zushr y 4)) 252645135
def b4 (y : Int) : Int := zwi (y + zushr y 8)
def b5 (y : Int) : Int := zwi (y + zushr y 16)
def b6 (y : Int) : Int := zand y 63
theorem b_all : ∀ a : Nat, a < 32 → ∀ b : Nat, b < 64 → b6 (b5 (b4 (b3 (b2 (b1 (((64 * a + b : Nat)) : Int)))))) = (cN (bQ ((64 * a + b : Nat) : Int)) 12 : Int) := by decide +kernel
theorem b_pop {n : Nat} (h : n < 2048) : b6 (b5 (b4 (b3 (b2 (b1 (n : Int)))))) = (cN (bQ (n : Int)) 12 : Int) := by
  have := b_all (n / 64) (by omega) (n % 64) (by omega)
  rw [show 64 * (n / 64) + n % 64 = n by omega] at this
  exact this
theorem c_bitCount (d n : Nat) (μ : zM) (hn : n < 2048) : zMet (d + 1) 0 yJ6_bitCount_0f7a4 cJ6_bitCount_0f7a4 1 (some .int) TF μ [zI (n : Int)] (zPi (fun v ν => v = (cN (bQ (n : Int)) 12 : Int) ∧ μ = ν)) := by
  refine zMi_of RJ6 rfl (by decide) rfl (ls := [some (zI (n : Int))]) rfl (fun hok => ?_)
  refine zA_iload_n dJ6_bitCount_0f7a4_0 rfl ?_
  refine zA_iload_n dJ6_bitCount_0f7a4_1 rfl ?_
  refine zA_iconst dJ6_bitCount_0f7a4_2 rfl ?_
  refine zA_iushr dJ6_bitCount_0f7a4_3 ?_
  refine zA_ldcw cJ6_265 dJ6_bitCount_0f7a4_4 rfl ?_
  refine zA_iand dJ6_bitCount_0f7a4_7 ?_
  refine zA_isub dJ6_bitCount_0f7a4_8 ?_
  refine zA_istore_n (ls' := [some (zI (zwi ((n : Int) - (zand (zushr (n : Int) 1) 1431655765))))]) dJ6_bitCount_0f7a4_9 rfl rfl ?_
  show zA RJ6 cJ6_bitCount_0f7a4 1 (zRm (d + 1) 0) zN0 TF 0 μ 10 [some (zI (b1 (n : Int)))] [] _
  refine zA_iload_n dJ6_bitCount_0f7a4_10 rfl ?_
  refine zA_ldcw cJ6_266 dJ6_bitCount_0f7a4_11 rfl ?_
  refine zA_iand dJ6_bitCount_0f7a4_14 ?_
  refine zA_iload_n dJ6_bitCount_0f7a4_15 rfl ?_
  refine zA_iconst dJ6_bitCount_0f7a4_16 rfl ?_
  refine zA_iushr dJ6_bitCount_0f7a4_17 ?_
  refine zA_ldcw cJ6_266 dJ6_bitCount_0f7a4_18 rfl ?_
  refine zA_iand dJ6_bitCount_0f7a4_21 ?_
  refine zA_iadd dJ6_bitCount_0f7a4_22 ?_
  refine zA_istore_n (ls' := [some (zI (zwi ((zand (b1 (n : Int)) 858993459) + (zand (zushr (b1 (n : Int)) 2) 858993459))))]) dJ6_bitCount_0f7a4_23 rfl rfl ?_
  show zA RJ6 cJ6_bitCount_0f7a4 1 (zRm (d + 1) 0) zN0 TF 0 μ 24 [some (zI (b2 (b1 (n : Int))))] [] _
  refine zA_iload_n dJ6_bitCount_0f7a4_24 rfl ?_
  refine zA_iload_n dJ6_bitCount_0f7a4_25 rfl ?_
  refine zA_iconst dJ6_bitCount_0f7a4_26 rfl ?_
  refine zA_iushr dJ6_bitCount_0f7a4_27 ?_
  refine zA_iadd dJ6_bitCount_0f7a4_28 ?_
  refine zA_ldcw cJ6_267 dJ6_bitCount_0f7a4_29 rfl ?_
  refine zA_iand dJ6_bitCount_0f7a4_32 ?_
  refine zA_istore_n (ls' := [some (zI (zand (zwi ((b2 (b1 (n : Int))) + (zushr (b2 (b1 (n : Int))) 4))) 252645135))]) dJ6_bitCount_0f7a4_33 rfl rfl ?_
  show zA RJ6 cJ6_bitCount_0f7a4 1 (zRm (d + 1) 0) zN0 TF 0 μ 34 [some (zI (b3 (b2 (b1 (n : Int)))))] [] _
  refine zA_iload_n dJ6_bitCount_0f7a4_34 rfl ?_
  refine zA_iload_n dJ6_bitCount_0f7a4_35 rfl ?_
  refine zA_bipush dJ6_bitCount_0f7a4_36 rfl ?_
  refine zA_iushr dJ6_bitCount_0f7a4_38 ?_
  refine zA_iadd dJ6_bitCount_0f7a4_39 ?_
  refine zA_istore_n (ls' := [some (zI (zwi ((b3 (b2 (b1 (n : Int)))) + (zushr (b3 (b2 (b1 (n : Int)))) 8))))]) dJ6_bitCount_0f7a4_40 rfl rfl ?_
  show zA RJ6 cJ6_bitCount_0f7a4 1 (zRm (d + 1) 0) zN0 TF 0 μ 41 [some (zI (b4 (b3 (b2 (b1 (n : Int))))))] [] _
  refine zA_iload_n dJ6_bitCount_0f7a4_41 rfl ?_
  refine zA_iload_n dJ6_bitCount_0f7a4_42 rfl ?_
  refine zA_bipush dJ6_bitCount_0f7a4_43 rfl ?_
  refine zA_iushr dJ6_bitCount_0f7a4_45 ?_
  refine zA_iadd dJ6_bitCount_0f7a4_46 ?_
  refine zA_istore_n (ls' := [some (zI (zwi ((b4 (b3 (b2 (b1 (n : Int))))) + (zushr (b4 (b3 (b2 (b1 (n : Int))))) 16))))]) dJ6_bitCount_0f7a4_47 rfl rfl ?_
  show zA RJ6 cJ6_bitCount_0f7a4 1 (zRm (d + 1) 0) zN0 TF 0 μ 48 [some (zI (b5 (b4 (b3 (b2 (b1 (n : Int)))))))] [] _
  refine zA_iload_n dJ6_bitCount_0f7a4_48 rfl ?_
  refine zA_bipush dJ6_bitCount_0f7a4_49 rfl ?_
  refine zA_iand dJ6_bitCount_0f7a4_51 ?_
  exact zA_ri dJ6_bitCount_0f7a4_52 ⟨b_pop hn, rfl⟩
theorem bQ_add (s : Int) (k : Nat) : (cN (bQ s) k : Int) + zbit s (k : Int) = (cN (bQ s) (k + 1) : Int) := by
  simp only [cN]
  rcases zbit_01 s k with h | h
  · have hq : bQ s k = false := decide_eq_false (by omega)
    rw [hq, h]; simp
  · have hq : bQ s k = true := decide_eq_true h
    rw [hq, h]; simp
theorem l_X9_bits (d : Nat) (s : Int) (μ : zM) : ∀ (t0 k : Nat), 12 - k = t0 → k ≤ 12 → zA RX9 cX9_bits 3 (zRm (d + 1) 0) zN0 TF 0 μ 4 [some (zI s), some (zI ((cN (bQ s) k : Int))), some (zI (k : Int))] [] (zPi (fun v ν => v = (cN (bQ s) 12 : Int) ∧ μ = ν)) := by
  intro t0
  induction t0 using Nat.strongRecOn with
  | ind t0 ih =>
    intro k hk hk12
    have hle := cN_le (bQ s) (k + 1)
    have hle0 := cN_le (bQ s) k
    have hb := zbit_01 s k
    refine zA_iload_n dX9_bits_4 rfl ?_
    refine zA_bipush dX9_bits_5 rfl ?_
    refine zA_icmp_ge (tgt := 24) dX9_bits_7 rfl (fun h7 => ?_) (fun h7 => ?_)
    · refine zA_iload_n dX9_bits_24 rfl ?_
      exact zA_ri dX9_bits_25 ⟨by rw [show (12 : Nat) = k by omega], rfl⟩
    · refine zA_iload_n dX9_bits_10 rfl ?_
      refine zA_iload_n dX9_bits_11 rfl ?_
      refine zA_iload_n dX9_bits_12 rfl ?_
      refine zA_ishr dX9_bits_13 ?_
      refine zA_iconst dX9_bits_14 rfl ?_
      refine zA_iandE (w := zbit s (k : Int)) dX9_bits_15 rfl ?_
      refine zA_iaddE (w := (cN (bQ s) (k + 1) : Int)) dX9_bits_16 ⟨by omega, by omega⟩ (bQ_add s k) ?_
      refine zA_istore_n (ls' := [some (zI s), some (zI ((cN (bQ s) (k + 1) : Int))), some (zI (k : Int))]) dX9_bits_17 rfl rfl ?_
      refine zA_iincB (ls' := [some (zI s), some (zI ((cN (bQ s) (k + 1) : Int))), some (zI ((k : Int) + 1))]) dX9_bits_18 rfl rfl ⟨by omega, by omega⟩ rfl ?_
      refine zA_goto (tgt := 4) dX9_bits_21 rfl ?_
      exact ih _ (by omega) (k + 1) rfl (by omega)
theorem c_X9_bits (d : Nat) (s : Int) (μ : zM) : zMet (d + 1) 0 yX9_bits cX9_bits 3 (some .int) TF μ [zI s] (zPi (fun v ν => v = (cN (bQ s) 12 : Int) ∧ μ = ν)) := by
  refine zMi_of RX9 rfl (by decide) rfl (ls := [some (zI s), none, none]) rfl (fun hok => ?_)
  refine zA_iconst dX9_bits_0 rfl ?_
  refine zA_istore_n (ls' := [some (zI s), some (zI 0), none]) dX9_bits_1 rfl rfl ?_
  refine zA_iconst dX9_bits_2 rfl ?_
  refine zA_istore_n (ls' := [some (zI s), some (zI 0), some (zI 0)]) dX9_bits_3 rfl rfl ?_
  exact l_X9_bits d s μ _ 0 rfl (by omega)
def bS (row : Nat → Int) (q : Nat → Bool) (c : Nat) : Nat → Int
  | 0 => 0
  | a + 1 => if q a = true then bS row q c a + row (a * 5 + c) else bS row q c a
theorem bS_rg {row : Nat → Int} {q : Nat → Bool} {c n m : Nat} (hc : c < n) (h : rOk n m row) : ∀ a, a ≤ m → 0 ≤ bS row q c a ∧ bS row q c a ≤ 60 * a
  | 0, _ => by simp [bS]
  | a + 1, ha => by
    have ih := bS_rg (q := q) hc h a (by omega)
    have h1 : 0 ≤ row (a * 5 + c) := (h a (by omega)).1 c hc
    have h2 : row (a * 5 + c) ≤ 60 := gOk_le (h a (by omega)) hc
    simp only [bS]
    split <;> omega
theorem bS_congr {n m : Nat} {row row' : Nat → Int} {q : Nat → Bool} {c : Nat} (hc : c < n ∧ c < 5) (h : ∀ i, lv n m i → row i = row' i) : ∀ a, a ≤ m → bS row q c a = bS row' q c a
  | 0, _ => rfl
  | a + 1, ha => by
    simp only [bS]
    rw [bS_congr hc h a (by omega), h _ (by omega)]
theorem l_X8_blend (d : Nat) (μ : zM) (n m s c : Nat) (hm : μ 1 8 = m) (hm6 : m ≤ 6) (hn5 : n ≤ 5) (hc : c < n) (hok : rOk n m (μ 53)) (hs : s < 2 ^ m) : ∀ (t0 a : Nat), m - a = t0 → a ≤ m → zA RX8 cX8_blend 6 (zRm (d + 2) 0) zN0 TF 0 μ 38 [some (zR 0), some (zI (s : Int)), some (zI (c : Int)), some (zI (bS (μ 53) (bQ (s : Int)) c a)), some (zI ((cN (bQ (s : Int)) a : Int))), some (zI (a : Int))] [] (zPi (fun w ξ => w = (if s = 0 then (-1 : Int) else bS (μ 53) (bQ (s : Int)) c m / (cN (bQ (s : Int)) m : Int)) ∧ μ = ξ)) := by
  intro t0
  induction t0 using Nat.strongRecOn with
  | ind t0 ih =>
    intro a hk ham
    refine zA_iload dX8_blend_38 rfl ?_
    refine zA_aload_n dX8_blend_40 rfl ?_
    refine zA_getR fX8_12 t_0 rfl dX8_blend_41 ?_
    refine zA_getE (w := (m : Int)) fX8_111 t_1 dX8_blend_44 hm ?_
    refine zA_icmp_ge (tgt := 85) dX8_blend_47 rfl (fun h47 => ?_) (fun h47 => ?_)
    · obtain rfl : a = m := by omega
      have hrg := bS_rg (q := (bQ (s : Int))) hc hok a (by omega)
      have hp0 := pop_0 hs (by omega)
      refine zA_iload dX8_blend_85 rfl ?_
      refine zA_if_ne (tgt := 94) dX8_blend_87 rfl (fun h87 => ?_) (fun h87 => ?_)
      · refine zA_iload_n dX8_blend_94 rfl ?_
        refine zA_iload dX8_blend_95 rfl ?_
        refine zA_idivB dX8_blend_97 (by omega) (by omega) ?_
        exact zA_ri dX8_blend_98 ⟨by rw [if_neg (by omega)], rfl⟩
      · refine zA_iconst dX8_blend_90 rfl ?_
        refine zA_goto (tgt := 98) dX8_blend_91 rfl ?_
        exact zA_ri dX8_blend_98 ⟨by rw [if_pos (by omega)], rfl⟩
    · have hrg := bS_rg (q := (bQ (s : Int))) hc hok a (by omega)
      have hle := cN_le (bQ (s : Int)) a
      have hx1 : 0 ≤ μ 53 (a * 5 + c) := (hok a (by omega)).1 c hc
      have hx2 : μ 53 (a * 5 + c) ≤ 60 := gOk_le (hok a (by omega)) hc
      refine zA_iload_n dX8_blend_50 rfl ?_
      refine zA_iload dX8_blend_51 rfl ?_
      refine zA_cSb (st := []) kX8_189 (c_X8_isIn d (s : Int) (a : Int) μ) rfl rfl rfl dX8_blend_53 (zfit0 (by omega) rfl) (fun v1 μ1 q1 => ?_)
      obtain ⟨b1, rfl⟩ := q1
      refine zA_ifb_eq (tgt := 79) dX8_blend_56 rfl (fun h56 => ?_) (fun h56 => ?_)
      · refine zA_iincB (ls' := [some (zR 0), some (zI (s : Int)), some (zI (c : Int)), some (zI (bS (μ 53) (bQ (s : Int)) c a)), some (zI ((cN (bQ (s : Int)) a : Int))), some (zI ((a : Int) + 1))]) dX8_blend_79 rfl rfl ⟨by omega, by omega⟩ rfl ?_
        refine zA_goto (tgt := 38) dX8_blend_82 rfl ?_
        have hq : (bQ (s : Int)) a = false := decide_eq_false (fun q => by have := b1.mpr q; simp_all)
        refine zA_leq (ls' := [some (zR 0), some (zI (s : Int)), some (zI (c : Int)), some (zI (bS (μ 53) (bQ (s : Int)) c (a + 1))), some (zI ((cN (bQ (s : Int)) (a + 1) : Int))), some (zI ((a : Int) + 1))]) (by simp only [bS, cN, hq, Bool.false_eq_true, if_false]) ?_
        exact ih _ (by omega) (a + 1) rfl (by omega)
      · refine zA_iload_n dX8_blend_59 rfl ?_
        refine zA_aload_n dX8_blend_60 rfl ?_
        refine zA_getR fX8_47 t_0 rfl dX8_blend_61 ?_
        refine zA_getR fX8_144 t_52 rfl dX8_blend_64 ?_
        refine zA_iload dX8_blend_67 rfl ?_
        refine zA_iload_n dX8_blend_69 rfl ?_
        refine zA_cSi (st := [zR 53, zI (bS (μ 53) (bQ (s : Int)) c a)]) kX8_147 (c_X8_cell d (a : Int) (c : Int) μ (by omega) (by omega)) rfl rfl rfl dX8_blend_70 (zfit0 (by omega) rfl) (fun v2 μ2 q2 => ?_)
        obtain ⟨rfl, rfl⟩ := q2
        refine zA_ialE (w := μ 53 (a * 5 + c)) (j := a * 5 + c) t_53 (by omega) (by omega) dX8_blend_73 rfl rfl ?_
        refine zA_iaddB dX8_blend_74 ⟨by omega, by omega⟩ ?_
        refine zA_istore_n (ls' := [some (zR 0), some (zI (s : Int)), some (zI (c : Int)), some (zI ((bS (μ 53) (bQ (s : Int)) c a) + (μ 53 (a * 5 + c)))), some (zI ((cN (bQ (s : Int)) a : Int))), some (zI (a : Int))]) dX8_blend_75 rfl rfl ?_
        refine zA_iincB (ls' := [some (zR 0), some (zI (s : Int)), some (zI (c : Int)), some (zI ((bS (μ 53) (bQ (s : Int)) c a) + (μ 53 (a * 5 + c)))), some (zI ((cN (bQ (s : Int)) a : Int) + 1)), some (zI (a : Int))]) dX8_blend_76 rfl rfl ⟨by omega, by omega⟩ rfl ?_
        refine zA_iincB (ls' := [some (zR 0), some (zI (s : Int)), some (zI (c : Int)), some (zI ((bS (μ 53) (bQ (s : Int)) c a) + (μ 53 (a * 5 + c)))), some (zI ((cN (bQ (s : Int)) a : Int) + 1)), some (zI ((a : Int) + 1))]) dX8_blend_79 rfl rfl ⟨by omega, by omega⟩ rfl ?_
        refine zA_goto (tgt := 38) dX8_blend_82 rfl ?_
        have hq : (bQ (s : Int)) a = true := decide_eq_true (b1.mp (by simpa using h56))
        refine zA_leq (ls' := [some (zR 0), some (zI (s : Int)), some (zI (c : Int)), some (zI (bS (μ 53) (bQ (s : Int)) c (a + 1))), some (zI ((cN (bQ (s : Int)) (a + 1) : Int))), some (zI ((a : Int) + 1))]) (by simp only [bS, cN, hq, if_true, Int.natCast_add, Int.cast_ofNat_Int]) ?_
        exact ih _ (by omega) (a + 1) rfl (by omega)
theorem zshr_0 {s : Int} {m : Nat} (h0 : 0 ≤ s) (hr : zr s) (hm : m < 32) : zshr s (m : Int) = 0 ↔ s < ((2 ^ m : Nat) : Int) := by
  obtain ⟨s, rfl⟩ := Int.eq_ofNat_of_zero_le h0
  have h31 : s < 2 ^ 31 := by have := hr.2; omega
  rw [zshr_nat h31 hm]
  have hp : 0 < 2 ^ m := Nat.pow_pos (by decide)
  have := Nat.div_eq_zero_iff (a := s) (b := 2 ^ m)
  omega
theorem c_X8_blend (d : Nat) (μ : zM) (n m t : Nat) (u s c : Int) (hH : zHs μ n m t u) (hok : rOk n m (μ 53)) : zMet (d + 2) 0 yX8_blend cX8_blend 6 (some .int) TF μ [zR 0, zI s, zI c] (zPi (fun w ξ => (¬ ((0 ≤ s ∧ s < ((2 ^ m : Nat) : Int)) ∧ (0 ≤ c ∧ c < n)) → w = -1000000001 ∧ μ = ξ) ∧ (((0 ≤ s ∧ s < ((2 ^ m : Nat) : Int)) ∧ (0 ≤ c ∧ c < n)) → w = (if s.toNat = 0 then (-1 : Int) else bS (μ 53) (bQ (s.toNat : Int)) c.toNat m / (cN (bQ (s.toNat : Int)) m : Int)) ∧ μ = ξ))) := by
  have hH0 := hH
  obtain ⟨hn, hu, hm, ht, hn5, hm6, ht10, hu1, hdk⟩ := hH0
  refine zMi_of RX8 rfl (by decide) rfl (ls := [some (zR 0), some (zI s), some (zI c), none, none, none]) rfl (fun hok0 => ?_)
  have hr : zr s := hok0 _ (List.mem_cons_of_mem _ (List.mem_cons_self ..))
  refine zA_iload_n dX8_blend_0 rfl ?_
  refine zA_if_lt (tgt := 27) dX8_blend_1 rfl (fun h1 => ?_) (fun h1 => ?_)
  · refine zA_ldc cX8_151 dX8_blend_27 rfl ?_
    exact zA_ri dX8_blend_29 ⟨fun _ => ⟨rfl, rfl⟩, fun q => False.elim (by first | omega | (have := b1.mpr q.2; simp_all; done))⟩
  · have hsl := zshr_0 (m := m) (show 0 ≤ s by omega) hr (by omega)
    refine zA_iload_n dX8_blend_4 rfl ?_
    refine zA_aload_n dX8_blend_5 rfl ?_
    refine zA_getR fX8_12 t_0 rfl dX8_blend_6 ?_
    refine zA_getE (w := (m : Int)) fX8_111 t_1 dX8_blend_9 hm ?_
    refine zA_ishr dX8_blend_12 ?_
    refine zA_if_ne (tgt := 27) dX8_blend_13 rfl (fun h13 => ?_) (fun h13 => ?_)
    · refine zA_ldc cX8_151 dX8_blend_27 rfl ?_
      exact zA_ri dX8_blend_29 ⟨fun _ => ⟨rfl, rfl⟩, fun q => False.elim (by first | omega | (have := b1.mpr q.2; simp_all; done))⟩
    · refine zA_aload_n dX8_blend_16 rfl ?_
      refine zA_getR fX8_12 t_0 rfl dX8_blend_17 ?_
      refine zA_iload_n dX8_blend_20 rfl ?_
      refine zA_cVb (st := []) kX8_215 t_1 rfl rfl (c_X2_hasColour d c μ) rfl rfl rfl dX8_blend_21 (zfit0 (by omega) rfl) (fun v1 μ1 q1 => ?_)
      obtain ⟨b1, rfl⟩ := q1
      rw [hn] at b1
      refine zA_ifb_ne (tgt := 30) dX8_blend_24 rfl (fun h24 => ?_) (fun h24 => ?_)
      · refine zA_iconst dX8_blend_30 rfl ?_
        refine zA_istore_n (ls' := [some (zR 0), some (zI s), some (zI c), some (zI 0), none, none]) dX8_blend_31 rfl rfl ?_
        refine zA_iconst dX8_blend_32 rfl ?_
        refine zA_istore (ls' := [some (zR 0), some (zI s), some (zI c), some (zI 0), some (zI 0), none]) dX8_blend_33 rfl rfl ?_
        refine zA_iconst dX8_blend_35 rfl ?_
        refine zA_istore (ls' := [some (zR 0), some (zI s), some (zI c), some (zI 0), some (zI 0), some (zI 0)]) dX8_blend_36 rfl rfl ?_
        have hc1 := b1.mp h24
        have hs1 : s < ((2 ^ m : Nat) : Int) := hsl.mp (by omega)
        obtain ⟨s, rfl⟩ := Int.eq_ofNat_of_zero_le (show 0 ≤ s by omega)
        obtain ⟨c, rfl⟩ := Int.eq_ofNat_of_zero_le hc1.1
        exact zAi_mono (l_X8_blend d μ n m s c hm hm6 hn5 (by omega) hok (by omega) _ 0 rfl (by omega)) (fun w ξ h => ⟨fun q => absurd ⟨⟨by omega, hs1⟩, hc1⟩ q, fun _ => h⟩)
      · refine zA_ldc cX8_151 dX8_blend_27 rfl ?_
        exact zA_ri dX8_blend_29 ⟨fun _ => ⟨rfl, rfl⟩, fun q => False.elim (by first | omega | (have := b1.mpr q.2; simp_all; done))⟩
theorem l_X9_blend (d : Nat) (μ : zM) (n m s c : Nat) (hm : μ 110 2 = m) (hm6 : m ≤ 6) (hn5 : n ≤ 5) (hc : c < n) (hok : rOk n m (μ 114)) (hs : s < 2 ^ m) : ∀ (t0 a : Nat), m - a = t0 → a ≤ m → zA RX9 cX9_blend 5 (zRm (d + 2) 0) zN0 TF 0 μ 34 [some (zR 110), some (zI (s : Int)), some (zI (c : Int)), some (zI (bS (μ 114) (bQ (s : Int)) c a)), some (zI (a : Int))] [] (zPi (fun w ξ => w = (if s = 0 then (-1 : Int) else bS (μ 114) (bQ (s : Int)) c m / (cN (bQ (s : Int)) m : Int)) ∧ μ = ξ)) := by
  intro t0
  induction t0 using Nat.strongRecOn with
  | ind t0 ih =>
    intro a hk ham
    refine zA_iload dX9_blend_34 rfl ?_
    refine zA_aload_n dX9_blend_36 rfl ?_
    refine zA_getE (w := (m : Int)) fX9_78 t_110 dX9_blend_37 hm ?_
    refine zA_icmp_ge (tgt := 76) dX9_blend_40 rfl (fun h40 => ?_) (fun h40 => ?_)
    · obtain rfl : a = m := by omega
      have hrg := bS_rg (q := (bQ (s : Int))) hc hok a (by omega)
      have hp0 := pop_0 hs (by omega)
      have hp12 := pop_12 hs (by omega)
      refine zA_iload_n dX9_blend_76 rfl ?_
      refine zA_if_ne (tgt := 84) dX9_blend_77 rfl (fun h77 => ?_) (fun h77 => ?_)
      · refine zA_iload_n dX9_blend_84 rfl ?_
        refine zA_iload_n dX9_blend_85 rfl ?_
        refine zA_cSi (st := [zI (bS (μ 114) (bQ (s : Int)) c a)]) kX9_256 (c_X9_bits d (s : Int) μ) rfl rfl rfl dX9_blend_86 (zfit0 (by omega) rfl) (fun v1 μ1 q1 => ?_)
        obtain ⟨rfl, rfl⟩ := q1
        refine zA_idivB dX9_blend_89 (by omega) (by omega) ?_
        exact zA_ri dX9_blend_90 ⟨by rw [if_neg (by omega), hp12], rfl⟩
      · refine zA_iconst dX9_blend_80 rfl ?_
        refine zA_goto (tgt := 90) dX9_blend_81 rfl ?_
        exact zA_ri dX9_blend_90 ⟨by rw [if_pos (by omega)], rfl⟩
    · have hrg := bS_rg (q := (bQ (s : Int))) hc hok a (by omega)
      have hx1 : 0 ≤ μ 114 (a * 5 + c) := (hok a (by omega)).1 c hc
      have hx2 : μ 114 (a * 5 + c) ≤ 60 := gOk_le (hok a (by omega)) hc
      refine zA_iload_n dX9_blend_43 rfl ?_
      refine zA_iload_n dX9_blend_44 rfl ?_
      refine zA_iload dX9_blend_45 rfl ?_
      refine zA_cSb (st := [zI (bS (μ 114) (bQ (s : Int)) c a)]) kX9_140 (c_X9_has d (s : Int) (a : Int) μ) rfl rfl rfl dX9_blend_47 (zfit0 (by omega) rfl) (fun v2 μ2 q2 => ?_)
      obtain ⟨b1, rfl⟩ := q2
      refine zA_ifb_eq (tgt := 67) dX9_blend_50 rfl (fun h50 => ?_) (fun h50 => ?_)
      · refine zA_iconst dX9_blend_67 rfl ?_
        refine zA_iaddB dX9_blend_68 ⟨by omega, by omega⟩ ?_
        refine zA_istore_n (ls' := [some (zR 110), some (zI (s : Int)), some (zI (c : Int)), some (zI ((bS (μ 114) (bQ (s : Int)) c a) + 0)), some (zI (a : Int))]) dX9_blend_69 rfl rfl ?_
        refine zA_iincB (ls' := [some (zR 110), some (zI (s : Int)), some (zI (c : Int)), some (zI ((bS (μ 114) (bQ (s : Int)) c a) + 0)), some (zI ((a : Int) + 1))]) dX9_blend_70 rfl rfl ⟨by omega, by omega⟩ rfl ?_
        refine zA_goto (tgt := 34) dX9_blend_73 rfl ?_
        have hq : (bQ (s : Int)) a = false := decide_eq_false (fun q => by have := b1.mpr q; simp_all)
        refine zA_leq (ls' := [some (zR 110), some (zI (s : Int)), some (zI (c : Int)), some (zI (bS (μ 114) (bQ (s : Int)) c (a + 1))), some (zI ((a : Int) + 1))]) (by simp only [bS, hq, Bool.false_eq_true, if_false, Int.add_zero]) ?_
        exact ih _ (by omega) (a + 1) rfl (by omega)
      · refine zA_aload_n dX9_blend_53 rfl ?_
        refine zA_getR fX9_19 t_110 rfl dX9_blend_54 ?_
        refine zA_iconst dX9_blend_57 rfl ?_
        refine zA_iload dX9_blend_58 rfl ?_
        refine zA_imulB dX9_blend_60 ⟨by omega, by omega⟩ ?_
        refine zA_iload_n dX9_blend_61 rfl ?_
        refine zA_iaddB dX9_blend_62 ⟨by omega, by omega⟩ ?_
        refine zA_ialE (w := μ 114 (a * 5 + c)) (j := 5 * a + c) t_114 (by omega) (by omega) dX9_blend_63 rfl (by rw [Nat.mul_comm 5 a]) ?_
        refine zA_goto (tgt := 68) dX9_blend_64 rfl ?_
        refine zA_iaddB dX9_blend_68 ⟨by omega, by omega⟩ ?_
        refine zA_istore_n (ls' := [some (zR 110), some (zI (s : Int)), some (zI (c : Int)), some (zI ((bS (μ 114) (bQ (s : Int)) c a) + (μ 114 (a * 5 + c)))), some (zI (a : Int))]) dX9_blend_69 rfl rfl ?_
        refine zA_iincB (ls' := [some (zR 110), some (zI (s : Int)), some (zI (c : Int)), some (zI ((bS (μ 114) (bQ (s : Int)) c a) + (μ 114 (a * 5 + c)))), some (zI ((a : Int) + 1))]) dX9_blend_70 rfl rfl ⟨by omega, by omega⟩ rfl ?_
        refine zA_goto (tgt := 34) dX9_blend_73 rfl ?_
        have hq : (bQ (s : Int)) a = true := decide_eq_true (b1.mp (by simpa using h50))
        refine zA_leq (ls' := [some (zR 110), some (zI (s : Int)), some (zI (c : Int)), some (zI (bS (μ 114) (bQ (s : Int)) c (a + 1))), some (zI ((a : Int) + 1))]) (by simp only [bS, hq, if_true]) ?_
        exact ih _ (by omega) (a + 1) rfl (by omega)
theorem c_X9_blend (d : Nat) (μ : zM) (n m t : Nat) (u s c : Int) (hH : zMs μ n m t u) (hok : rOk n m (μ 114)) : zMet (d + 3) 0 yX9_blend cX9_blend 5 (some .int) TF μ [zR 110, zI s, zI c] (zPi (fun w ξ => (¬ ((0 ≤ s ∧ s < ((2 ^ m : Nat) : Int)) ∧ (0 ≤ c ∧ c < n)) → w = -1000000001 ∧ μ = ξ) ∧ (((0 ≤ s ∧ s < ((2 ^ m : Nat) : Int)) ∧ (0 ≤ c ∧ c < n)) → w = (if s.toNat = 0 then (-1 : Int) else bS (μ 114) (bQ (s.toNat : Int)) c.toNat m / (cN (bQ (s.toNat : Int)) m : Int)) ∧ μ = ξ))) := by
  have hH0 := hH
  obtain ⟨hn, hu, hm, ht, hn5, hm6, ht10, hu1, hdk⟩ := hH0
  have hp : 2 ^ m ≤ 64 := pow6 hm6
  have hpI : (0 : Int) ≤ ((2 ^ m : Nat) : Int) ∧ ((2 ^ m : Nat) : Int) ≤ 64 := ⟨Int.natCast_nonneg _, by exact_mod_cast hp⟩
  refine zMi_of RX9 rfl (by decide) rfl (ls := [some (zR 110), some (zI s), some (zI c), none, none]) rfl (fun hok0 => ?_)
  refine zA_iload_n dX9_blend_0 rfl ?_
  refine zA_i2l dX9_blend_1 ?_
  refine zA_lconst (v := 0) dX9_blend_2 rfl rfl ?_
  refine zA_iconst dX9_blend_3 rfl ?_
  refine zA_aload_n dX9_blend_4 rfl ?_
  refine zA_getE (w := (m : Int)) fX9_78 t_110 dX9_blend_5 hm ?_
  refine zA_ishlE (w := ((2 ^ m : Nat) : Int)) dX9_blend_8 (zshl_1 m (by omega)) ?_
  refine zA_iconst dX9_blend_9 rfl ?_
  refine zA_isubB dX9_blend_10 ⟨by omega, by omega⟩ ?_
  refine zA_i2l dX9_blend_11 ?_
  refine zA_cSb (st := []) kX9_81 (c_X9_in (d + 1) s 0 (((2 ^ m : Nat) : Int) - 1) μ) rfl rfl rfl dX9_blend_12 (zfit0 (by omega) rfl) (fun v1 μ1 q1 => ?_)
  obtain ⟨b0, rfl⟩ := q1
  refine zA_ifb_eq (tgt := 26) dX9_blend_15 rfl (fun h15 => ?_) (fun h15 => ?_)
  · refine zA_ldc cX9_194 dX9_blend_26 rfl ?_
    exact zA_ri dX9_blend_28 ⟨fun _ => ⟨rfl, rfl⟩, fun q => False.elim (by first | (have := b1.mpr q.2; simp_all; done) | (have := b0.mpr ⟨q.1.1, by omega⟩; simp_all; done))⟩
  · refine zA_aload_n dX9_blend_18 rfl ?_
    refine zA_iload_n dX9_blend_19 rfl ?_
    refine zA_cVb (st := []) kX9_191 t_110 rfl rfl (c_X9_isColour d c μ (by omega)) rfl rfl rfl dX9_blend_20 (zfit0 (by omega) rfl) (fun v2 μ2 q2 => ?_)
    obtain ⟨b1, rfl⟩ := q2
    rw [hn] at b1
    refine zA_ifb_ne (tgt := 29) dX9_blend_23 rfl (fun h23 => ?_) (fun h23 => ?_)
    · refine zA_iconst dX9_blend_29 rfl ?_
      refine zA_istore_n (ls' := [some (zR 110), some (zI s), some (zI c), some (zI 0), none]) dX9_blend_30 rfl rfl ?_
      refine zA_iconst dX9_blend_31 rfl ?_
      refine zA_istore (ls' := [some (zR 110), some (zI s), some (zI c), some (zI 0), some (zI 0)]) dX9_blend_32 rfl rfl ?_
      have hc1 := b1.mp h23
      have hs0 := b0.mp (by simpa using h15)
      have hs1 : s < ((2 ^ m : Nat) : Int) := by omega
      obtain ⟨s, rfl⟩ := Int.eq_ofNat_of_zero_le (show 0 ≤ s by omega)
      obtain ⟨c, rfl⟩ := Int.eq_ofNat_of_zero_le hc1.1
      exact zAi_mono (l_X9_blend (d + 1) μ n m s c hm hm6 hn5 (by omega) hok (by omega) _ 0 rfl (by omega)) (fun w ξ h => ⟨fun q => absurd ⟨⟨by omega, hs1⟩, hc1⟩ q, fun _ => h⟩)
    · refine zA_ldc cX9_194 dX9_blend_26 rfl ?_
      exact zA_ri dX9_blend_28 ⟨fun _ => ⟨rfl, rfl⟩, fun q => False.elim (by first | (have := b1.mpr q.2; simp_all; done) | (have := b0.mpr ⟨q.1.1, by omega⟩; simp_all; done))⟩
theorem pr_blend (μ : zM) (s c : Int) (n m t : Nat) (u : Int) (hI : zInv μ n m t u) : zPair yX8_blend cX8_blend 6 yX9_blend cX9_blend 5 [zI s, zI c] μ := by
  obtain ⟨hn, hu, hm, ht0, hn5, hm6, ht10, hu1, hdk⟩ := hI.1.1
  refine zPair_q hI (if (0 ≤ s ∧ s < ((2 ^ m : Nat) : Int)) ∧ (0 ≤ c ∧ c < n) then (if s.toNat = 0 then (-1 : Int) else bS (μ 114) (bQ (s.toNat : Int)) c.toNat m / (cN (bQ (s.toNat : Int)) m : Int)) else -1000000001) (zMi_mono (c_X8_blend 18 μ n m t u s c hI.1.1 hI.2.1.2.1) ?_) (fun ν hq hν => zMi_mono (c_X9_blend 17 ν n m t u s c hν.1.2.1 hν.mrow) ?_)
  · intro w ν h
    by_cases h1 : (0 ≤ s ∧ s < ((2 ^ m : Nat) : Int)) ∧ (0 ≤ c ∧ c < n)
    · obtain ⟨e, rfl⟩ := h.2 h1
      rw [if_pos h1, e, bS_congr (n := n) (m := m) (by omega) hI.row m (Nat.le_refl _)]
      exact ⟨rfl, qC.refl _⟩
    · obtain ⟨rfl, rfl⟩ := h.1 h1
      rw [if_neg h1]
      exact ⟨rfl, qC.refl _⟩
  · intro w ξ h
    have e114 : ν 114 = μ 114 := hq 114 (by unfold cScr; omega)
    by_cases h1 : (0 ≤ s ∧ s < ((2 ^ m : Nat) : Int)) ∧ (0 ≤ c ∧ c < n)
    · obtain ⟨e, rfl⟩ := h.2 h1
      rw [if_pos h1, e, e114]
      exact ⟨rfl, qM.refl _⟩
    · obtain ⟨rfl, rfl⟩ := h.1 h1
      rw [if_neg h1]
      exact ⟨rfl, qM.refl _⟩
