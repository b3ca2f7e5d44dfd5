/-! ===== gap ===== -/
def sB (p : Nat → Bool) : Nat → Nat
  | 0 => 0
  | k + 1 => if p k = true then sB p k ||| 2 ^ k else sB p k
theorem sB_lt {p : Nat → Bool} : ∀ k, sB p k < 2 ^ k
  | 0 => by simp [sB]
  | k + 1 => by
    have ih := sB_lt (p := p) k
    have h2 : 2 ^ k < 2 ^ (k + 1) := Nat.pow_lt_pow_right (by decide) (by omega)
    simp only [sB]
    split
    · exact Nat.or_lt_two_pow (by omega) h2
    · omega
theorem sB_lt31 {p : Nat → Bool} {k : Nat} (h : k ≤ 31) : sB p k < 2 ^ 31 := Nat.lt_of_lt_of_le (sB_lt k) (Nat.pow_le_pow_right (by decide) h)
theorem sB_congr {p q : Nat → Bool} : ∀ {k : Nat}, (∀ j, j < k → p j = q j) → sB p k = sB q k
  | 0, _ => rfl
  | k + 1, h => by simp only [sB]; rw [sB_congr (fun j hj => h j (by omega)), h k (by omega)]
def fitB (row w a : Nat → Int) (s : Nat) : Bool := (fB (fun k => decide (row (w k).toNat ≠ a k)) s).isNone
theorem fitB_s {row w a : Nat → Int} {s : Nat} : fitB row w a (s + 1) = (fitB row w a s && decide (row (w s).toNat = a s)) := by
  unfold fitB
  rw [fB_s]
  cases fB (fun k => decide (row (w k).toNat ≠ a k)) s with
  | some j => rfl
  | none =>
    by_cases h : row (w s).toNat = a s
    · simp [h]
    · simp [h]
theorem fitB_ob {row w a : Nat → Int} {s : Nat} : gOb (fB (fun k => decide (row (w k).toNat ≠ a k)) s) = -1 ↔ fitB row w a s = true := by
  unfold fitB
  cases fB (fun k => decide (row (w k).toNat ≠ a k)) s with
  | some j => simp only [gOb, Option.isNone_some, Bool.false_eq_true, iff_false]; omega
  | none => simp [gOb]
theorem fitB_congr {row w a row' w' a' : Nat → Int} {s : Nat} (h : ∀ i, i < 30 → row i = row' i) (h1 : ∀ k, k < s → w k = w' k) (h2 : ∀ k, k < s → a k = a' k) (h3 : ∀ k, k < s → 0 ≤ w k ∧ w k < 30) : fitB row w a s = fitB row' w' a' s := by
  unfold fitB
  rw [fB_congr (fun k hk => ?_)]
  have := h3 k hk
  rw [← h1 k hk, ← h2 k hk, h _ (by omega)]
theorem fitB_congrL {n m : Nat} {row w a row' w' a' : Nat → Int} {s : Nat} (h : ∀ i, lv n m i → row i = row' i) (h1 : ∀ k, k < s → w k = w' k) (h2 : ∀ k, k < s → a k = a' k) (h3 : ∀ k, k < s → lv n m (w k).toNat) : fitB row w a s = fitB row' w' a' s := by
  unfold fitB
  rw [fB_congr (fun k hk => ?_)]
  rw [← h1 k hk, ← h2 k hk, h _ (h3 k hk)]
theorem dRow_wo {u : Int} {n : Nat} {g : Int} {f s : Nat → Int} {wo wo' : Int} {row : Nat → Int} : ∀ t, (∀ k : Nat, k < t → (zbit wo k = 1 ↔ zbit wo' k = 1)) → dRow u n g f s wo row t = dRow u n g f s wo' row t
  | 0, _ => rfl
  | t + 1, h => by
    have ih := dRow_wo (u := u) (n := n) (g := g) (f := f) (s := s) (row := row) t (fun k hk => h k (by omega))
    simp only [dRow]
    rw [ih]
    by_cases hb : zbit wo (t : Int) = 1
    · rw [if_pos hb, if_pos ((h t (by omega)).mp hb)]
    · rw [if_neg hb, if_neg (fun q => hb ((h t (by omega)).mpr q))]
def gW (t k : Nat) : Int := if k < t then ((2 ^ k : Nat) : Int) else 0
theorem dRow_gW {u : Int} {n t k : Nat} {g : Int} {f s : Nat → Int} {row : Nat → Int} (hk : k ≤ t) (ht : t ≤ 10) : dRow u n g f s ((2 ^ k : Nat) : Int) row t = dRow u n g f s (gW t k) row t := by
  refine dRow_wo t (fun j hj => ?_)
  unfold gW
  by_cases h : k < t
  · rw [if_pos h]
  · rw [if_neg h, zbit_z j (by omega), zbit_test (Nat.pow_lt_pow_right (by decide) (by omega)) (by omega), Nat.testBit_two_pow_of_ne (by omega)]
    simp
theorem l_X0_findFitting (d : Nat) (μ : zM) (n m t s : Nat) (u : Int) (hH : zHs μ n m t u) (hok : rOk n m (μ 53)) (hs8 : s ≤ 8) (hs3 : μ 96 3 = s) (hs5 : ∀ k, k < s → 0 ≤ μ 97 k ∧ μ 97 k < 30) : ∀ (t0 k : Nat), t + 1 - k = t0 → k ≤ t + 1 → ∀ ν : zM, (∀ j, j < k → ∀ i, i < 30 → ν (40 + j) i = (dRow u n (μ 52 1) (μ 3) (μ 4) ((2 ^ j : Nat) : Int) (μ 53) t) i) → (∀ c, c ≠ 5 → c ≠ 6 → c ≠ 7 → ¬ (40 ≤ c ∧ c ≤ 50) → ν c = μ c) → zA RX0 cX0_findFitting 6 (zRm (d + 6) 0) zN0 TF 0 ν 6 [some (zR 38), some (zR 1), some (zR 52), some (zR 96), some (zI ((sB (fun j => fitB (dRow u n (μ 52 1) (μ 3) (μ 4) ((2 ^ j : Nat) : Int) (μ 53) t) (μ 97) (μ 98) s) k : Int))), some (zI (k : Int))] [] (zPi (fun v ξ => v = (sB (fun j => fitB (dRow u n (μ 52 1) (μ 3) (μ 4) ((2 ^ j : Nat) : Int) (μ 53) t) (μ 97) (μ 98) s) (t + 1) : Int) ∧ (∀ j, j < t + 1 → ∀ i, i < 30 → ξ (40 + j) i = (dRow u n (μ 52 1) (μ 3) (μ 4) ((2 ^ j : Nat) : Int) (μ 53) t) i) ∧ (∀ c, c ≠ 5 → c ≠ 6 → c ≠ 7 → ¬ (40 ≤ c ∧ c ≤ 50) → ξ c = μ c))) := by
  have hH0 := hH
  obtain ⟨hn, hu, hm, ht, hn5, hm6, ht10, hu1, hdk⟩ := hH0
  intro t0
  induction t0 using Nat.strongRecOn with
  | ind t0 ih =>
    intro k hk hkt ν hen hfr
    refine zA_iload dX0_findFitting_6 rfl ?_
    refine zA_aload_n dX0_findFitting_8 rfl ?_
    refine zA_getE (w := (t : Int)) fX0_20 t_1 dX0_findFitting_9 (by rw [hfr 1 (by decide) (by decide) (by decide) (by decide)]; exact ht) ?_
    refine zA_icmp_gt (tgt := 85) dX0_findFitting_12 rfl (fun h12 => ?_) (fun h12 => ?_)
    · refine zA_iload dX0_findFitting_85 rfl ?_
      exact zA_ri dX0_findFitting_87 ⟨by rw [show t + 1 = k by omega], fun j hj => hen j (by omega), hfr⟩
    · refine zA_iload dX0_findFitting_15 rfl ?_
      refine zA_bipush dX0_findFitting_17 rfl ?_
      refine zA_icmp_gt (tgt := 85) dX0_findFitting_19 rfl (fun h19 => False.elim (by omega)) fun h19 => ?_
      refine zA_aload_n dX0_findFitting_22 rfl ?_
      refine zA_getR fX0_26 t_52 rfl dX0_findFitting_23 ?_
      refine zA_aload_n dX0_findFitting_26 rfl ?_
      refine zA_getR fX0_11 t_38 rfl dX0_findFitting_27 ?_
      refine zA_iload dX0_findFitting_30 rfl ?_
      refine zA_aaldG (k' := 40 + k) t_39 (by omega) (by omega) (t_ges k (by omega)) dX0_findFitting_32 ?_
      refine zA_cNv (st := []) kX0_31 (c_X8_copyPartsR (d + 4) 53 (40 + k) ν t_53 (t_ge k (by omega))) rfl rfl rfl dX0_findFitting_33 (zfit0 (by omega) rfl) (fun μ1 q1 => ?_)
      obtain ⟨q1a, q1b⟩ := q1
      have e53 : ν 53 = μ 53 := hfr 53 (by decide) (by decide) (by decide) (by decide)
      have e52 : μ1 52 1 = μ 52 1 := by rw [q1b 52 (by omega), hfr 52 (by decide) (by decide) (by decide) (by decide)]
      refine zA_aload_n dX0_findFitting_36 rfl ?_
      refine zA_aload_n dX0_findFitting_37 rfl ?_
      refine zA_getR fX0_11 t_38 rfl dX0_findFitting_38 ?_
      refine zA_iload dX0_findFitting_41 rfl ?_
      refine zA_aaldG (k' := 40 + k) t_39 (by omega) (by omega) (t_ges k (by omega)) dX0_findFitting_43 ?_
      refine zA_aload_n dX0_findFitting_44 rfl ?_
      refine zA_getE (w := μ 52 1) fX0_35 t_52 dX0_findFitting_45 e52 ?_
      refine zA_iconst dX0_findFitting_48 rfl ?_
      refine zA_iload dX0_findFitting_49 rfl ?_
      refine zA_ishlE (w := ((2 ^ k : Nat) : Int)) dX0_findFitting_51 (zshl_1 k (by omega)) ?_
      refine zA_cVv (st := []) kX0_38 t_1 rfl rfl (c_X2_goThroughDay d μ1 (40 + k) n m t u (μ 52 1) ((2 ^ k : Nat) : Int) (t_ge k (by omega)) (hH.keep (by rw [q1b 1 (by omega), hfr 1 (by decide) (by decide) (by decide) (by decide)]) (by rw [q1b 3 (by omega), hfr 3 (by decide) (by decide) (by decide) (by decide)]) (by rw [q1b 4 (by omega), hfr 4 (by decide) (by decide) (by decide) (by decide)])) (rOk_congr hn5 hm6 (fun i hi => by rw [q1a i hi, e53]) hok)) rfl rfl rfl dX0_findFitting_52 (zfit0 (by omega) rfl) (fun μ2 q2 => ?_)
      obtain ⟨q2a, q2b⟩ := q2
      have hE : ∀ i, i < 30 → μ2 (40 + k) i = (dRow u n (μ 52 1) (μ 3) (μ 4) ((2 ^ k : Nat) : Int) (μ 53) t) i := fun i hi => by rw [q2a, q1b 3 (by omega), q1b 4 (by omega), hfr 3 (by decide) (by decide) (by decide) (by decide), hfr 4 (by decide) (by decide) (by decide) (by decide)]; exact dRow_congrR hn5 hm6 hdk (fun i hi => by rw [q1a i hi, e53]) (Nat.le_refl _) i hi
      have f2 : ∀ c, c ≠ 5 → c ≠ 6 → c ≠ 7 → c ≠ 40 + k → μ2 c = ν c := fun c c1 c2 c3 c4 => by rw [q2b c c4 c1 c2 c3, q1b c c4]
      have f3 : ∀ c, c ≠ 5 → c ≠ 6 → c ≠ 7 → ¬ (40 ≤ c ∧ c ≤ 50) → μ2 c = μ c := fun c c1 c2 c3 c4 => by rw [f2 c c1 c2 c3 (by omega), hfr c c1 c2 c3 c4]
      have e96 := f3 96 (by decide) (by decide) (by decide) (by decide)
      have e97 := f3 97 (by decide) (by decide) (by decide) (by decide)
      have e98 := f3 98 (by decide) (by decide) (by decide) (by decide)
      refine zA_aload_n dX0_findFitting_55 rfl ?_
      refine zA_aload_n dX0_findFitting_56 rfl ?_
      refine zA_getR fX0_11 t_38 rfl dX0_findFitting_57 ?_
      refine zA_iload dX0_findFitting_60 rfl ?_
      refine zA_aaldG (k' := 40 + k) t_39 (by omega) (by omega) (t_ges k (by omega)) dX0_findFitting_62 ?_
      refine zA_cVi (st := []) kX0_42 t_96 rfl rfl (c_X3_firstWrong96 (d + 4) μ2 (40 + k) s (t_ge k (by omega)) hs8 (by rw [e96]; exact hs3) (by rw [e97]; exact hs5)) rfl rfl rfl dX0_findFitting_63 (zfit0 (by omega) rfl) (fun v3 μ3 q3 => ?_)
      obtain ⟨ew, rfl⟩ := q3
      have hw : v3 = -1 ↔ (fun j => fitB (dRow u n (μ 52 1) (μ 3) (μ 4) ((2 ^ j : Nat) : Int) (μ 53) t) (μ 97) (μ 98) s) k = true := by
        rw [ew, fitB_ob, e97, e98]
        show _ ↔ fitB (dRow u n (μ 52 1) (μ 3) (μ 4) ((2 ^ k : Nat) : Int) (μ 53) t) (μ 97) (μ 98) s = true
        rw [fitB_congr hE (fun _ _ => rfl) (fun _ _ => rfl) hs5]
      refine zA_iconst dX0_findFitting_66 rfl ?_
      refine zA_icmp_ne (tgt := 79) dX0_findFitting_67 rfl (fun h67 => ?_) (fun h67 => ?_)
      · refine zA_iincB (ls' := [some (zR 38), some (zR 1), some (zR 52), some (zR 96), some (zI ((sB (fun j => fitB (dRow u n (μ 52 1) (μ 3) (μ 4) ((2 ^ j : Nat) : Int) (μ 53) t) (μ 97) (μ 98) s) k : Int))), some (zI ((k : Int) + 1))]) dX0_findFitting_79 rfl rfl ⟨by omega, by omega⟩ rfl ?_
        refine zA_goto (tgt := 6) dX0_findFitting_82 rfl ?_
        refine zA_leq (ls' := [some (zR 38), some (zR 1), some (zR 52), some (zR 96), some (zI ((sB (fun j => fitB (dRow u n (μ 52 1) (μ 3) (μ 4) ((2 ^ j : Nat) : Int) (μ 53) t) (μ 97) (μ 98) s) (k + 1) : Int))), some (zI ((k : Int) + 1))]) (by simp only [sB]; rw [if_neg (fun q => h67 (hw.mpr q))]) ?_
        refine ih _ (by omega) (k + 1) rfl (by omega) μ2 (fun j hj i hi => ?_) f3
        by_cases e : j = k
        · rw [e]; exact hE i hi
        · rw [f2 _ (by omega) (by omega) (by omega) (by omega)]; exact hen j (by omega) i hi
      · refine zA_iload dX0_findFitting_70 rfl ?_
        refine zA_iconst dX0_findFitting_72 rfl ?_
        refine zA_iload dX0_findFitting_73 rfl ?_
        refine zA_ishlE (w := ((2 ^ k : Nat) : Int)) dX0_findFitting_75 (zshl_1 k (by omega)) ?_
        refine zA_iorE (w := ((sB (fun j => fitB (dRow u n (μ 52 1) (μ 3) (μ 4) ((2 ^ j : Nat) : Int) (μ 53) t) (μ 97) (μ 98) s) k ||| 2 ^ k : Nat) : Int)) dX0_findFitting_76 (zor_nat (sB_lt31 (by omega)) (Nat.pow_lt_pow_right (by decide) (by omega))) ?_
        refine zA_istore (ls' := [some (zR 38), some (zR 1), some (zR 52), some (zR 96), some (zI (((sB (fun j => fitB (dRow u n (μ 52 1) (μ 3) (μ 4) ((2 ^ j : Nat) : Int) (μ 53) t) (μ 97) (μ 98) s) k ||| 2 ^ k : Nat) : Int))), some (zI (k : Int))]) dX0_findFitting_77 rfl rfl ?_
        refine zA_iincB (ls' := [some (zR 38), some (zR 1), some (zR 52), some (zR 96), some (zI (((sB (fun j => fitB (dRow u n (μ 52 1) (μ 3) (μ 4) ((2 ^ j : Nat) : Int) (μ 53) t) (μ 97) (μ 98) s) k ||| 2 ^ k : Nat) : Int))), some (zI ((k : Int) + 1))]) dX0_findFitting_79 rfl rfl ⟨by omega, by omega⟩ rfl ?_
        refine zA_goto (tgt := 6) dX0_findFitting_82 rfl ?_
        refine zA_leq (ls' := [some (zR 38), some (zR 1), some (zR 52), some (zR 96), some (zI ((sB (fun j => fitB (dRow u n (μ 52 1) (μ 3) (μ 4) ((2 ^ j : Nat) : Int) (μ 53) t) (μ 97) (μ 98) s) (k + 1) : Int))), some (zI ((k : Int) + 1))]) (by simp only [sB]; rw [if_pos (hw.mp (by omega))]) ?_
        refine ih _ (by omega) (k + 1) rfl (by omega) μ2 (fun j hj i hi => ?_) f3
        by_cases e : j = k
        · rw [e]; exact hE i hi
        · rw [f2 _ (by omega) (by omega) (by omega) (by omega)]; exact hen j (by omega) i hi
theorem c_X0_findFitting (d : Nat) (μ : zM) (n m t s : Nat) (u : Int) (hH : zHs μ n m t u) (hok : rOk n m (μ 53)) (hs8 : s ≤ 8) (hs3 : μ 96 3 = s) (hs5 : ∀ k, k < s → 0 ≤ μ 97 k ∧ μ 97 k < 30) : zMet (d + 6) 0 yX0_findFitting cX0_findFitting 6 (some .int) TF μ [zR 38, zR 1, zR 52, zR 96] (zPi (fun v ξ => v = (sB (fun j => fitB (dRow u n (μ 52 1) (μ 3) (μ 4) ((2 ^ j : Nat) : Int) (μ 53) t) (μ 97) (μ 98) s) (t + 1) : Int) ∧ (∀ j, j < t + 1 → ∀ i, i < 30 → ξ (40 + j) i = (dRow u n (μ 52 1) (μ 3) (μ 4) ((2 ^ j : Nat) : Int) (μ 53) t) i) ∧ (∀ c, c ≠ 5 → c ≠ 6 → c ≠ 7 → ¬ (40 ≤ c ∧ c ≤ 50) → ξ c = μ c))) := by
  refine zMi_of RX0 rfl (by decide) rfl (ls := [some (zR 38), some (zR 1), some (zR 52), some (zR 96), none, none]) rfl (fun hok0 => ?_)
  refine zA_iconst dX0_findFitting_0 rfl ?_
  refine zA_istore (ls' := [some (zR 38), some (zR 1), some (zR 52), some (zR 96), some (zI 0), none]) dX0_findFitting_1 rfl rfl ?_
  refine zA_iconst dX0_findFitting_3 rfl ?_
  refine zA_istore (ls' := [some (zR 38), some (zR 1), some (zR 52), some (zR 96), some (zI 0), some (zI 0)]) dX0_findFitting_4 rfl rfl ?_
  exact l_X0_findFitting d μ n m t s u hH hok hs8 hs3 hs5 _ 0 rfl (by omega) μ (fun j hj => by omega) (fun _ _ _ _ _ => rfl)
theorem c_X8_gap (d : Nat) (μ : zM) (n m t s : Nat) (u : Int) (hH : zHs μ n m t u) (hok : rOk n m (μ 53)) (hs8 : s ≤ 8) (hs3 : μ 96 3 = s) (hs5 : ∀ k, k < s → 0 ≤ μ 97 k ∧ μ 97 k < 30) : zMet (d + 7) 0 yX8_gap cX8_gap 1 (some .int) TF μ [zR 0] (zPi (fun v ξ => v = (sB (fun j => fitB (dRow u n (μ 52 1) (μ 3) (μ 4) ((2 ^ j : Nat) : Int) (μ 53) t) (μ 97) (μ 98) s) (t + 1) : Int) ∧ (∀ j, j < t + 1 → ∀ i, i < 30 → ξ (40 + j) i = (dRow u n (μ 52 1) (μ 3) (μ 4) ((2 ^ j : Nat) : Int) (μ 53) t) i) ∧ (∀ c, c ≠ 5 → c ≠ 6 → c ≠ 7 → ¬ (40 ≤ c ∧ c ≤ 50) → ξ c = μ c))) := by
  refine zMi_of RX8 rfl (by decide) rfl (ls := [some (zR 0)]) rfl (fun hok0 => ?_)
  refine zA_aload_n dX8_gap_0 rfl ?_
  refine zA_getR fX8_40 t_0 rfl dX8_gap_1 ?_
  refine zA_aload_n dX8_gap_4 rfl ?_
  refine zA_getR fX8_12 t_0 rfl dX8_gap_5 ?_
  refine zA_aload_n dX8_gap_8 rfl ?_
  refine zA_getR fX8_47 t_0 rfl dX8_gap_9 ?_
  refine zA_aload_n dX8_gap_12 rfl ?_
  refine zA_getR fX8_63 t_0 rfl dX8_gap_13 ?_
  refine zA_cVi (st := []) kX8_261 t_38 rfl rfl (c_X0_findFitting d μ n m t s u hH hok hs8 hs3 hs5) rfl rfl rfl dX8_gap_16 (zfit0 (by omega) rfl) (fun v1 μ1 q1 => ?_)
  obtain ⟨e1, e2, e3⟩ := q1
  exact zA_ri dX8_gap_19 ⟨e1, e2, e3⟩
theorem l_X9_findGap1 (d g s : Nat) (S : Int) (ν : zM) (P : zP) (hs8 : s ≤ 8) (hs3 : ν 110 33 = s) (hs5 : ∀ k, k < s → 0 ≤ ν 124 k ∧ ν 124 k < 30) (hc : zA RX9 cX9_findGap 5 (zRm (d + 5) 0) zN0 TF 0 ν 92 [some (zR 110), some (zI S), some (zI (g : Int)), some (zI (zb (fitB (ν 122) (ν 124) (ν 125) s))), some (zI (s : Int))] [] P) : ∀ (t0 k : Nat) (al : Bool), fitB (ν 122) (ν 124) (ν 125) k = al → s - k = t0 → k ≤ s → zA RX9 cX9_findGap 5 (zRm (d + 5) 0) zN0 TF 0 ν 45 [some (zR 110), some (zI S), some (zI (g : Int)), some (zI (zb al)), some (zI (k : Int))] [] P := by
  intro t0
  induction t0 using Nat.strongRecOn with
  | ind t0 ih =>
    intro k al hx hk hks
    cases al with
    | true =>
      show zA RX9 cX9_findGap 5 (zRm (d + 5) 0) zN0 TF 0 ν 45 [some (zR 110), some (zI S), some (zI (g : Int)), some (zI 1), some (zI (k : Int))] [] P
      refine zA_iload dX9_findGap_45 rfl ?_
      refine zA_aload_n dX9_findGap_47 rfl ?_
      refine zA_getE (w := (s : Int)) fX9_178 t_110 dX9_findGap_48 hs3 ?_
      refine zA_icmp_ge (tgt := 92) dX9_findGap_51 rfl (fun h51 => ?_) (fun h51 => ?_)
      · obtain rfl : k = s := by omega
        rw [hx] at hc
        exact hc
      · refine zA_iload_n dX9_findGap_54 rfl ?_
        refine zA_if_eq (tgt := 84) dX9_findGap_55 rfl (fun h55 => False.elim (by omega)) fun h55 => ?_
        have hck := hs5 k (by omega)
        refine zA_aload_n dX9_findGap_58 rfl ?_
        refine zA_getR fX9_47 t_110 rfl dX9_findGap_59 ?_
        refine zA_aload_n dX9_findGap_62 rfl ?_
        refine zA_getR fX9_53 t_110 rfl dX9_findGap_63 ?_
        refine zA_iload dX9_findGap_66 rfl ?_
        refine zA_ialE (w := ν 124 k) (j := k) t_124 (by omega) (by omega) dX9_findGap_68 rfl rfl ?_
        refine zA_ialE (w := ν 122 ((ν 124 k).toNat)) (j := (ν 124 k).toNat) t_122 (by omega) (by omega) dX9_findGap_69 rfl rfl ?_
        refine zA_aload_n dX9_findGap_70 rfl ?_
        refine zA_getR fX9_56 t_110 rfl dX9_findGap_71 ?_
        refine zA_iload dX9_findGap_74 rfl ?_
        refine zA_ialE (w := ν 125 k) (j := k) t_125 (by omega) (by omega) dX9_findGap_76 rfl rfl ?_
        refine zA_icmp_ne (tgt := 84) dX9_findGap_77 rfl (fun h77 => ?_) (fun h77 => ?_)
        · refine zA_iconst dX9_findGap_84 rfl ?_
          refine zA_istore_n (ls' := [some (zR 110), some (zI S), some (zI (g : Int)), some (zI 0), some (zI (k : Int))]) dX9_findGap_85 rfl rfl ?_
          refine zA_iincB (ls' := [some (zR 110), some (zI S), some (zI (g : Int)), some (zI 0), some (zI ((k : Int) + 1))]) dX9_findGap_86 rfl rfl ⟨by omega, by omega⟩ rfl ?_
          refine zA_goto (tgt := 45) dX9_findGap_89 rfl ?_
          exact ih _ (by omega) (k + 1) false (by rw [fitB_s, hx]; first | rfl | (rw [decide_eq_false h77]; rfl)) rfl (by omega)
        · refine zA_iconst dX9_findGap_80 rfl ?_
          refine zA_goto (tgt := 85) dX9_findGap_81 rfl ?_
          refine zA_istore_n (ls' := [some (zR 110), some (zI S), some (zI (g : Int)), some (zI 1), some (zI (k : Int))]) dX9_findGap_85 rfl rfl ?_
          refine zA_iincB (ls' := [some (zR 110), some (zI S), some (zI (g : Int)), some (zI 1), some (zI ((k : Int) + 1))]) dX9_findGap_86 rfl rfl ⟨by omega, by omega⟩ rfl ?_
          refine zA_goto (tgt := 45) dX9_findGap_89 rfl ?_
          exact ih _ (by omega) (k + 1) true (by rw [fitB_s, hx, decide_eq_true h77]; rfl) rfl (by omega)
    | false =>
      show zA RX9 cX9_findGap 5 (zRm (d + 5) 0) zN0 TF 0 ν 45 [some (zR 110), some (zI S), some (zI (g : Int)), some (zI 0), some (zI (k : Int))] [] P
      refine zA_iload dX9_findGap_45 rfl ?_
      refine zA_aload_n dX9_findGap_47 rfl ?_
      refine zA_getE (w := (s : Int)) fX9_178 t_110 dX9_findGap_48 hs3 ?_
      refine zA_icmp_ge (tgt := 92) dX9_findGap_51 rfl (fun h51 => ?_) (fun h51 => ?_)
      · obtain rfl : k = s := by omega
        rw [hx] at hc
        exact hc
      · refine zA_iload_n dX9_findGap_54 rfl ?_
        refine zA_if_eq (tgt := 84) dX9_findGap_55 rfl (fun h55 => ?_) (fun h55 => False.elim (by omega))
        refine zA_iconst dX9_findGap_84 rfl ?_
        refine zA_istore_n (ls' := [some (zR 110), some (zI S), some (zI (g : Int)), some (zI 0), some (zI (k : Int))]) dX9_findGap_85 rfl rfl ?_
        refine zA_iincB (ls' := [some (zR 110), some (zI S), some (zI (g : Int)), some (zI 0), some (zI ((k : Int) + 1))]) dX9_findGap_86 rfl rfl ⟨by omega, by omega⟩ rfl ?_
        refine zA_goto (tgt := 45) dX9_findGap_89 rfl ?_
        exact ih _ (by omega) (k + 1) false (by rw [fitB_s, hx]; first | rfl | (rw [decide_eq_false h77]; rfl)) rfl (by omega)
theorem l_X9_findGap2 (d g : Nat) (S : Int) (ν0 : zM) (P : zP) (hg : g ≤ 10) (hc : ∀ ν : zM, (∀ j, j < 30 → ν 126 (30 * g + j) = ν0 122 j) → (∀ j, j < 30 * g → ν 126 j = ν0 126 j) → (∀ c, c ≠ 126 → ν c = ν0 c) → zA RX9 cX9_findGap 5 (zRm (d + 5) 0) zN0 TF 0 ν 141 [some (zR 110), some (zI S), some (zI (g : Int)), none, none] [] P) : ∀ (t0 i : Nat), 30 - i = t0 → i ≤ 30 → ∀ ν : zM, (∀ j, j < i → ν 126 (30 * g + j) = ν0 122 j) → (∀ j, j < 30 * g → ν 126 j = ν0 126 j) → (∀ c, c ≠ 126 → ν c = ν0 c) → zA RX9 cX9_findGap 5 (zRm (d + 5) 0) zN0 TF 0 ν 109 [some (zR 110), some (zI S), some (zI (g : Int)), none, some (zI (i : Int))] [] P := by
  intro t0
  induction t0 using Nat.strongRecOn with
  | ind t0 ih =>
    intro i hi hi30 ν hv ho hfr
    refine zA_iload dX9_findGap_109 rfl ?_
    refine zA_bipush dX9_findGap_111 rfl ?_
    refine zA_icmp_ge (tgt := 141) dX9_findGap_113 rfl (fun h113 => ?_) (fun h113 => ?_)
    · refine zA_dr (ls' := [some (zR 110), some (zI S), some (zI (g : Int)), none, none]) 4 rfl ?_
      exact hc ν (fun j hj => hv j (by omega)) ho hfr
    · refine zA_aload_n dX9_findGap_116 rfl ?_
      refine zA_getR fX9_59 t_110 rfl dX9_findGap_117 ?_
      refine zA_bipush dX9_findGap_120 rfl ?_
      refine zA_iload_n dX9_findGap_122 rfl ?_
      refine zA_imulB dX9_findGap_123 ⟨by omega, by omega⟩ ?_
      refine zA_iload dX9_findGap_124 rfl ?_
      refine zA_iaddB dX9_findGap_126 ⟨by omega, by omega⟩ ?_
      refine zA_aload_n dX9_findGap_127 rfl ?_
      refine zA_getR fX9_47 t_110 rfl dX9_findGap_128 ?_
      refine zA_iload dX9_findGap_131 rfl ?_
      refine zA_ialE (w := ν0 122 i) (j := i) t_122 (by omega) (by omega) dX9_findGap_133 rfl (by rw [hfr 122 (by decide)]) ?_
      refine zA_iasE (j := 30 * g + i) t_126 (by omega) (by omega) dX9_findGap_134 rfl ?_
      refine zA_iincB (ls' := [some (zR 110), some (zI S), some (zI (g : Int)), none, some (zI ((i : Int) + 1))]) dX9_findGap_135 rfl rfl ⟨by omega, by omega⟩ rfl ?_
      refine zA_goto (tgt := 109) dX9_findGap_138 rfl ?_
      refine ih _ (by omega) (i + 1) rfl (by omega) _ ?_ ?_ ?_
      · intro j hj
        by_cases e : j = i
        · subst e
          rw [zup_s]
        · rw [zup_n (fun q => e (by omega)), hv j (by omega)]
      · intro j hj
        rw [zup_n (fun q => by omega), ho j hj]
      · intro c hc
        rw [← hfr c hc]
        funext j
        rw [zup_k hc]
theorem l_X9_findGap (d : Nat) (μ : zM) (n m t s : Nat) (u : Int) (hH : zMs μ n m t u) (hok : rOk n m (μ 114)) (hs8 : s ≤ 8) (hs3 : μ 110 33 = s) (hs5 : ∀ k, k < s → 0 ≤ μ 124 k ∧ μ 124 k < 30) : ∀ (t0 g : Nat), t + 1 - g = t0 → g ≤ t + 1 → ∀ ν : zM, (∀ j, j < g → ∀ i, i < 30 → ν 126 (30 * j + i) = (dRow u n (μ 114 30) (μ 112) (μ 113) (gW t j) (μ 114) t) i) → (∀ c, c ≠ 122 → c ≠ 119 → c ≠ 126 → ν c = μ c) → zA RX9 cX9_findGap 5 (zRm (d + 5) 0) zN0 TF 0 ν 4 [some (zR 110), some (zI ((sB (fun j => fitB (dRow u n (μ 114 30) (μ 112) (μ 113) (gW t j) (μ 114) t) (μ 124) (μ 125) s) g : Int))), some (zI (g : Int)), none, none] [] (zPi (fun v ξ => v = (sB (fun j => fitB (dRow u n (μ 114 30) (μ 112) (μ 113) (gW t j) (μ 114) t) (μ 124) (μ 125) s) (t + 1) : Int) ∧ (∀ j, j < t + 1 → ∀ i, i < 30 → ξ 126 (30 * j + i) = (dRow u n (μ 114 30) (μ 112) (μ 113) (gW t j) (μ 114) t) i) ∧ (∀ c, c ≠ 122 → c ≠ 119 → c ≠ 126 → ξ c = μ c))) := by
  have hH0 := hH
  obtain ⟨hn, hu, hm, ht, hn5, hm6, ht10, hu1, hdk⟩ := hH0
  intro t0
  induction t0 using Nat.strongRecOn with
  | ind t0 ih =>
    intro g hk hgt ν hen hfr
    have hend : g ≤ t → ∀ ξ : zM, (∀ i, i < 30 → ξ 122 i = (dRow u n (μ 114 30) (μ 112) (μ 113) (gW t g) (μ 114) t) i) → (∀ c, c ≠ 122 → c ≠ 119 → ξ c = ν c) → zA RX9 cX9_findGap 5 (zRm (d + 5) 0) zN0 TF 0 ξ 92 [some (zR 110), some (zI (sB (fun j => fitB (dRow u n (μ 114 30) (μ 112) (μ 113) (gW t j) (μ 114) t) (μ 124) (μ 125) s) g : Int)), some (zI (g : Int)), some (zI (zb ((fun j => fitB (dRow u n (μ 114 30) (μ 112) (μ 113) (gW t j) (μ 114) t) (μ 124) (μ 125) s) g))), some (zI (s : Int))] [] (zPi (fun v ξ => v = (sB (fun j => fitB (dRow u n (μ 114 30) (μ 112) (μ 113) (gW t j) (μ 114) t) (μ 124) (μ 125) s) (t + 1) : Int) ∧ (∀ j, j < t + 1 → ∀ i, i < 30 → ξ 126 (30 * j + i) = (dRow u n (μ 114 30) (μ 112) (μ 113) (gW t j) (μ 114) t) i) ∧ (∀ c, c ≠ 122 → c ≠ 119 → c ≠ 126 → ξ c = μ c))) := by
      intro hgt2 ξ hE f3
      have hnext : ∀ ξ : zM, (∀ j, j < (g + 1) → ∀ i, i < 30 → ξ 126 (30 * j + i) = (dRow u n (μ 114 30) (μ 112) (μ 113) (gW t j) (μ 114) t) i) → (∀ c, c ≠ 122 → c ≠ 119 → c ≠ 126 → ξ c = μ c) → zA RX9 cX9_findGap 5 (zRm (d + 5) 0) zN0 TF 0 ξ 141 [some (zR 110), some (zI ((sB (fun j => fitB (dRow u n (μ 114 30) (μ 112) (μ 113) (gW t j) (μ 114) t) (μ 124) (μ 125) s) (g + 1) : Int))), some (zI (g : Int)), none, none] [] (zPi (fun v ξ => v = (sB (fun j => fitB (dRow u n (μ 114 30) (μ 112) (μ 113) (gW t j) (μ 114) t) (μ 124) (μ 125) s) (t + 1) : Int) ∧ (∀ j, j < t + 1 → ∀ i, i < 30 → ξ 126 (30 * j + i) = (dRow u n (μ 114 30) (μ 112) (μ 113) (gW t j) (μ 114) t) i) ∧ (∀ c, c ≠ 122 → c ≠ 119 → c ≠ 126 → ξ c = μ c))) := by
        intro ξ y1 y2
        refine zA_iincB (ls' := [some (zR 110), some (zI ((sB (fun j => fitB (dRow u n (μ 114 30) (μ 112) (μ 113) (gW t j) (μ 114) t) (μ 124) (μ 125) s) (g + 1) : Int))), some (zI ((g : Int) + 1)), none, none]) dX9_findGap_141 rfl rfl ⟨by omega, by omega⟩ rfl ?_
        refine zA_goto (tgt := 4) dX9_findGap_144 rfl ?_
        exact ih _ (by omega) (g + 1) rfl (by omega) ξ y1 y2
      cases hp : (fun j => fitB (dRow u n (μ 114 30) (μ 112) (μ 113) (gW t j) (μ 114) t) (μ 124) (μ 125) s) g with
      | true =>
        show zA RX9 cX9_findGap 5 (zRm (d + 5) 0) zN0 TF 0 ξ 92 [some (zR 110), some (zI ((sB (fun j => fitB (dRow u n (μ 114 30) (μ 112) (μ 113) (gW t j) (μ 114) t) (μ 124) (μ 125) s) g : Int))), some (zI (g : Int)), some (zI 1), some (zI (s : Int))] [] (zPi (fun v ξ => v = (sB (fun j => fitB (dRow u n (μ 114 30) (μ 112) (μ 113) (gW t j) (μ 114) t) (μ 124) (μ 125) s) (t + 1) : Int) ∧ (∀ j, j < t + 1 → ∀ i, i < 30 → ξ 126 (30 * j + i) = (dRow u n (μ 114 30) (μ 112) (μ 113) (gW t j) (μ 114) t) i) ∧ (∀ c, c ≠ 122 → c ≠ 119 → c ≠ 126 → ξ c = μ c)))
        refine zA_iload_n dX9_findGap_92 rfl ?_
        refine zA_iload_n dX9_findGap_93 rfl ?_
        refine zA_if_eq (tgt := 103) dX9_findGap_94 rfl (fun h94 => False.elim (by omega)) fun h94 => ?_
        refine zA_iconst dX9_findGap_97 rfl ?_
        refine zA_iload_n dX9_findGap_98 rfl ?_
        refine zA_ishlE (w := ((2 ^ g : Nat) : Int)) dX9_findGap_99 (zshl_1 g (by omega)) ?_
        refine zA_goto (tgt := 104) dX9_findGap_100 rfl ?_
        refine zA_iorE (w := ((sB (fun j => fitB (dRow u n (μ 114 30) (μ 112) (μ 113) (gW t j) (μ 114) t) (μ 124) (μ 125) s) g ||| 2 ^ g : Nat) : Int)) dX9_findGap_104 (zor_nat (sB_lt31 (by omega)) (Nat.pow_lt_pow_right (by decide) (by omega))) ?_
        refine zA_istore_n (ls' := [some (zR 110), some (zI (((sB (fun j => fitB (dRow u n (μ 114 30) (μ 112) (μ 113) (gW t j) (μ 114) t) (μ 124) (μ 125) s) g ||| 2 ^ g : Nat) : Int))), some (zI (g : Int)), some (zI 1), some (zI (s : Int))]) dX9_findGap_105 rfl rfl ?_
        refine zA_iconst dX9_findGap_106 rfl ?_
        refine zA_istore (ls' := [some (zR 110), some (zI (((sB (fun j => fitB (dRow u n (μ 114 30) (μ 112) (μ 113) (gW t j) (μ 114) t) (μ 124) (μ 125) s) g ||| 2 ^ g : Nat) : Int))), some (zI (g : Int)), some (zI 1), some (zI 0)]) dX9_findGap_107 rfl rfl ?_
        refine zA_dr (ls' := [some (zR 110), some (zI (((sB (fun j => fitB (dRow u n (μ 114 30) (μ 112) (μ 113) (gW t j) (μ 114) t) (μ 124) (μ 125) s) g ||| 2 ^ g : Nat) : Int))), some (zI (g : Int)), none, some (zI 0)]) 3 rfl ?_
        refine zA_leq (ls' := [some (zR 110), some (zI ((sB (fun j => fitB (dRow u n (μ 114 30) (μ 112) (μ 113) (gW t j) (μ 114) t) (μ 124) (μ 125) s) (g + 1) : Int))), some (zI (g : Int)), none, some (zI 0)]) (by simp only [sB]; rw [if_pos hp]) ?_
        refine l_X9_findGap2 d g _ ξ _ (by omega) (fun ξ1 y1 y2 y3 => ?_) _ 0 rfl (by omega) ξ (fun j hj => by omega) (fun _ _ => rfl) (fun _ _ => rfl)
        exact hnext ξ1 (fun j hj i hi => by
          by_cases e : j = g
          · rw [e, y1 i hi]; exact hE i hi
          · rw [y2 _ (by omega), f3 126 (by decide) (by decide)]; exact hen j (by omega) i hi) (fun c c1 c2 c3 => by rw [y3 c c3, f3 c c1 c2, hfr c c1 c2 c3])
      | false =>
        show zA RX9 cX9_findGap 5 (zRm (d + 5) 0) zN0 TF 0 ξ 92 [some (zR 110), some (zI ((sB (fun j => fitB (dRow u n (μ 114 30) (μ 112) (μ 113) (gW t j) (μ 114) t) (μ 124) (μ 125) s) g : Int))), some (zI (g : Int)), some (zI 0), some (zI (s : Int))] [] (zPi (fun v ξ => v = (sB (fun j => fitB (dRow u n (μ 114 30) (μ 112) (μ 113) (gW t j) (μ 114) t) (μ 124) (μ 125) s) (t + 1) : Int) ∧ (∀ j, j < t + 1 → ∀ i, i < 30 → ξ 126 (30 * j + i) = (dRow u n (μ 114 30) (μ 112) (μ 113) (gW t j) (μ 114) t) i) ∧ (∀ c, c ≠ 122 → c ≠ 119 → c ≠ 126 → ξ c = μ c)))
        refine zA_iload_n dX9_findGap_92 rfl ?_
        refine zA_iload_n dX9_findGap_93 rfl ?_
        refine zA_if_eq (tgt := 103) dX9_findGap_94 rfl (fun h94 => ?_) (fun h94 => False.elim (by omega))
        refine zA_iconst dX9_findGap_103 rfl ?_
        refine zA_iorE (w := (sB (fun j => fitB (dRow u n (μ 114 30) (μ 112) (μ 113) (gW t j) (μ 114) t) (μ 124) (μ 125) s) g : Int)) dX9_findGap_104 (by rw [show (0 : Int) = ((0 : Nat) : Int) from rfl, zor_nat (sB_lt31 (by omega)) (by decide), Nat.or_zero]) ?_
        refine zA_istore_n (ls' := [some (zR 110), some (zI ((sB (fun j => fitB (dRow u n (μ 114 30) (μ 112) (μ 113) (gW t j) (μ 114) t) (μ 124) (μ 125) s) g : Int))), some (zI (g : Int)), some (zI 0), some (zI (s : Int))]) dX9_findGap_105 rfl rfl ?_
        refine zA_iconst dX9_findGap_106 rfl ?_
        refine zA_istore (ls' := [some (zR 110), some (zI ((sB (fun j => fitB (dRow u n (μ 114 30) (μ 112) (μ 113) (gW t j) (μ 114) t) (μ 124) (μ 125) s) g : Int))), some (zI (g : Int)), some (zI 0), some (zI 0)]) dX9_findGap_107 rfl rfl ?_
        refine zA_dr (ls' := [some (zR 110), some (zI ((sB (fun j => fitB (dRow u n (μ 114 30) (μ 112) (μ 113) (gW t j) (μ 114) t) (μ 124) (μ 125) s) g : Int))), some (zI (g : Int)), none, some (zI 0)]) 3 rfl ?_
        refine zA_leq (ls' := [some (zR 110), some (zI ((sB (fun j => fitB (dRow u n (μ 114 30) (μ 112) (μ 113) (gW t j) (μ 114) t) (μ 124) (μ 125) s) (g + 1) : Int))), some (zI (g : Int)), none, some (zI 0)]) (by simp only [sB]; rw [if_neg (fun q => Bool.false_ne_true (hp.symm.trans q))]) ?_
        refine l_X9_findGap2 d g _ ξ _ (by omega) (fun ξ1 y1 y2 y3 => ?_) _ 0 rfl (by omega) ξ (fun j hj => by omega) (fun _ _ => rfl) (fun _ _ => rfl)
        exact hnext ξ1 (fun j hj i hi => by
          by_cases e : j = g
          · rw [e, y1 i hi]; exact hE i hi
          · rw [y2 _ (by omega), f3 126 (by decide) (by decide)]; exact hen j (by omega) i hi) (fun c c1 c2 c3 => by rw [y3 c c3, f3 c c1 c2, hfr c c1 c2 c3])
    have hend := fun h => hend h
    refine zA_iload_n dX9_findGap_4 rfl ?_
    refine zA_aload_n dX9_findGap_5 rfl ?_
    refine zA_getE (w := (t : Int)) fX9_169 t_110 dX9_findGap_6 (by rw [hfr 110 (by decide) (by decide) (by decide)]; exact ht) ?_
    refine zA_icmp_gt (tgt := 147) dX9_findGap_9 rfl (fun h9 => ?_) (fun h9 => ?_)
    · refine zA_iload_n dX9_findGap_147 rfl ?_
      exact zA_ri dX9_findGap_148 ⟨by rw [show t + 1 = g by omega], fun j hj => hen j (by omega), hfr⟩
    · refine zA_aload_n dX9_findGap_12 rfl ?_
      refine zA_cVv (st := []) kX9_225 t_110 rfl rfl (c_X9_begin (d + 3) ν) rfl rfl rfl dX9_findGap_13 (zfit0 (by omega) rfl) (fun μ1 q1 => ?_)
      obtain ⟨q1a, q1b⟩ := q1
      have hk37 : zA RX9 cX9_findGap 5 (zRm (d + 5) 0) zN0 TF 0 μ1 37 [some (zR 110), some (zI ((sB (fun j => fitB (dRow u n (μ 114 30) (μ 112) (μ 113) (gW t j) (μ 114) t) (μ 124) (μ 125) s) g : Int))), some (zI (g : Int)), none, none] [zI (gW t g), zI (t : Int), zI 0, zR 110] (zPi (fun v ξ => v = (sB (fun j => fitB (dRow u n (μ 114 30) (μ 112) (μ 113) (gW t j) (μ 114) t) (μ 124) (μ 125) s) (t + 1) : Int) ∧ (∀ j, j < t + 1 → ∀ i, i < 30 → ξ 126 (30 * j + i) = (dRow u n (μ 114 30) (μ 112) (μ 113) (gW t j) (μ 114) t) i) ∧ (∀ c, c ≠ 122 → c ≠ 119 → c ≠ 126 → ξ c = μ c))) := by
        refine zA_cVv (st := []) kX9_228 t_110 rfl rfl (c_X9_goOn0 d μ1 n m t t u (gW t g) (hH.keep (by rw [q1b 110 (by decide), hfr 110 (by decide) (by decide) (by decide)]) (by rw [q1b 112 (by decide), hfr 112 (by decide) (by decide) (by decide)]) (by rw [q1b 113 (by decide), hfr 113 (by decide) (by decide) (by decide)])) (by omega) (rOk_congr hn5 hm6 (fun i hi => by rw [q1a i hi, hfr 114 (by decide) (by decide) (by decide)]) hok)) rfl rfl rfl dX9_findGap_37 (zfit0 (by omega) rfl) (fun μ2 q2 => ?_)
        obtain ⟨q2a, q2b⟩ := q2
        refine zA_iconst dX9_findGap_40 rfl ?_
        refine zA_istore_n (ls' := [some (zR 110), some (zI ((sB (fun j => fitB (dRow u n (μ 114 30) (μ 112) (μ 113) (gW t j) (μ 114) t) (μ 124) (μ 125) s) g : Int))), some (zI (g : Int)), some (zI 1), none]) dX9_findGap_41 rfl rfl ?_
        refine zA_iconst dX9_findGap_42 rfl ?_
        refine zA_istore (ls' := [some (zR 110), some (zI ((sB (fun j => fitB (dRow u n (μ 114 30) (μ 112) (μ 113) (gW t j) (μ 114) t) (μ 124) (μ 125) s) g : Int))), some (zI (g : Int)), some (zI 1), some (zI 0)]) dX9_findGap_43 rfl rfl ?_
        have hE : ∀ i, i < 30 → μ2 122 i = (dRow u n (μ 114 30) (μ 112) (μ 113) (gW t g) (μ 114) t) i := fun i hi => by rw [q2a, q1b 114 (by decide), q1b 112 (by decide), q1b 113 (by decide), hfr 114 (by decide) (by decide) (by decide), hfr 112 (by decide) (by decide) (by decide), hfr 113 (by decide) (by decide) (by decide)]; exact dRow_congrR hn5 hm6 hdk (fun i hi => by rw [q1a i hi, hfr 114 (by decide) (by decide) (by decide)]) (Nat.le_refl _) i hi
        have f3 : ∀ c, c ≠ 122 → c ≠ 119 → μ2 c = ν c := fun c c1 c2 => by rw [q2b c c1 c2, q1b c c1]
        have e110 : μ2 110 = μ 110 := by rw [f3 110 (by decide) (by decide), hfr 110 (by decide) (by decide) (by decide)]
        have e124 : μ2 124 = μ 124 := by rw [f3 124 (by decide) (by decide), hfr 124 (by decide) (by decide) (by decide)]
        have e125 : μ2 125 = μ 125 := by rw [f3 125 (by decide) (by decide), hfr 125 (by decide) (by decide) (by decide)]
        refine l_X9_findGap1 d g s _ μ2 _ hs8 (by rw [e110]; exact hs3) (by rw [e124]; exact hs5) ?_ _ 0 true rfl rfl (by omega)
        have hF : fitB (μ2 122) (μ2 124) (μ2 125) s = (fun j => fitB (dRow u n (μ 114 30) (μ 112) (μ 113) (gW t j) (μ 114) t) (μ 124) (μ 125) s) g := by
          rw [e124, e125]
          exact fitB_congr hE (fun _ _ => rfl) (fun _ _ => rfl) hs5
        rw [hF]
        exact hend (by omega) μ2 hE f3
      refine zA_aload_n dX9_findGap_16 rfl ?_
      refine zA_iconst dX9_findGap_17 rfl ?_
      refine zA_aload_n dX9_findGap_18 rfl ?_
      refine zA_getE (w := (t : Int)) fX9_169 t_110 dX9_findGap_19 (by rw [q1b 110 (by decide), hfr 110 (by decide) (by decide) (by decide)]; exact ht) ?_
      refine zA_iload_n dX9_findGap_22 rfl ?_
      refine zA_aload_n dX9_findGap_23 rfl ?_
      refine zA_getE (w := (t : Int)) fX9_169 t_110 dX9_findGap_24 (by rw [q1b 110 (by decide), hfr 110 (by decide) (by decide) (by decide)]; exact ht) ?_
      refine zA_icmp_ge (tgt := 36) dX9_findGap_27 rfl (fun h27 => ?_) (fun h27 => ?_)
      · refine zA_iconst dX9_findGap_36 rfl ?_
        refine zA_eq (st' := [zI (gW t g), zI (t : Int), zI 0, zR 110]) (by unfold gW; first | rw [if_pos (by omega)] | rw [if_neg (by omega)]) ?_
        exact hk37
      · refine zA_iconst dX9_findGap_30 rfl ?_
        refine zA_iload_n dX9_findGap_31 rfl ?_
        refine zA_ishlE (w := ((2 ^ g : Nat) : Int)) dX9_findGap_32 (zshl_1 g (by omega)) ?_
        refine zA_goto (tgt := 37) dX9_findGap_33 rfl ?_
        refine zA_eq (st' := [zI (gW t g), zI (t : Int), zI 0, zR 110]) (by unfold gW; first | rw [if_pos (by omega)] | rw [if_neg (by omega)]) ?_
        exact hk37
theorem c_X9_findGap (d : Nat) (μ : zM) (n m t s : Nat) (u : Int) (hH : zMs μ n m t u) (hok : rOk n m (μ 114)) (hs8 : s ≤ 8) (hs3 : μ 110 33 = s) (hs5 : ∀ k, k < s → 0 ≤ μ 124 k ∧ μ 124 k < 30) : zMet (d + 5) 0 yX9_findGap cX9_findGap 5 (some .int) TF μ [zR 110] (zPi (fun v ξ => v = (sB (fun j => fitB (dRow u n (μ 114 30) (μ 112) (μ 113) (gW t j) (μ 114) t) (μ 124) (μ 125) s) (t + 1) : Int) ∧ (∀ j, j < t + 1 → ∀ i, i < 30 → ξ 126 (30 * j + i) = (dRow u n (μ 114 30) (μ 112) (μ 113) (gW t j) (μ 114) t) i) ∧ (∀ c, c ≠ 122 → c ≠ 119 → c ≠ 126 → ξ c = μ c))) := by
  refine zMi_of RX9 rfl (by decide) rfl (ls := [some (zR 110), none, none, none, none]) rfl (fun hok0 => ?_)
  refine zA_iconst dX9_findGap_0 rfl ?_
  refine zA_istore_n (ls' := [some (zR 110), some (zI 0), none, none, none]) dX9_findGap_1 rfl rfl ?_
  refine zA_iconst dX9_findGap_2 rfl ?_
  refine zA_istore_n (ls' := [some (zR 110), some (zI 0), some (zI 0), none, none]) dX9_findGap_3 rfl rfl ?_
  exact l_X9_findGap d μ n m t s u hH hok hs8 hs3 hs5 _ 0 rfl (by omega) μ (fun j hj => by omega) (fun _ _ _ _ => rfl)
theorem c_X9_gap (d : Nat) (μ : zM) (n m t s : Nat) (u : Int) (hH : zMs μ n m t u) (hok : rOk n m (μ 114)) (hs8 : s ≤ 8) (hs3 : μ 110 33 = s) (hs5 : ∀ k, k < s → 0 ≤ μ 124 k ∧ μ 124 k < 30) : zMet (d + 6) 0 yX9_gap cX9_gap 1 (some .int) TF μ [zR 110] (zPi (fun v ξ => v = (sB (fun j => fitB (dRow u n (μ 114 30) (μ 112) (μ 113) (gW t j) (μ 114) t) (μ 124) (μ 125) s) (t + 1) : Int) ∧ (∀ j, j < t + 1 → ∀ i, i < 30 → ξ 126 (30 * j + i) = (dRow u n (μ 114 30) (μ 112) (μ 113) (gW t j) (μ 114) t) i) ∧ (∀ c, c ≠ 122 → c ≠ 119 → c ≠ 126 → ξ c = μ c))) := by
  refine zMi_of RX9 rfl (by decide) rfl (ls := [some (zR 110)]) rfl (fun hok0 => ?_)
  refine zA_aload_n dX9_gap_0 rfl ?_
  refine zA_cVi (st := []) kX9_266 t_110 rfl rfl (c_X9_findGap d μ n m t s u hH hok hs8 hs3 hs5) rfl rfl rfl dX9_gap_1 (zfit0 (by omega) rfl) (fun v1 μ1 q1 => ?_)
  obtain ⟨e1, e2, e3⟩ := q1
  exact zA_ri dX9_gap_4 ⟨e1, e2, e3⟩
theorem gap_row {μ : zM} {n m t : Nat} {u : Int} (hI : zInv μ n m t u) {j : Nat} (hj : j ≤ t) : ∀ i, lv n m i → (dRow u n (μ 52 1) (μ 3) (μ 4) ((2 ^ j : Nat) : Int) (μ 53) t) i = (dRow u n (μ 114 30) (μ 112) (μ 113) (gW t j) (μ 114) t) i := by
  obtain ⟨hn, hu, hm, ht0, hn5, hm6, ht10, hu1, hdk⟩ := hI.1.1
  intro i hi
  have hg : μ 52 1 = μ 114 30 := hI.2.1.2.2.1
  rw [dRow_gW hj ht10, hg]
  exact dRow_congrL hn5 hdk (fun k hk => (hI.1.2.2.2.2.2.1 k hk).1) (fun k hk => (hI.1.2.2.2.2.2.1 k hk).2) hI.row t (Nat.le_refl _) i hi
theorem gap_fit {μ : zM} {n m t s : Nat} {u : Int} (hI : zInv μ n m t u) (s5 : ∀ k, k < s → μ 97 k = μ 124 k ∧ μ 98 k = μ 125 k ∧ 0 ≤ μ 97 k ∧ μ 97 k < 30) (s6 : ∀ k, k < s → lv n m (μ 97 k).toNat) : sB (fun j => fitB (dRow u n (μ 52 1) (μ 3) (μ 4) ((2 ^ j : Nat) : Int) (μ 53) t) (μ 97) (μ 98) s) (t + 1) = sB (fun j => fitB (dRow u n (μ 114 30) (μ 112) (μ 113) (gW t j) (μ 114) t) (μ 124) (μ 125) s) (t + 1) :=
  sB_congr (fun j hj => fitB_congrL (gap_row hI (by omega)) (fun k hk => (s5 k hk).1) (fun k hk => (s5 k hk).2.1) s6)
theorem qC_gap {μ ν : zM} (h : (∀ c, c ≠ 5 → c ≠ 6 → c ≠ 7 → ¬ (40 ≤ c ∧ c ≤ 50) → ν c = μ c)) : qC μ ν := fun k hk => h k (fun e => hk (by unfold cScr; omega)) (fun e => hk (by unfold cScr; omega)) (fun e => hk (by unfold cScr; omega)) (fun e => hk (by unfold cScr; omega))
theorem qM_gap {μ ν : zM} (h : (∀ c, c ≠ 122 → c ≠ 119 → c ≠ 126 → ν c = μ c)) : qM μ ν := ⟨fun k _ h2 _ h4 _ h6 => h k h4 h2 h6, fun i _ _ => by rw [h 110 (by decide) (by decide) (by decide)]⟩
theorem pr_gap (μ : zM)  (n m t : Nat) (u : Int) (hI : zInv μ n m t u) : zPair yX8_gap cX8_gap 1 yX9_gap cX9_gap 1 [] μ := by
  have hI0 := hI
  obtain ⟨hh, hst, ht, hmm, ⟨s, s1, s2, s3, s4, s5, s6⟩, h2, h3, h4⟩ := hI
  refine zPair_q hI0 (sB (fun j => fitB (dRow u n (μ 114 30) (μ 112) (μ 113) (gW t j) (μ 114) t) (μ 124) (μ 125) s) (t + 1) : Int) (zMi_mono (c_X8_gap 13 μ n m t s u hh.1 hst.2.1 s1 s2 (fun k hk => (s5 k hk).2.2)) ?_) (fun ν hq hν => zMi_mono (c_X9_gap 14 ν n m t s u hν.1.2.1 hν.mrow s1 (by rw [hq 110 (by unfold cScr; omega)]; exact s3) (fun k hk => by rw [hq 124 (by unfold cScr; omega), ← (s5 k hk).1]; exact (s5 k hk).2.2)) ?_)
  · rintro v ν ⟨e1, e2, e3⟩
    exact ⟨by rw [e1, gap_fit hI0 s5 s6], qC_gap e3⟩
  · rintro v ξ ⟨e1, e2, e3⟩
    refine ⟨?_, qM_gap e3⟩
    rw [e1, hq 114 (by unfold cScr; omega), hq 112 (by unfold cScr; omega), hq 113 (by unfold cScr; omega), hq 124 (by unfold cScr; omega), hq 125 (by unfold cScr; omega)]
