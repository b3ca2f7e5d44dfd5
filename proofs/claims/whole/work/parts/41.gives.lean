/-! ===== gives, judge ===== -/
theorem gGv_congr {u : Int} {n : Nat} {p q : Nat → Int} (h : ∀ j, j < n → p j = q j) {j : Nat} (hj : j < n) : gGv u p n j = gGv u q n j := by
  have hr : ∀ j, j < n → gRs u p j = gRs u q j := fun j hj => by unfold gRs; rw [h j hj]
  have hbs : ∀ j, j < n → gBs u p j = gBs u q j := fun j hj => by unfold gBs; rw [h j hj]
  have hl : gLf u p n = gLf u q n := by unfold gLf; rw [gS_congr hbs]
  have hB : ∀ (dn : Nat → Bool) (k : Nat), k ≤ n → gBest (gRs u p) dn k = gBest (gRs u q) dn k := by
    intro dn k
    induction k with
    | zero => intro _; rfl
    | succ k ih =>
      intro hk
      simp only [gBest]
      rw [ih (by omega)]
      cases hc : gBest (gRs u q) dn k with
      | none => rfl
      | some c =>
        have := (gBest_is hc).1
        simp only [hr k (by omega), hr c (by omega)]
  have hD : ∀ k, gDone (gRs u p) n k = gDone (gRs u q) n k := by
    intro k
    induction k with
    | zero => rfl
    | succ k ih =>
      funext j
      simp only [gDone]
      rw [ih, hB _ n (Nat.le_refl _)]
  unfold gGv
  rw [hbs j hj, hl, hD]
theorem rOk_congr {n m : Nat} {p q : Nat → Int} (hn : n ≤ 5) (hm : m ≤ 6) (h : ∀ i, i < 30 → p i = q i) (hp : rOk n m p) : rOk n m q := fun a ha => gOk_congr (fun j hj => h _ (by omega)) (hp a ha)
/-- the first below k of which p holds -/
def fB (p : Nat → Bool) : Nat → Option Nat
  | 0 => none
  | k + 1 => match fB p k with
    | some j => some j
    | none => if p k then some k else none
theorem fB_no {p : Nat → Bool} {k : Nat} (h : fB p k = none) (hp : p k = false) : fB p (k + 1) = none := by
  simp only [fB]
  rw [h]
  simp [hp]
theorem fB_yes {p : Nat → Bool} {k : Nat} (h : fB p k = none) (hp : p k = true) : ∀ s, k < s → fB p s = some k
  | 0, hs => by omega
  | s + 1, hs => by
    simp only [fB]
    by_cases e : k = s
    · subst e
      rw [h]
      simp [hp]
    · rw [fB_yes h hp s (by omega)]
theorem fB_congr {p q : Nat → Bool} : ∀ {s : Nat}, (∀ j, j < s → p j = q j) → fB p s = fB q s
  | 0, _ => rfl
  | s + 1, h => by
    simp only [fB]
    rw [fB_congr (fun j hj => h j (by omega)), h s (by omega)]
theorem fB_lt {p : Nat → Bool} : ∀ {s j : Nat}, fB p s = some j → j < s ∧ p j = true
  | 0, j, h => by simp [fB] at h
  | s + 1, j, h => by
    simp only [fB] at h
    cases hs : fB p s with
    | some i =>
      rw [hs] at h
      cases h
      have := fB_lt hs
      exact ⟨by omega, this.2⟩
    | none =>
      rw [hs] at h
      simp only at h
      split at h
      · next hp => cases h; exact ⟨by omega, hp⟩
      · cases h
theorem fB_non {p : Nat → Bool} : ∀ {s : Nat}, fB p s = none → ∀ j, j < s → p j = false
  | 0, _, j, hj => by omega
  | s + 1, h, j, hj => by
    simp only [fB] at h
    cases hs : fB p s with
    | some i => rw [hs] at h; cases h
    | none =>
      rw [hs] at h
      simp only at h
      by_cases e : j = s
      · subst e
        cases hp : p j with
        | false => rfl
        | true => rw [hp] at h; simp at h
      · exact fB_non hs j (by omega)
theorem c_X2_giftOfI (d : Nat) (μ : zM) (p n m t : Nat) (u a c : Int) (hp : znth TF p = some (10, 30, [])) (hH : zHs μ n m t u) (ha : 0 ≤ a ∧ a < m) (hc : 0 ≤ c ∧ c < n) (hok : rOk n m (μ p)) : zMet (d + 3) 0 yX2_giftOf cX2_giftOf 4 (some .int) TF μ [zR 1, zR p, zI a, zI c] (zPi (fun v ν => v = gGv u (gP (μ p) a.toNat) n c.toNat ∧ ∀ k, k ≠ 5 → k ≠ 7 → ν k = μ k)) := by
  obtain ⟨a', rfl⟩ := Int.eq_ofNat_of_zero_le ha.1
  obtain ⟨c', rfl⟩ := Int.eq_ofNat_of_zero_le hc.1
  exact c_X2_giftOf d μ p n m t u a' c' hp hH (by omega) (by omega) hok
theorem c_X9_giveOfI (d : Nat) (μ : zM) (q to n rl : Nat) (u a : Int) (hq : znth TF q = some (10, rl, [])) (hrl : 30 ≤ rl) (hq119 : q ≠ 119) (hto : to ≤ 5) (hn : μ 110 0 = n) (h5 : n ≤ 5) (hu : μ 110 1 = u) (hu1 : 0 ≤ u ∧ u ≤ 30) (ha : 0 ≤ a ∧ a < 6) (hok : gOk (gP (μ q) a.toNat) n) : zMet (d + 2) 0 yX9_giveOf cX9_giveOf 9 none TF μ [zR 110, zR q, zI a, zI (to : Int)] (zPv (fun ν => (∀ j, j < n → ν 119 (to + j) = gGv u (gP (μ q) a.toNat) n j) ∧ (∀ k, k ≠ 119 → ν k = μ k) ∧ (∀ i, (i < to ∨ to + n ≤ i) → ν 119 i = μ 119 i))) := by
  obtain ⟨a', rfl⟩ := Int.eq_ofNat_of_zero_le ha.1
  exact c_X9_giveOf d μ q a' to n rl u hq hrl hq119 hto hn h5 hu hu1 (by omega) hok
theorem c_X8_gives (d : Nat) (a c : Int) (μ : zM) (n m t : Nat) (u : Int) (hH : zHs μ n m t u) (hok : rOk n m (μ 53)) : zMet (d + 4) 0 yX8_gives cX8_gives 3 (some .int) TF μ [zR 0, zI a, zI c] (zPi (fun v ν => v = (if ((0 ≤ a ∧ a < m) ∧ (0 ≤ c ∧ c < n)) then gGv u (gP (μ 53) a.toNat) n c.toNat else -1000000001) ∧ ∀ k, k ≠ 5 → k ≠ 7 → ν k = μ k)) := by
  obtain ⟨hn, hu, hm, ht, hn5, hm6, ht10, hu1, hdk⟩ := hH
  refine zMi_of RX8 rfl (by decide) rfl (ls := [some (zR 0), some (zI a), some (zI c)]) rfl (fun hok0 => ?_)
  refine zA_aload_n dX8_gives_0 rfl ?_
  refine zA_getR fX8_12 t_0 rfl dX8_gives_1 ?_
  refine zA_iload_n dX8_gives_4 rfl ?_
  refine zA_iload_n dX8_gives_5 rfl ?_
  refine zA_cVb (st := []) kX8_140 t_1 rfl rfl (c_X2_hasCell (d + 1) a c μ) rfl rfl rfl dX8_gives_6 (zfit0 (by omega) rfl) (fun v1 μ1 q1 => ?_)
  obtain ⟨b1, rfl⟩ := q1
  rw [hn, hm] at b1
  refine zA_ifb_eq (tgt := 31) dX8_gives_9 rfl (fun h9 => ?_) (fun h9 => ?_)
  · refine zA_ldc cX8_151 dX8_gives_31 rfl ?_
    exact zA_ri dX8_gives_33 ⟨by rw [if_neg (by intro q; first | (have := b1.mpr q.1; simp_all; done) | (have := b2.mpr q.2; simp_all; done) | (have := b1.mpr q; simp_all; done))], fun _ _ _ => rfl⟩
  · have hb := b1.mp h9
    refine zA_aload_n dX8_gives_12 rfl ?_
    refine zA_getR fX8_12 t_0 rfl dX8_gives_13 ?_
    refine zA_aload_n dX8_gives_16 rfl ?_
    refine zA_getR fX8_47 t_0 rfl dX8_gives_17 ?_
    refine zA_getR fX8_144 t_52 rfl dX8_gives_20 ?_
    refine zA_iload_n dX8_gives_23 rfl ?_
    refine zA_iload_n dX8_gives_24 rfl ?_
    refine zA_cVi (st := []) kX8_155 t_1 rfl rfl (c_X2_giftOfI d μ 53 n m t u a c t_53 ⟨hn, hu, hm, ht, hn5, hm6, ht10, hu1, hdk⟩ hb.1 hb.2 hok) rfl rfl rfl dX8_gives_25 (zfit0 (by omega) rfl) (fun v2 μ2 q2 => ?_)
    obtain ⟨rfl, q2b⟩ := q2
    refine zA_goto (tgt := 33) dX8_gives_28 rfl ?_
    exact zA_ri dX8_gives_33 ⟨by rw [if_pos hb], q2b⟩
theorem c_X9_gives (d : Nat) (a c : Int) (μ : zM) (n m t : Nat) (u : Int) (hH : zMs μ n m t u) (hok : rOk n m (μ 114)) : zMet (d + 3) 0 yX9_gives cX9_gives 3 (some .int) TF μ [zR 110, zI a, zI c] (zPi (fun v ν => v = (if ((0 ≤ a ∧ a < m) ∧ (0 ≤ c ∧ c < n)) then gGv u (gP (μ 114) a.toNat) n c.toNat else -1000000001) ∧ ∀ k, k ≠ 119 → ν k = μ k)) := by
  obtain ⟨hn, hu, hm, ht, hn5, hm6, ht10, hu1, hdk⟩ := hH
  refine zMi_of RX9 rfl (by decide) rfl (ls := [some (zR 110), some (zI a), some (zI c)]) rfl (fun hok0 => ?_)
  refine zA_aload_n dX9_gives_0 rfl ?_
  refine zA_iload_n dX9_gives_1 rfl ?_
  refine zA_cVb (st := []) kX9_187 t_110 rfl rfl (c_X9_isCoat d a μ (by omega)) rfl rfl rfl dX9_gives_2 (zfit0 (by omega) rfl) (fun v1 μ1 q1 => ?_)
  obtain ⟨b1, rfl⟩ := q1
  rw [hm] at b1
  refine zA_ifb_eq (tgt := 16) dX9_gives_5 rfl (fun h5 => ?_) (fun h5 => ?_)
  · refine zA_ldc cX9_194 dX9_gives_16 rfl ?_
    exact zA_ri dX9_gives_18 ⟨by rw [if_neg (by intro q; first | (have := b1.mpr q.1; simp_all; done) | (have := b2.mpr q.2; simp_all; done) | (have := b1.mpr q; simp_all; done))], fun _ _ => rfl⟩
  · refine zA_aload_n dX9_gives_8 rfl ?_
    refine zA_iload_n dX9_gives_9 rfl ?_
    refine zA_cVb (st := []) kX9_191 t_110 rfl rfl (c_X9_isColour d c μ (by omega)) rfl rfl rfl dX9_gives_10 (zfit0 (by omega) rfl) (fun v2 μ2 q2 => ?_)
    obtain ⟨b2, rfl⟩ := q2
    rw [hn] at b2
    refine zA_ifb_ne (tgt := 19) dX9_gives_13 rfl (fun h13 => ?_) (fun h13 => ?_)
    · have hb := And.intro (b1.mp (by simpa using h5)) (b2.mp (by simpa using h13))
      refine zA_aload_n dX9_gives_19 rfl ?_
      refine zA_aload_n dX9_gives_20 rfl ?_
      refine zA_getR fX9_19 t_110 rfl dX9_gives_21 ?_
      refine zA_iload_n dX9_gives_24 rfl ?_
      refine zA_iconst dX9_gives_25 rfl ?_
      refine zA_cVv (st := []) kX9_195 t_110 rfl rfl (c_X9_giveOfI d μ 114 0 n 33 u a t_114 (by decide) (by decide) (by decide) hn hn5 hu hu1 (by omega) (hok a.toNat (by omega))) rfl rfl rfl dX9_gives_26 (zfit0 (by omega) rfl) (fun μ3 q3 => ?_)
      obtain ⟨q3a, q3b, q3c⟩ := q3
      refine zA_aload_n dX9_gives_29 rfl ?_
      refine zA_getR fX9_38 t_110 rfl dX9_gives_30 ?_
      refine zA_iload_n dX9_gives_33 rfl ?_
      refine zA_ialE (w := gGv u (gP (μ 114) a.toNat) n c.toNat) (j := c.toNat) t_119 (by omega) (by omega) dX9_gives_34 rfl (by rw [← q3a c.toNat (by omega), Nat.zero_add]) ?_
      exact zA_ri dX9_gives_35 ⟨by rw [if_pos hb], q3b⟩
    · refine zA_ldc cX9_194 dX9_gives_16 rfl ?_
      exact zA_ri dX9_gives_18 ⟨by rw [if_neg (by intro q; first | (have := b1.mpr q.1; simp_all; done) | (have := b2.mpr q.2; simp_all; done) | (have := b1.mpr q; simp_all; done))], fun _ _ => rfl⟩
theorem pr_gives (μ : zM) (a c : Int) (n m t : Nat) (u : Int) (hI : zInv μ n m t u) : zPair yX8_gives cX8_gives 3 yX9_gives cX9_gives 3 [zI a, zI c] μ := by
  have hn5 := hI.1.1.2.2.2.2.1
  have hm6 := hI.1.1.2.2.2.2.2.1
  have hR := hI.2.1.1
  refine zPair_q hI (if ((0 ≤ a ∧ a < m) ∧ (0 ≤ c ∧ c < n)) then gGv u (gP (μ 114) a.toNat) n c.toNat else -1000000001) (zMi_mono (c_X8_gives 16 a c μ n m t u hI.1.1 hI.2.1.2.1) ?_) (fun ν hq hν => zMi_mono (c_X9_gives 17 a c ν n m t u hν.1.2.1 (rOk_congrL hn5 (fun i hi => by have := hν.2.1.1 i hi; rw [Nat.zero_add] at this; exact this) hν.2.1.2.1)) ?_)
  · rintro v ν ⟨rfl, hf⟩
    refine ⟨?_, fun k hk => hf k (fun e => hk (Or.inl e)) (fun e => hk (Or.inr (Or.inr (Or.inl e))))⟩
    by_cases hb : (0 ≤ a ∧ a < m) ∧ (0 ≤ c ∧ c < n)
    · rw [if_pos hb, if_pos hb]
      exact gGv_congr (fun j hj => by unfold gP; rw [hR _ (by omega), Nat.zero_add]) (by omega)
    · rw [if_neg hb, if_neg hb]
  · rintro v ξ ⟨rfl, hf⟩
    exact ⟨by rw [hq 114 (by unfold cScr; omega)], fun k h1 h2 _ _ _ _ => hf k h2, fun i _ _ => by rw [hf 110 (by decide)]⟩
theorem l_X3_firstWrong96 (d : Nat) (μ : zM) (p s : Nat) (hp : znth TF p = some (10, 30, [])) (hs : s ≤ 8) (h3 : μ 96 3 = s) (hc : ∀ k, k < s → 0 ≤ μ 97 k ∧ μ 97 k < 30) : ∀ (t0 k : Nat), s - k = t0 → k ≤ s → fB (fun k => decide (μ p (μ 97 k).toNat ≠ μ 98 k)) k = none → zA RX3 cX3_firstWrong 3 (zRm (d + 1) 0) zN0 TF 0 μ 2 [some (zR 96), some (zR p), some (zI (k : Int))] [] (zPi (fun v ν => v = gOb (fB (fun k => decide (μ p (μ 97 k).toNat ≠ μ 98 k)) s) ∧ μ = ν)) := by
  intro t0
  induction t0 using Nat.strongRecOn with
  | ind t0 ih =>
    intro k hk hks hn
    refine zA_iload_n dX3_firstWrong_2 rfl ?_
    refine zA_aload_n dX3_firstWrong_3 rfl ?_
    refine zA_getE (w := (s : Int)) fX3_22 t_96 dX3_firstWrong_4 h3 ?_
    refine zA_icmp_ge (tgt := 35) dX3_firstWrong_7 rfl (fun h7 => ?_) (fun h7 => ?_)
    · refine zA_iconst dX3_firstWrong_35 rfl ?_
      exact zA_ri dX3_firstWrong_36 ⟨by rw [show s = k by omega, hn]; rfl, rfl⟩
    · have hck := hc k (by omega)
      refine zA_aload_n dX3_firstWrong_10 rfl ?_
      refine zA_aload_n dX3_firstWrong_11 rfl ?_
      refine zA_getR fX3_15 t_96 rfl dX3_firstWrong_12 ?_
      refine zA_iload_n dX3_firstWrong_15 rfl ?_
      refine zA_ialE (w := μ 97 k) (j := k) t_97 (by omega) (by omega) dX3_firstWrong_16 rfl rfl ?_
      refine zA_ialE (w := μ p ((μ 97 k).toNat)) (j := (μ 97 k).toNat) hp (by omega) (by omega) dX3_firstWrong_17 rfl rfl ?_
      refine zA_aload_n dX3_firstWrong_18 rfl ?_
      refine zA_getR fX3_19 t_96 rfl dX3_firstWrong_19 ?_
      refine zA_iload_n dX3_firstWrong_22 rfl ?_
      refine zA_ialE (w := μ 98 k) (j := k) t_98 (by omega) (by omega) dX3_firstWrong_23 rfl rfl ?_
      refine zA_icmp_eq (tgt := 29) dX3_firstWrong_24 rfl (fun h24 => ?_) (fun h24 => ?_)
      · refine zA_iincB (ls' := [some (zR 96), some (zR p), some (zI ((k : Int) + 1))]) dX3_firstWrong_29 rfl rfl ⟨by omega, by omega⟩ rfl ?_
        refine zA_goto (tgt := 2) dX3_firstWrong_32 rfl ?_
        exact ih _ (by omega) (k + 1) rfl (by omega) (fB_no hn (by simpa using h24))
      · refine zA_iload_n dX3_firstWrong_27 rfl ?_
        exact zA_ri dX3_firstWrong_28 ⟨by rw [fB_yes hn (by simpa using h24) s (by omega)]; rfl, rfl⟩
theorem c_X3_firstWrong96 (d : Nat) (μ : zM) (p s : Nat) (hp : znth TF p = some (10, 30, [])) (hs : s ≤ 8) (h3 : μ 96 3 = s) (hc : ∀ k, k < s → 0 ≤ μ 97 k ∧ μ 97 k < 30) : zMet (d + 1) 0 yX3_firstWrong cX3_firstWrong 3 (some .int) TF μ [zR 96, zR p] (zPi (fun v ν => v = gOb (fB (fun k => decide (μ p (μ 97 k).toNat ≠ μ 98 k)) s) ∧ μ = ν)) := by
  refine zMi_of RX3 rfl (by decide) rfl (ls := [some (zR 96), some (zR p), none]) rfl (fun hok => ?_)
  refine zA_iconst dX3_firstWrong_0 rfl ?_
  refine zA_istore_n (ls' := [some (zR 96), some (zR p), some (zI 0)]) dX3_firstWrong_1 rfl rfl ?_
  exact l_X3_firstWrong96 d μ p s hp hs h3 hc _ 0 rfl (by omega) rfl
theorem l_X3_firstWrong99 (d : Nat) (μ : zM) (p s : Nat) (hp : znth TF p = some (10, 30, [])) (hs : s ≤ 15) (h3 : μ 99 3 = s) (hc : ∀ k, k < s → 0 ≤ μ 100 k ∧ μ 100 k < 30) : ∀ (t0 k : Nat), s - k = t0 → k ≤ s → fB (fun k => decide (μ p (μ 100 k).toNat ≠ μ 101 k)) k = none → zA RX3 cX3_firstWrong 3 (zRm (d + 1) 0) zN0 TF 0 μ 2 [some (zR 99), some (zR p), some (zI (k : Int))] [] (zPi (fun v ν => v = gOb (fB (fun k => decide (μ p (μ 100 k).toNat ≠ μ 101 k)) s) ∧ μ = ν)) := by
  intro t0
  induction t0 using Nat.strongRecOn with
  | ind t0 ih =>
    intro k hk hks hn
    refine zA_iload_n dX3_firstWrong_2 rfl ?_
    refine zA_aload_n dX3_firstWrong_3 rfl ?_
    refine zA_getE (w := (s : Int)) fX3_22 t_99 dX3_firstWrong_4 h3 ?_
    refine zA_icmp_ge (tgt := 35) dX3_firstWrong_7 rfl (fun h7 => ?_) (fun h7 => ?_)
    · refine zA_iconst dX3_firstWrong_35 rfl ?_
      exact zA_ri dX3_firstWrong_36 ⟨by rw [show s = k by omega, hn]; rfl, rfl⟩
    · have hck := hc k (by omega)
      refine zA_aload_n dX3_firstWrong_10 rfl ?_
      refine zA_aload_n dX3_firstWrong_11 rfl ?_
      refine zA_getR fX3_15 t_99 rfl dX3_firstWrong_12 ?_
      refine zA_iload_n dX3_firstWrong_15 rfl ?_
      refine zA_ialE (w := μ 100 k) (j := k) t_100 (by omega) (by omega) dX3_firstWrong_16 rfl rfl ?_
      refine zA_ialE (w := μ p ((μ 100 k).toNat)) (j := (μ 100 k).toNat) hp (by omega) (by omega) dX3_firstWrong_17 rfl rfl ?_
      refine zA_aload_n dX3_firstWrong_18 rfl ?_
      refine zA_getR fX3_19 t_99 rfl dX3_firstWrong_19 ?_
      refine zA_iload_n dX3_firstWrong_22 rfl ?_
      refine zA_ialE (w := μ 101 k) (j := k) t_101 (by omega) (by omega) dX3_firstWrong_23 rfl rfl ?_
      refine zA_icmp_eq (tgt := 29) dX3_firstWrong_24 rfl (fun h24 => ?_) (fun h24 => ?_)
      · refine zA_iincB (ls' := [some (zR 99), some (zR p), some (zI ((k : Int) + 1))]) dX3_firstWrong_29 rfl rfl ⟨by omega, by omega⟩ rfl ?_
        refine zA_goto (tgt := 2) dX3_firstWrong_32 rfl ?_
        exact ih _ (by omega) (k + 1) rfl (by omega) (fB_no hn (by simpa using h24))
      · refine zA_iload_n dX3_firstWrong_27 rfl ?_
        exact zA_ri dX3_firstWrong_28 ⟨by rw [fB_yes hn (by simpa using h24) s (by omega)]; rfl, rfl⟩
theorem c_X3_firstWrong99 (d : Nat) (μ : zM) (p s : Nat) (hp : znth TF p = some (10, 30, [])) (hs : s ≤ 15) (h3 : μ 99 3 = s) (hc : ∀ k, k < s → 0 ≤ μ 100 k ∧ μ 100 k < 30) : zMet (d + 1) 0 yX3_firstWrong cX3_firstWrong 3 (some .int) TF μ [zR 99, zR p] (zPi (fun v ν => v = gOb (fB (fun k => decide (μ p (μ 100 k).toNat ≠ μ 101 k)) s) ∧ μ = ν)) := by
  refine zMi_of RX3 rfl (by decide) rfl (ls := [some (zR 99), some (zR p), none]) rfl (fun hok => ?_)
  refine zA_iconst dX3_firstWrong_0 rfl ?_
  refine zA_istore_n (ls' := [some (zR 99), some (zR p), some (zI 0)]) dX3_firstWrong_1 rfl rfl ?_
  exact l_X3_firstWrong99 d μ p s hp hs h3 hc _ 0 rfl (by omega) rfl
theorem c_X8_judge (d : Nat) (μ : zM) (s : Nat) (hs : s ≤ 15) (h3 : μ 99 3 = s) (hc : ∀ k, k < s → 0 ≤ μ 100 k ∧ μ 100 k < 30) : zMet (d + 2) 0 yX8_judge cX8_judge 1 (some .int) TF μ [zR 0] (zPi (fun v ν => v = (gOb (fB (fun k => decide (μ 53 (μ 100 k).toNat ≠ μ 101 k)) s)) ∧ μ = ν)) := by
  refine zMi_of RX8 rfl (by decide) rfl (ls := [some (zR 0)]) rfl (fun hok => ?_)
  refine zA_aload_n dX8_judge_0 rfl ?_
  refine zA_getR fX8_67 t_0 rfl dX8_judge_1 ?_
  refine zA_aload_n dX8_judge_4 rfl ?_
  refine zA_getR fX8_47 t_0 rfl dX8_judge_5 ?_
  refine zA_getR fX8_144 t_52 rfl dX8_judge_8 ?_
  refine zA_cVi (st := []) kX8_269 t_99 rfl rfl (c_X3_firstWrong99 d μ 53 s t_53 hs h3 hc) rfl rfl rfl dX8_judge_11 (zfit0 (by omega) rfl) (fun v1 μ1 q1 => ?_)
  obtain ⟨rfl, rfl⟩ := q1
  exact zA_ri dX8_judge_14 ⟨rfl, rfl⟩
theorem l_X9_judge (d : Nat) (μ : zM) (s : Nat) (hs : s ≤ 15) (h3 : μ 110 37 = s) (hc : ∀ k, k < s → 0 ≤ μ 127 k ∧ μ 127 k < 30) : ∀ (t0 k : Nat), s - k = t0 → k ≤ s → fB (fun k => decide (μ 114 (μ 127 k).toNat ≠ μ 128 k)) k = none → zA RX9 cX9_judge 2 (zRm (d + 1) 0) zN0 TF 0 μ 2 [some (zR 110), some (zI (k : Int))] [] (zPi (fun v ν => v = gOb (fB (fun k => decide (μ 114 (μ 127 k).toNat ≠ μ 128 k)) s) ∧ μ = ν)) := by
  intro t0
  induction t0 using Nat.strongRecOn with
  | ind t0 ih =>
    intro k hk hks hn
    refine zA_iload_n dX9_judge_2 rfl ?_
    refine zA_aload_n dX9_judge_3 rfl ?_
    refine zA_getE (w := (s : Int)) fX9_181 t_110 dX9_judge_4 h3 ?_
    refine zA_icmp_ge (tgt := 38) dX9_judge_7 rfl (fun h7 => ?_) (fun h7 => ?_)
    · refine zA_iconst dX9_judge_38 rfl ?_
      exact zA_ri dX9_judge_39 ⟨by rw [show s = k by omega, hn]; rfl, rfl⟩
    · have hck := hc k (by omega)
      refine zA_aload_n dX9_judge_10 rfl ?_
      refine zA_getR fX9_19 t_110 rfl dX9_judge_11 ?_
      refine zA_aload_n dX9_judge_14 rfl ?_
      refine zA_getR fX9_62 t_110 rfl dX9_judge_15 ?_
      refine zA_iload_n dX9_judge_18 rfl ?_
      refine zA_ialE (w := μ 127 k) (j := k) t_127 (by omega) (by omega) dX9_judge_19 rfl rfl ?_
      refine zA_ialE (w := μ 114 ((μ 127 k).toNat)) (j := (μ 127 k).toNat) t_114 (by omega) (by omega) dX9_judge_20 rfl rfl ?_
      refine zA_aload_n dX9_judge_21 rfl ?_
      refine zA_getR fX9_65 t_110 rfl dX9_judge_22 ?_
      refine zA_iload_n dX9_judge_25 rfl ?_
      refine zA_ialE (w := μ 128 k) (j := k) t_128 (by omega) (by omega) dX9_judge_26 rfl rfl ?_
      refine zA_icmp_eq (tgt := 32) dX9_judge_27 rfl (fun h27 => ?_) (fun h27 => ?_)
      · refine zA_iincB (ls' := [some (zR 110), some (zI ((k : Int) + 1))]) dX9_judge_32 rfl rfl ⟨by omega, by omega⟩ rfl ?_
        refine zA_goto (tgt := 2) dX9_judge_35 rfl ?_
        exact ih _ (by omega) (k + 1) rfl (by omega) (fB_no hn (by simpa using h27))
      · refine zA_iload_n dX9_judge_30 rfl ?_
        exact zA_ri dX9_judge_31 ⟨by rw [fB_yes hn (by simpa using h27) s (by omega)]; rfl, rfl⟩
theorem c_X9_judge (d : Nat) (μ : zM) (s : Nat) (hs : s ≤ 15) (h3 : μ 110 37 = s) (hc : ∀ k, k < s → 0 ≤ μ 127 k ∧ μ 127 k < 30) : zMet (d + 1) 0 yX9_judge cX9_judge 2 (some .int) TF μ [zR 110] (zPi (fun v ν => v = gOb (fB (fun k => decide (μ 114 (μ 127 k).toNat ≠ μ 128 k)) s) ∧ μ = ν)) := by
  refine zMi_of RX9 rfl (by decide) rfl (ls := [some (zR 110), none]) rfl (fun hok => ?_)
  refine zA_iconst dX9_judge_0 rfl ?_
  refine zA_istore_n (ls' := [some (zR 110), some (zI 0)]) dX9_judge_1 rfl rfl ?_
  exact l_X9_judge d μ s hs h3 hc _ 0 rfl (by omega) rfl
theorem pr_judge (μ : zM)  (n m t : Nat) (u : Int) (hI : zInv μ n m t u) : zPair yX8_judge cX8_judge 1 yX9_judge cX9_judge 2 [] μ := by
  have hI0 := hI
  obtain ⟨hh, hst, ht, hm, h1, ⟨s, s1, s2, s3, s4, s5, s6⟩, h3, h4⟩ := hI
  refine zPair_q hI0 (gOb (fB (fun k => decide (μ 114 (μ 127 k).toNat ≠ μ 128 k)) s)) (zMi_mono (c_X8_judge 18 μ s s1 s2 (fun k hk => ⟨(s5 k hk).2.2.1, (s5 k hk).2.2.2⟩)) ?_) (fun ν hq hν => zMi_mono (c_X9_judge 19 ν s s1 (by rw [hq 110 (by unfold cScr; omega)]; exact s3) (fun k hk => by rw [hq 127 (by unfold cScr; omega), ← (s5 k hk).1]; exact ⟨(s5 k hk).2.2.1, (s5 k hk).2.2.2⟩)) ?_)
  · rintro v ν ⟨rfl, rfl⟩
    refine ⟨?_, qC.refl _⟩
    rw [fB_congr (fun k hk => ?_)]
    have := s5 k hk
    rw [hst.1 _ (s6 k hk), Nat.zero_add, this.1, this.2.1]
  · rintro v ξ ⟨rfl, rfl⟩
    exact ⟨by rw [hq 114 (by unfold cScr; omega), hq 127 (by unfold cScr; omega), hq 128 (by unfold cScr; omega)], qM.refl _⟩
