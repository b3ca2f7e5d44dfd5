/-! ===== parts, own, planned, seed, tear, feed, see, write ===== -/
theorem iHouse.keep {μ ν : zM} {n m t : Nat} {u : Int} (h : iHouse μ n m t u) (h1 : ν 1 = μ 1) (h2 : ν 2 = μ 2) (h3 : ν 3 = μ 3) (h4 : ν 4 = μ 4) (h5 : ν 111 = μ 111) (h6 : ν 112 = μ 112) (h7 : ν 113 = μ 113) (k0 : ν 110 0 = μ 110 0) (k1 : ν 110 1 = μ 110 1) (k2 : ν 110 2 = μ 110 2) (k4 : ν 110 4 = μ 110 4) (k5 : ν 110 5 = μ 110 5) : iHouse ν n m t u := by
  unfold iHouse zHs zMs at *
  rw [h1, h2, h3, h4, h5, h6, h7, k0, k1, k2, k4, k5]
  exact h
theorem iText.keep {μ ν : zM} (h : iText μ) (h1 : ν 8 2 = μ 8 2) (h2 : ν 16 = μ 16) (h3 : ν 115 = μ 115) (h4 : ν 110 11 = μ 110 11) : iText ν := by
  unfold iText at *
  rw [h1, h2, h3, h4]
  exact h
theorem iMisc.keep {μ ν : zM} (h : iMisc μ) (h1 : ν 0 15 = μ 0 15) (h2 : ν 0 14 = μ 0 14) (h3 : ν 110 12 = μ 110 12) (h4 : ν 110 9 = μ 110 9) : iMisc ν := by
  unfold iMisc at *
  rw [h1, h2, h3, h4]
  exact h
theorem c_X8_parts (d : Nat) (a c : Int) (μ : zM) (n m t : Nat) (u : Int) (hH : zHs μ n m t u) : zMet (d + 3) 0 yX8_parts cX8_parts 3 (some .int) TF μ [zR 0, zI a, zI c] (zPi (fun v ν => v = (if ((0 ≤ a ∧ a < m) ∧ (0 ≤ c ∧ c < n)) then μ 53 (a * 5 + c).toNat else -1000000001) ∧ μ = ν)) := by
  obtain ⟨hn, hu, hm, ht, hn5, hm6, ht10, hu1, hdk⟩ := hH
  refine zMi_of RX8 rfl (by decide) rfl (ls := [some (zR 0), some (zI a), some (zI c)]) rfl (fun hok => ?_)
  refine zA_aload_n dX8_parts_0 rfl ?_
  refine zA_getR fX8_12 t_0 rfl dX8_parts_1 ?_
  refine zA_iload_n dX8_parts_4 rfl ?_
  refine zA_iload_n dX8_parts_5 rfl ?_
  refine zA_cVb (st := []) kX8_140 t_1 rfl rfl (c_X2_hasCell d a c μ) rfl rfl rfl dX8_parts_6 (zfit0 (by omega) rfl) (fun v1 μ1 q1 => ?_)
  obtain ⟨b1, rfl⟩ := q1
  rw [hn, hm] at b1
  refine zA_ifb_eq (tgt := 28) dX8_parts_9 rfl (fun h9 => ?_) (fun h9 => ?_)
  · refine zA_ldc cX8_151 dX8_parts_28 rfl ?_
    exact zA_ri dX8_parts_30 ⟨by rw [if_neg (by intro q; first | (have := b1.mpr q.1; simp_all; done) | (have := b2.mpr q.2; simp_all; done) | (have := b1.mpr q; simp_all; done))], rfl⟩
  · have hb := b1.mp h9
    refine zA_aload_n dX8_parts_12 rfl ?_
    refine zA_getR fX8_47 t_0 rfl dX8_parts_13 ?_
    refine zA_getR fX8_144 t_52 rfl dX8_parts_16 ?_
    refine zA_iload_n dX8_parts_19 rfl ?_
    refine zA_iload_n dX8_parts_20 rfl ?_
    refine zA_cSi (st := [zR 53]) kX8_147 (c_X8_cell (d + 1) (a) (c) μ (by omega) (by omega)) rfl rfl rfl dX8_parts_21 (zfit0 (by omega) rfl) (fun v2 μ2 q2 => ?_)
    obtain ⟨rfl, rfl⟩ := q2
    refine zA_ialE (w := μ 53 ((a * 5 + c).toNat)) (j := (a * 5 + c).toNat) t_53 (by omega) (by omega) dX8_parts_24 rfl rfl ?_
    refine zA_goto (tgt := 30) dX8_parts_25 rfl ?_
    exact zA_ri dX8_parts_30 ⟨by rw [if_pos hb], rfl⟩
theorem c_X9_parts (d : Nat) (a c : Int) (μ : zM) (n m t : Nat) (u : Int) (hH : zMs μ n m t u) : zMet (d + 3) 0 yX9_parts cX9_parts 3 (some .int) TF μ [zR 110, zI a, zI c] (zPi (fun v ν => v = (if ((0 ≤ a ∧ a < m) ∧ (0 ≤ c ∧ c < n)) then μ 114 (5 * a + c).toNat else -1000000001) ∧ μ = ν)) := by
  obtain ⟨hn, hu, hm, ht, hn5, hm6, ht10, hu1, hdk⟩ := hH
  refine zMi_of RX9 rfl (by decide) rfl (ls := [some (zR 110), some (zI a), some (zI c)]) rfl (fun hok => ?_)
  refine zA_aload_n dX9_parts_0 rfl ?_
  refine zA_iload_n dX9_parts_1 rfl ?_
  refine zA_cVb (st := []) kX9_187 t_110 rfl rfl (c_X9_isCoat d a μ (by omega)) rfl rfl rfl dX9_parts_2 (zfit0 (by omega) rfl) (fun v1 μ1 q1 => ?_)
  obtain ⟨b1, rfl⟩ := q1
  rw [hm] at b1
  refine zA_ifb_eq (tgt := 29) dX9_parts_5 rfl (fun h5 => ?_) (fun h5 => ?_)
  · refine zA_ldc cX9_194 dX9_parts_29 rfl ?_
    exact zA_ri dX9_parts_31 ⟨by rw [if_neg (by intro q; first | (have := b1.mpr q.1; simp_all; done) | (have := b2.mpr q.2; simp_all; done) | (have := b1.mpr q; simp_all; done))], rfl⟩
  · refine zA_aload_n dX9_parts_8 rfl ?_
    refine zA_iload_n dX9_parts_9 rfl ?_
    refine zA_cVb (st := []) kX9_191 t_110 rfl rfl (c_X9_isColour d c μ (by omega)) rfl rfl rfl dX9_parts_10 (zfit0 (by omega) rfl) (fun v2 μ2 q2 => ?_)
    obtain ⟨b2, rfl⟩ := q2
    rw [hn] at b2
    refine zA_ifb_eq (tgt := 29) dX9_parts_13 rfl (fun h13 => ?_) (fun h13 => ?_)
    · refine zA_ldc cX9_194 dX9_parts_29 rfl ?_
      exact zA_ri dX9_parts_31 ⟨by rw [if_neg (by intro q; first | (have := b1.mpr q.1; simp_all; done) | (have := b2.mpr q.2; simp_all; done) | (have := b1.mpr q; simp_all; done))], rfl⟩
    · have hb := And.intro (b1.mp (by simpa using h5)) (b2.mp (by simpa using h13))
      refine zA_aload_n dX9_parts_16 rfl ?_
      refine zA_getR fX9_19 t_110 rfl dX9_parts_17 ?_
      refine zA_iconst dX9_parts_20 rfl ?_
      refine zA_iload_n dX9_parts_21 rfl ?_
      refine zA_imulB dX9_parts_22 ⟨by omega, by omega⟩ ?_
      refine zA_iload_n dX9_parts_23 rfl ?_
      refine zA_iaddB dX9_parts_24 ⟨by omega, by omega⟩ ?_
      refine zA_ialE (w := μ 114 (((5 * a) + c).toNat)) (j := ((5 * a) + c).toNat) t_114 (by omega) (by omega) dX9_parts_25 rfl rfl ?_
      refine zA_goto (tgt := 31) dX9_parts_26 rfl ?_
      exact zA_ri dX9_parts_31 ⟨by rw [if_pos hb], rfl⟩
theorem pr_parts (μ : zM) (a c : Int) (n m t : Nat) (u : Int) (hI : zInv μ n m t u) : zPair yX8_parts cX8_parts 3 yX9_parts cX9_parts 3 [zI a, zI c] μ := by
  have hR := hI.2.1.1
  refine zPair_q hI (if ((0 ≤ a ∧ a < m) ∧ (0 ≤ c ∧ c < n)) then μ 114 (5 * a + c).toNat else -1000000001) (zMi_mono (c_X8_parts 17 a c μ n m t u hI.1.1) ?_) (fun ν hq hν => zMi_mono (c_X9_parts 17 a c ν n m t u hν.1.2.1) ?_)
  · rintro v ν ⟨rfl, rfl⟩
    refine ⟨?_, qC.refl _⟩
    by_cases hb : (0 ≤ a ∧ a < m) ∧ (0 ≤ c ∧ c < n)
    · have h5 := hI.1.1.2.2.2.2.1
      have h6 := hI.1.1.2.2.2.2.2.1
      rw [if_pos hb, if_pos hb]
      rw [hR _ (by omega), Nat.zero_add, show (5 * a + c).toNat = (a * 5 + c).toNat by omega]
    · rw [if_neg hb, if_neg hb]
  · rintro v ξ ⟨rfl, rfl⟩
    exact ⟨by rw [hq 114 (by unfold cScr; omega)], qM.refl _⟩
theorem c_X8_own (d : Nat) (a c : Int) (μ : zM) (n m t : Nat) (u : Int) (hH : zHs μ n m t u) : zMet (d + 3) 0 yX8_own cX8_own 3 (some .int) TF μ [zR 0, zI a, zI c] (zPi (fun v ν => v = (if ((0 ≤ a ∧ a < m) ∧ (0 ≤ c ∧ c < n)) then μ 2 (a * 5 + c).toNat else -1000000001) ∧ μ = ν)) := by
  obtain ⟨hn, hu, hm, ht, hn5, hm6, ht10, hu1, hdk⟩ := hH
  refine zMi_of RX8 rfl (by decide) rfl (ls := [some (zR 0), some (zI a), some (zI c)]) rfl (fun hok => ?_)
  refine zA_aload_n dX8_own_0 rfl ?_
  refine zA_getR fX8_12 t_0 rfl dX8_own_1 ?_
  refine zA_iload_n dX8_own_4 rfl ?_
  refine zA_iload_n dX8_own_5 rfl ?_
  refine zA_cVb (st := []) kX8_140 t_1 rfl rfl (c_X2_hasCell d a c μ) rfl rfl rfl dX8_own_6 (zfit0 (by omega) rfl) (fun v1 μ1 q1 => ?_)
  obtain ⟨b1, rfl⟩ := q1
  rw [hn, hm] at b1
  refine zA_ifb_eq (tgt := 28) dX8_own_9 rfl (fun h9 => ?_) (fun h9 => ?_)
  · refine zA_ldc cX8_151 dX8_own_28 rfl ?_
    exact zA_ri dX8_own_30 ⟨by rw [if_neg (by intro q; first | (have := b1.mpr q.1; simp_all; done) | (have := b2.mpr q.2; simp_all; done) | (have := b1.mpr q; simp_all; done))], rfl⟩
  · have hb := b1.mp h9
    refine zA_aload_n dX8_own_12 rfl ?_
    refine zA_getR fX8_12 t_0 rfl dX8_own_13 ?_
    refine zA_getR fX8_152 t_1 rfl dX8_own_16 ?_
    refine zA_iload_n dX8_own_19 rfl ?_
    refine zA_iload_n dX8_own_20 rfl ?_
    refine zA_cSi (st := [zR 2]) kX8_147 (c_X8_cell (d + 1) (a) (c) μ (by omega) (by omega)) rfl rfl rfl dX8_own_21 (zfit0 (by omega) rfl) (fun v2 μ2 q2 => ?_)
    obtain ⟨rfl, rfl⟩ := q2
    refine zA_ialE (w := μ 2 ((a * 5 + c).toNat)) (j := (a * 5 + c).toNat) t_2 (by omega) (by omega) dX8_own_24 rfl rfl ?_
    refine zA_goto (tgt := 30) dX8_own_25 rfl ?_
    exact zA_ri dX8_own_30 ⟨by rw [if_pos hb], rfl⟩
theorem c_X9_own (d : Nat) (a c : Int) (μ : zM) (n m t : Nat) (u : Int) (hH : zMs μ n m t u) : zMet (d + 3) 0 yX9_own cX9_own 3 (some .int) TF μ [zR 110, zI a, zI c] (zPi (fun v ν => v = (if ((0 ≤ a ∧ a < m) ∧ (0 ≤ c ∧ c < n)) then μ 111 (5 * a + c).toNat else -1000000001) ∧ μ = ν)) := by
  obtain ⟨hn, hu, hm, ht, hn5, hm6, ht10, hu1, hdk⟩ := hH
  refine zMi_of RX9 rfl (by decide) rfl (ls := [some (zR 110), some (zI a), some (zI c)]) rfl (fun hok => ?_)
  refine zA_aload_n dX9_own_0 rfl ?_
  refine zA_iload_n dX9_own_1 rfl ?_
  refine zA_cVb (st := []) kX9_187 t_110 rfl rfl (c_X9_isCoat d a μ (by omega)) rfl rfl rfl dX9_own_2 (zfit0 (by omega) rfl) (fun v1 μ1 q1 => ?_)
  obtain ⟨b1, rfl⟩ := q1
  rw [hm] at b1
  refine zA_ifb_eq (tgt := 29) dX9_own_5 rfl (fun h5 => ?_) (fun h5 => ?_)
  · refine zA_ldc cX9_194 dX9_own_29 rfl ?_
    exact zA_ri dX9_own_31 ⟨by rw [if_neg (by intro q; first | (have := b1.mpr q.1; simp_all; done) | (have := b2.mpr q.2; simp_all; done) | (have := b1.mpr q; simp_all; done))], rfl⟩
  · refine zA_aload_n dX9_own_8 rfl ?_
    refine zA_iload_n dX9_own_9 rfl ?_
    refine zA_cVb (st := []) kX9_191 t_110 rfl rfl (c_X9_isColour d c μ (by omega)) rfl rfl rfl dX9_own_10 (zfit0 (by omega) rfl) (fun v2 μ2 q2 => ?_)
    obtain ⟨b2, rfl⟩ := q2
    rw [hn] at b2
    refine zA_ifb_eq (tgt := 29) dX9_own_13 rfl (fun h13 => ?_) (fun h13 => ?_)
    · refine zA_ldc cX9_194 dX9_own_29 rfl ?_
      exact zA_ri dX9_own_31 ⟨by rw [if_neg (by intro q; first | (have := b1.mpr q.1; simp_all; done) | (have := b2.mpr q.2; simp_all; done) | (have := b1.mpr q; simp_all; done))], rfl⟩
    · have hb := And.intro (b1.mp (by simpa using h5)) (b2.mp (by simpa using h13))
      refine zA_aload_n dX9_own_16 rfl ?_
      refine zA_getR fX9_7 t_110 rfl dX9_own_17 ?_
      refine zA_iconst dX9_own_20 rfl ?_
      refine zA_iload_n dX9_own_21 rfl ?_
      refine zA_imulB dX9_own_22 ⟨by omega, by omega⟩ ?_
      refine zA_iload_n dX9_own_23 rfl ?_
      refine zA_iaddB dX9_own_24 ⟨by omega, by omega⟩ ?_
      refine zA_ialE (w := μ 111 (((5 * a) + c).toNat)) (j := ((5 * a) + c).toNat) t_111 (by omega) (by omega) dX9_own_25 rfl rfl ?_
      refine zA_goto (tgt := 31) dX9_own_26 rfl ?_
      exact zA_ri dX9_own_31 ⟨by rw [if_pos hb], rfl⟩
theorem pr_own (μ : zM) (a c : Int) (n m t : Nat) (u : Int) (hI : zInv μ n m t u) : zPair yX8_own cX8_own 3 yX9_own cX9_own 3 [zI a, zI c] μ := by
  have hR := hI.1.2.2.2.1
  refine zPair_q hI (if ((0 ≤ a ∧ a < m) ∧ (0 ≤ c ∧ c < n)) then μ 111 (5 * a + c).toNat else -1000000001) (zMi_mono (c_X8_own 17 a c μ n m t u hI.1.1) ?_) (fun ν hq hν => zMi_mono (c_X9_own 17 a c ν n m t u hν.1.2.1) ?_)
  · rintro v ν ⟨rfl, rfl⟩
    refine ⟨?_, qC.refl _⟩
    by_cases hb : (0 ≤ a ∧ a < m) ∧ (0 ≤ c ∧ c < n)
    · have h5 := hI.1.1.2.2.2.2.1
      have h6 := hI.1.1.2.2.2.2.2.1
      rw [if_pos hb, if_pos hb]
      rw [hR _ (by omega), show (5 * a + c).toNat = (a * 5 + c).toNat by omega]
    · rw [if_neg hb, if_neg hb]
  · rintro v ξ ⟨rfl, rfl⟩
    exact ⟨by rw [hq 111 (by unfold cScr; omega)], qM.refl _⟩
theorem c_X8_planned (d : Nat) (k : Int) (μ : zM) (n m t : Nat) (u : Int) (hH : zHs μ n m t u) : zMet (d + 1) 0 yX8_planned cX8_planned 2 (some .int) TF μ [zR 0, zI k] (zPi (fun v ν => v = (if (0 ≤ k ∧ k < t) then 10 * μ 3 k.toNat + μ 4 k.toNat else -1000000001) ∧ μ = ν)) := by
  obtain ⟨hn, hu, hm, ht, hn5, hm6, ht10, hu1, hdk⟩ := hH
  refine zMi_of RX8 rfl (by decide) rfl (ls := [some (zR 0), some (zI k)]) rfl (fun hok => ?_)
  refine zA_iload_n dX8_planned_0 rfl ?_
  refine zA_if_lt (tgt := 15) dX8_planned_1 rfl (fun h1 => ?_) (fun h1 => ?_)
  · refine zA_ldc cX8_151 dX8_planned_15 rfl ?_
    exact zA_ri dX8_planned_17 ⟨by rw [if_neg (by omega)], rfl⟩
  · refine zA_iload_n dX8_planned_4 rfl ?_
    refine zA_aload_n dX8_planned_5 rfl ?_
    refine zA_getR fX8_12 t_0 rfl dX8_planned_6 ?_
    refine zA_getE (w := (t : Int)) fX8_120 t_1 dX8_planned_9 ht ?_
    refine zA_icmp_lt (tgt := 18) dX8_planned_12 rfl (fun h12 => ?_) (fun h12 => ?_)
    · have hk := hdk k.toNat (by omega)
      refine zA_bipush dX8_planned_18 rfl ?_
      refine zA_aload_n dX8_planned_20 rfl ?_
      refine zA_getR fX8_12 t_0 rfl dX8_planned_21 ?_
      refine zA_getR fX8_159 t_1 rfl dX8_planned_24 ?_
      refine zA_iload_n dX8_planned_27 rfl ?_
      refine zA_ialE (w := μ 3 k.toNat) (j := k.toNat) t_3 (by omega) (by omega) dX8_planned_28 rfl rfl ?_
      refine zA_imulB dX8_planned_29 ⟨by omega, by omega⟩ ?_
      refine zA_aload_n dX8_planned_30 rfl ?_
      refine zA_getR fX8_12 t_0 rfl dX8_planned_31 ?_
      refine zA_getR fX8_162 t_1 rfl dX8_planned_34 ?_
      refine zA_iload_n dX8_planned_37 rfl ?_
      refine zA_ialE (w := μ 4 k.toNat) (j := k.toNat) t_4 (by omega) (by omega) dX8_planned_38 rfl rfl ?_
      refine zA_iaddB dX8_planned_39 ⟨by omega, by omega⟩ ?_
      exact zA_ri dX8_planned_40 ⟨by rw [if_pos (by omega)], rfl⟩
    · refine zA_ldc cX8_151 dX8_planned_15 rfl ?_
      exact zA_ri dX8_planned_17 ⟨by rw [if_neg (by omega)], rfl⟩
theorem c_X9_planned (d : Nat) (k : Int) (μ : zM) (n m t : Nat) (u : Int) (hH : zMs μ n m t u) : zMet (d + 2) 0 yX9_planned cX9_planned 2 (some .int) TF μ [zR 110, zI k] (zPi (fun v ν => v = (if (0 ≤ k ∧ k < t) then 10 * μ 112 k.toNat + μ 113 k.toNat else -1000000001) ∧ μ = ν)) := by
  obtain ⟨hn, hu, hm, ht, hn5, hm6, ht10, hu1, hdk⟩ := hH
  refine zMi_of RX9 rfl (by decide) rfl (ls := [some (zR 110), some (zI k)]) rfl (fun hok => ?_)
  refine zA_iload_n dX9_planned_0 rfl ?_
  refine zA_i2l dX9_planned_1 ?_
  refine zA_lconst (v := 0) dX9_planned_2 rfl rfl ?_
  refine zA_aload_n dX9_planned_3 rfl ?_
  refine zA_getE (w := (t : Int)) fX9_169 t_110 dX9_planned_4 ht ?_
  refine zA_iconst dX9_planned_7 rfl ?_
  refine zA_isubB dX9_planned_8 ⟨by omega, by omega⟩ ?_
  refine zA_i2l dX9_planned_9 ?_
  refine zA_cSb (st := []) kX9_81 (c_X9_in d (k) (0) ((t : Int) - 1) μ) rfl rfl rfl dX9_planned_10 (zfit0 (by omega) rfl) (fun v1 μ1 q1 => ?_)
  obtain ⟨b1, rfl⟩ := q1
  refine zA_ifb_eq (tgt := 35) dX9_planned_13 rfl (fun h13 => ?_) (fun h13 => ?_)
  · have hk1 : ¬ (0 ≤ k ∧ k ≤ (t : Int) - 1) := fun q => by have := b1.mpr q; simp_all
    refine zA_ldc cX9_194 dX9_planned_35 rfl ?_
    exact zA_ri dX9_planned_37 ⟨by rw [if_neg (by omega)], rfl⟩
  · have hk1 := b1.mp (by simpa using h13)
    have hk := hdk k.toNat (by omega)
    refine zA_bipush dX9_planned_16 rfl ?_
    refine zA_aload_n dX9_planned_18 rfl ?_
    refine zA_getR fX9_13 t_110 rfl dX9_planned_19 ?_
    refine zA_iload_n dX9_planned_22 rfl ?_
    refine zA_ialE (w := μ 112 k.toNat) (j := k.toNat) t_112 (by omega) (by omega) dX9_planned_23 rfl rfl ?_
    refine zA_imulB dX9_planned_24 ⟨by omega, by omega⟩ ?_
    refine zA_aload_n dX9_planned_25 rfl ?_
    refine zA_getR fX9_16 t_110 rfl dX9_planned_26 ?_
    refine zA_iload_n dX9_planned_29 rfl ?_
    refine zA_ialE (w := μ 113 k.toNat) (j := k.toNat) t_113 (by omega) (by omega) dX9_planned_30 rfl rfl ?_
    refine zA_iaddB dX9_planned_31 ⟨by omega, by omega⟩ ?_
    refine zA_goto (tgt := 37) dX9_planned_32 rfl ?_
    exact zA_ri dX9_planned_37 ⟨by rw [if_pos (by omega)], rfl⟩
theorem pr_planned (μ : zM) (k : Int) (n m t : Nat) (u : Int) (hI : zInv μ n m t u) : zPair yX8_planned cX8_planned 2 yX9_planned cX9_planned 2 [zI k] μ := by
  have hR := hI.1.2.2.2.2.2.1
  refine zPair_q hI (if (0 ≤ k ∧ k < t) then 10 * μ 112 k.toNat + μ 113 k.toNat else -1000000001) (zMi_mono (c_X8_planned 19 k μ n m t u hI.1.1) ?_) (fun ν hq hν => zMi_mono (c_X9_planned 18 k ν n m t u hν.1.2.1) ?_)
  · rintro v ν ⟨rfl, rfl⟩
    refine ⟨?_, qC.refl _⟩
    by_cases hb : 0 ≤ k ∧ k < t
    · rw [if_pos hb, if_pos hb, (hR k.toNat (by omega)).1, (hR k.toNat (by omega)).2]
    · rw [if_neg hb, if_neg hb]
  · rintro v ξ ⟨rfl, rfl⟩
    exact ⟨by rw [hq 112 (by unfold cScr; omega), hq 113 (by unfold cScr; omega)], qM.refl _⟩
theorem c_X8_seed (d : Nat) (s : Int) (μ : zM)  : zMet (d + 1) 0 yX8_seed cX8_seed 3 (some .int) TF μ [zR 0, zI s] (zPi (fun v ν => (s < 0 → v = -1000000002 ∧ μ = ν) ∧ (¬ s < 0 → v = μ 0 14 ∧ zup μ 0 14 s = ν))) := by
  refine zMi_of RX8 rfl (by decide) rfl (ls := [some (zR 0), some (zI s), none]) rfl (fun hok => ?_)
  refine zA_iload_n dX8_seed_0 rfl ?_
  refine zA_if_ge (tgt := 7) dX8_seed_1 rfl (fun h1 => ?_) (fun h1 => ?_)
  · refine zA_aload_n dX8_seed_7 rfl ?_
    refine zA_getI fX8_273 t_0 dX8_seed_8 ?_
    refine zA_istore_n (ls' := [some (zR 0), some (zI s), some (zI (μ 0 14))]) dX8_seed_11 rfl rfl ?_
    refine zA_aload_n dX8_seed_12 rfl ?_
    refine zA_iload_n dX8_seed_13 rfl ?_
    refine zA_putI wX8_273 t_0 dX8_seed_14 ?_
    refine zA_iload_n dX8_seed_17 rfl ?_
    exact zA_ri dX8_seed_18 ⟨fun q => False.elim (by omega), fun _ => ⟨rfl, rfl⟩⟩
  · refine zA_ldc cX8_88 dX8_seed_4 rfl ?_
    exact zA_ri dX8_seed_6 ⟨fun _ => ⟨rfl, rfl⟩, fun q => False.elim (by omega)⟩
theorem c_X9_seed (d : Nat) (s : Int) (μ : zM)  : zMet (d + 1) 0 yX9_seed cX9_seed 3 (some .int) TF μ [zR 110, zI s] (zPi (fun v ν => (s < 0 → v = -1000000002 ∧ μ = ν) ∧ (¬ s < 0 → v = μ 110 9 ∧ zup μ 110 9 s = ν))) := by
  refine zMi_of RX9 rfl (by decide) rfl (ls := [some (zR 110), some (zI s), none]) rfl (fun hok => ?_)
  refine zA_iload_n dX9_seed_0 rfl ?_
  refine zA_if_ge (tgt := 7) dX9_seed_1 rfl (fun h1 => ?_) (fun h1 => ?_)
  · refine zA_aload_n dX9_seed_7 rfl ?_
    refine zA_getI fX9_210 t_110 dX9_seed_8 ?_
    refine zA_istore_n (ls' := [some (zR 110), some (zI s), some (zI (μ 110 9))]) dX9_seed_11 rfl rfl ?_
    refine zA_aload_n dX9_seed_12 rfl ?_
    refine zA_iload_n dX9_seed_13 rfl ?_
    refine zA_putI wX9_210 t_110 dX9_seed_14 ?_
    refine zA_iload_n dX9_seed_17 rfl ?_
    exact zA_ri dX9_seed_18 ⟨fun q => False.elim (by omega), fun _ => ⟨rfl, rfl⟩⟩
  · refine zA_ldc cX9_89 dX9_seed_4 rfl ?_
    exact zA_ri dX9_seed_6 ⟨fun _ => ⟨rfl, rfl⟩, fun q => False.elim (by omega)⟩
theorem pr_seed (μ : zM) (s : Int) (n m t : Nat) (u : Int) (hI : zInv μ n m t u) : zPair yX8_seed cX8_seed 3 yX9_seed cX9_seed 3 [zI s] μ := by
  refine zMi_mono (c_X8_seed 19 s μ) (fun v ν hv => zMi_mono (c_X9_seed 19 s ν) (fun w ξ hw => ?_))
  by_cases hs : s < 0
  · obtain ⟨rfl, rfl⟩ := hv.1 hs
    obtain ⟨rfl, rfl⟩ := hw.1 hs
    exact ⟨rfl, n, m, t, u, hI⟩
  · obtain ⟨rfl, rfl⟩ := hv.2 hs
    obtain ⟨rfl, rfl⟩ := hw.2 hs
    refine ⟨hI.2.2.2.1.2.1, n, m, t, u, ?_⟩
    obtain ⟨hh, hst, ht, hm, h1, h2, h3, h4⟩ := hI
    exact ⟨hh.keep rfl rfl rfl rfl rfl rfl rfl rfl rfl rfl rfl rfl, hst.keep rfl rfl rfl, ht.keep rfl rfl rfl rfl, ⟨hm.1, rfl, by show 0 ≤ s; omega⟩, h1.keep rfl rfl rfl rfl rfl rfl, h2.keep rfl rfl rfl rfl rfl rfl, h3.keep rfl rfl rfl rfl (fun k _ _ => by funext i; rw [zup_k (by omega), zup_k (by omega)]), h4.keep rfl rfl rfl (fun k _ _ => by funext i; rw [zup_k (by omega), zup_k (by omega)])⟩
theorem c_X8_tear (d : Nat) (μ : zM) (ha : 0 ≤ μ 96 3 ∧ μ 96 3 ≤ 100) (hb : 0 ≤ μ 99 3 ∧ μ 99 3 ≤ 100) : zMet (d + 1) 0 yX8_tear cX8_tear 2 (some .int) TF μ [zR 0] (zPi (fun v ν => v = μ 96 3 + μ 99 3 ∧ zup (zup μ 96 3 0) 99 3 0 = ν)) := by
  refine zMi_of RX8 rfl (by decide) rfl (ls := [some (zR 0), none]) rfl (fun hok => ?_)
  refine zA_aload_n dX8_tear_0 rfl ?_
  refine zA_getR fX8_63 t_0 rfl dX8_tear_1 ?_
  refine zA_getI fX8_136 t_96 dX8_tear_4 ?_
  refine zA_aload_n dX8_tear_7 rfl ?_
  refine zA_getR fX8_67 t_0 rfl dX8_tear_8 ?_
  refine zA_getI fX8_136 t_99 dX8_tear_11 ?_
  refine zA_iaddB dX8_tear_14 ⟨by omega, by omega⟩ ?_
  refine zA_istore_n (ls' := [some (zR 0), some (zI ((μ 96 3) + (μ 99 3)))]) dX8_tear_15 rfl rfl ?_
  refine zA_aload_n dX8_tear_16 rfl ?_
  refine zA_getR fX8_63 t_0 rfl dX8_tear_17 ?_
  refine zA_iconst dX8_tear_20 rfl ?_
  refine zA_putI wX8_136 t_96 dX8_tear_21 ?_
  refine zA_aload_n dX8_tear_24 rfl ?_
  refine zA_getR fX8_67 t_0 rfl dX8_tear_25 ?_
  refine zA_iconst dX8_tear_28 rfl ?_
  refine zA_putI wX8_136 t_99 dX8_tear_29 ?_
  refine zA_iload_n dX8_tear_32 rfl ?_
  exact zA_ri dX8_tear_33 ⟨rfl, rfl⟩
theorem c_X9_tear (d : Nat) (μ : zM) (ha : 0 ≤ μ 110 33 ∧ μ 110 33 ≤ 100) (hb : 0 ≤ μ 110 37 ∧ μ 110 37 ≤ 100) : zMet (d + 1) 0 yX9_tear cX9_tear 2 (some .int) TF μ [zR 110] (zPi (fun v ν => v = μ 110 33 + μ 110 37 ∧ zup (zup μ 110 33 0) 110 37 0 = ν)) := by
  refine zMi_of RX9 rfl (by decide) rfl (ls := [some (zR 110), none]) rfl (fun hok => ?_)
  refine zA_aload_n dX9_tear_0 rfl ?_
  refine zA_getI fX9_178 t_110 dX9_tear_1 ?_
  refine zA_aload_n dX9_tear_4 rfl ?_
  refine zA_getI fX9_181 t_110 dX9_tear_5 ?_
  refine zA_iaddB dX9_tear_8 ⟨by omega, by omega⟩ ?_
  refine zA_istore_n (ls' := [some (zR 110), some (zI ((μ 110 33) + (μ 110 37)))]) dX9_tear_9 rfl rfl ?_
  refine zA_aload_n dX9_tear_10 rfl ?_
  refine zA_iconst dX9_tear_11 rfl ?_
  refine zA_putI wX9_178 t_110 dX9_tear_12 ?_
  refine zA_aload_n dX9_tear_15 rfl ?_
  refine zA_iconst dX9_tear_16 rfl ?_
  refine zA_putI wX9_181 t_110 dX9_tear_17 ?_
  refine zA_iload_n dX9_tear_20 rfl ?_
  exact zA_ri dX9_tear_21 ⟨rfl, rfl⟩
theorem pr_tear (μ : zM)  (n m t : Nat) (u : Int) (hI : zInv μ n m t u) : zPair yX8_tear cX8_tear 2 yX9_tear cX9_tear 2 [] μ := by
  obtain ⟨hh, hst, ht, hm, ⟨s, s1, s2, s3, s4, s5⟩, ⟨s', s1', s2', s3', s4', s5'⟩, h3, h4⟩ := hI
  refine zMi_mono (c_X8_tear 19 μ (by omega) (by omega)) (fun v ν hv => ?_)
  obtain ⟨rfl, rfl⟩ := hv
  refine zMi_mono (c_X9_tear 19 _ (by show 0 ≤ μ 110 33 ∧ μ 110 33 ≤ 100; omega) (by show 0 ≤ μ 110 37 ∧ μ 110 37 ≤ 100; omega)) (fun w ξ hw => ?_)
  obtain ⟨rfl, rfl⟩ := hw
  refine ⟨by show μ 96 3 + μ 99 3 = μ 110 33 + μ 110 37; omega, n, m, t, u, ?_⟩
  exact ⟨hh.keep rfl rfl rfl rfl rfl rfl rfl rfl rfl rfl rfl rfl, hst.keep rfl rfl rfl, ht.keep rfl rfl rfl rfl, hm.keep rfl rfl rfl rfl, ⟨0, by omega, rfl, rfl, s4, fun k hk => by omega, fun k hk => by omega⟩, ⟨0, by omega, rfl, rfl, s4', fun k hk => by omega, fun k hk => by omega⟩, h3.keep rfl rfl rfl rfl (fun k _ _ => by funext i; rw [zup_k (by omega), zup_k (by omega), zup_k (by omega), zup_k (by omega)]), h4.keep rfl rfl rfl (fun k _ _ => by funext i; rw [zup_k (by omega), zup_k (by omega), zup_k (by omega), zup_k (by omega)])⟩
