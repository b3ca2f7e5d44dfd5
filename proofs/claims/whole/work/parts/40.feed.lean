/-! ===== feed, see, write, gives, judge ===== -/
theorem c_X5_addLetter (d : Nat) (c : Int) (μ : zM) (L : Nat) (hL : L ≤ 240) (h2 : μ 8 2 = L) : zMet (d + 1) 0 yX5_addLetter cX5_addLetter 2 (some .int) TF μ [zR 8, zI c] (zPi (fun v ν => (L = 240 → v = -1000000004 ∧ μ = ν) ∧ (L < 240 → v = L + 1 ∧ zup (zup μ 16 L c) 8 2 (L + 1) = ν))) := by
  refine zMi_of RX5 rfl (by decide) rfl (ls := [some (zR 8), some (zI c)]) rfl (fun hok => ?_)
  refine zA_aload_n dX5_addLetter_0 rfl ?_
  refine zA_getE (w := (L : Int)) fX5_26 t_8 dX5_addLetter_1 h2 ?_
  refine zA_sipush dX5_addLetter_4 rfl ?_
  refine zA_icmp_lt (tgt := 13) dX5_addLetter_7 rfl (fun h7 => ?_) (fun h7 => ?_)
  · refine zA_aload_n dX5_addLetter_13 rfl ?_
    refine zA_getR fX5_18 t_8 rfl dX5_addLetter_14 ?_
    refine zA_aload_n dX5_addLetter_17 rfl ?_
    refine zA_getE (w := (L : Int)) fX5_26 t_8 dX5_addLetter_18 h2 ?_
    refine zA_iload_n dX5_addLetter_21 rfl ?_
    refine zA_iasE (j := L) t_16 (by omega) (by omega) dX5_addLetter_22 rfl ?_
    refine zA_aload_n dX5_addLetter_23 rfl ?_
    refine zA_dup dX5_addLetter_24 rfl ?_
    refine zA_getE (w := (L : Int)) fX5_26 t_8 dX5_addLetter_25 (by rw [zup_k (by decide)]; exact h2) ?_
    refine zA_iconst dX5_addLetter_28 rfl ?_
    refine zA_iaddB dX5_addLetter_29 ⟨by omega, by omega⟩ ?_
    refine zA_putI wX5_26 t_8 dX5_addLetter_30 ?_
    refine zA_aload_n dX5_addLetter_33 rfl ?_
    refine zA_getE (w := (L : Int) + 1) fX5_26 t_8 dX5_addLetter_34 (by rw [zup_s]) ?_
    exact zA_ri dX5_addLetter_37 ⟨fun q => False.elim (by omega), fun _ => ⟨rfl, rfl⟩⟩
  · refine zA_ldc cX5_29 dX5_addLetter_10 rfl ?_
    exact zA_ri dX5_addLetter_12 ⟨fun _ => ⟨rfl, rfl⟩, fun q => False.elim (by omega)⟩
theorem c_X8_feed (d : Nat) (c : Int) (μ : zM) (L : Nat) (hL : L ≤ 240) (h2 : μ 8 2 = L) : zMet (d + 2) 0 yX8_feed cX8_feed 2 (some .int) TF μ [zR 0, zI c] (zPi (fun v ν => ((c < 0 ∨ 255 < c) → v = -1000000002 ∧ μ = ν) ∧ (¬ (c < 0 ∨ 255 < c) → (L = 240 → v = -1000000004 ∧ μ = ν) ∧ (L < 240 → v = L + 1 ∧ zup (zup μ 16 L c) 8 2 (L + 1) = ν)))) := by
  refine zMi_of RX8 rfl (by decide) rfl (ls := [some (zR 0), some (zI c)]) rfl (fun hok => ?_)
  refine zA_iload_n dX8_feed_0 rfl ?_
  refine zA_if_lt (tgt := 11) dX8_feed_1 rfl (fun h1 => ?_) (fun h1 => ?_)
  · refine zA_ldc cX8_88 dX8_feed_11 rfl ?_
    exact zA_ri dX8_feed_13 ⟨fun _ => ⟨rfl, rfl⟩, fun q => False.elim (by omega)⟩
  · refine zA_iload_n dX8_feed_4 rfl ?_
    refine zA_sipush dX8_feed_5 rfl ?_
    refine zA_icmp_le (tgt := 14) dX8_feed_8 rfl (fun h8 => ?_) (fun h8 => ?_)
    · refine zA_aload_n dX8_feed_14 rfl ?_
      refine zA_getR fX8_19 t_0 rfl dX8_feed_15 ?_
      refine zA_iload_n dX8_feed_18 rfl ?_
      refine zA_cVi (st := []) kX8_89 t_8 rfl rfl (c_X5_addLetter d c μ L hL h2) rfl rfl rfl dX8_feed_19 (zfit0 (by omega) rfl) (fun v1 μ1 q1 => ?_)
      exact zA_ri dX8_feed_22 ⟨fun q => False.elim (by omega), fun _ => q1⟩
    · refine zA_ldc cX8_88 dX8_feed_11 rfl ?_
      exact zA_ri dX8_feed_13 ⟨fun _ => ⟨rfl, rfl⟩, fun q => False.elim (by omega)⟩
theorem c_X9_feed (d : Nat) (c : Int) (μ : zM) (L : Nat) (hL : L ≤ 240) (h2 : μ 110 11 = L) : zMet (d + 2) 0 yX9_feed cX9_feed 2 (some .int) TF μ [zR 110, zI c] (zPi (fun v ν => ((c < 0 ∨ 255 < c) → v = -1000000002 ∧ μ = ν) ∧ (¬ (c < 0 ∨ 255 < c) → (L = 240 → v = -1000000004 ∧ μ = ν) ∧ (L < 240 → v = L + 1 ∧ zup (zup μ 115 L c) 110 11 (L + 1) = ν)))) := by
  refine zMi_of RX9 rfl (by decide) rfl (ls := [some (zR 110), some (zI c)]) rfl (fun hok => ?_)
  refine zA_iload_n dX9_feed_0 rfl ?_
  refine zA_i2l dX9_feed_1 ?_
  refine zA_lconst (v := 0) dX9_feed_2 rfl rfl ?_
  refine zA_ldc2 cX9_87 dX9_feed_3 rfl ?_
  refine zA_cSb (st := []) kX9_81 (c_X9_in d (c) (0) (255) μ) rfl rfl rfl dX9_feed_6 (zfit0 (by omega) rfl) (fun v1 μ1 q1 => ?_)
  obtain ⟨b1, rfl⟩ := q1
  refine zA_ifb_ne (tgt := 15) dX9_feed_9 rfl (fun h9 => ?_) (fun h9 => ?_)
  · refine zA_aload_n dX9_feed_15 rfl ?_
    refine zA_getE (w := (L : Int)) fX9_90 t_110 dX9_feed_16 h2 ?_
    refine zA_sipush dX9_feed_19 rfl ?_
    refine zA_icmp_ne (tgt := 28) dX9_feed_22 rfl (fun h22 => ?_) (fun h22 => ?_)
    · refine zA_aload_n dX9_feed_28 rfl ?_
      refine zA_getR fX9_22 t_110 rfl dX9_feed_29 ?_
      refine zA_aload_n dX9_feed_32 rfl ?_
      refine zA_getE (w := (L : Int)) fX9_90 t_110 dX9_feed_33 h2 ?_
      refine zA_iload_n dX9_feed_36 rfl ?_
      refine zA_iasE (j := L) t_115 (by omega) (by omega) dX9_feed_37 rfl ?_
      refine zA_aload_n dX9_feed_38 rfl ?_
      refine zA_dup dX9_feed_39 rfl ?_
      refine zA_getE (w := (L : Int)) fX9_90 t_110 dX9_feed_40 (by rw [zup_k (by decide)]; exact h2) ?_
      refine zA_iconst dX9_feed_43 rfl ?_
      refine zA_iaddB dX9_feed_44 ⟨by omega, by omega⟩ ?_
      refine zA_putI wX9_90 t_110 dX9_feed_45 ?_
      refine zA_aload_n dX9_feed_48 rfl ?_
      refine zA_getE (w := (L : Int) + 1) fX9_90 t_110 dX9_feed_49 (by rw [zup_s]) ?_
      exact zA_ri dX9_feed_52 ⟨fun q => False.elim (by have := b1.mp h9; omega), fun _ => ⟨fun q => False.elim (by omega), fun _ => ⟨rfl, rfl⟩⟩⟩
    · refine zA_ldc cX9_93 dX9_feed_25 rfl ?_
      exact zA_ri dX9_feed_27 ⟨fun q => False.elim (by have := b1.mp h9; omega), fun _ => ⟨fun _ => ⟨rfl, rfl⟩, fun q => False.elim (by omega)⟩⟩
  · refine zA_ldc cX9_89 dX9_feed_12 rfl ?_
    exact zA_ri dX9_feed_14 ⟨fun _ => ⟨rfl, rfl⟩, fun q => False.elim (by have := b1.mpr (by omega); simp_all)⟩
theorem pr_feed (μ : zM) (c : Int) (n m t : Nat) (u : Int) (hI : zInv μ n m t u) : zPair yX8_feed cX8_feed 2 yX9_feed cX9_feed 2 [zI c] μ := by
  obtain ⟨hh, hst, ⟨L, l1, l2, l3, l4⟩, hm, h1, h2, h3, h4⟩ := hI
  refine zMi_mono (c_X8_feed 18 c μ L l1 l2) (fun v ν hv => ?_)
  by_cases hc : c < 0 ∨ 255 < c
  · obtain ⟨rfl, rfl⟩ := hv.1 hc
    refine zMi_mono (c_X9_feed 18 c μ L l1 l3) (fun w ξ hw => ?_)
    obtain ⟨rfl, rfl⟩ := hw.1 hc
    exact ⟨rfl, n, m, t, u, hh, hst, ⟨L, l1, l2, l3, l4⟩, hm, h1, h2, h3, h4⟩
  · by_cases hL : L = 240
    · obtain ⟨rfl, rfl⟩ := (hv.2 hc).1 hL
      refine zMi_mono (c_X9_feed 18 c μ L l1 l3) (fun w ξ hw => ?_)
      obtain ⟨rfl, rfl⟩ := (hw.2 hc).1 hL
      exact ⟨rfl, n, m, t, u, hh, hst, ⟨L, l1, l2, l3, l4⟩, hm, h1, h2, h3, h4⟩
    · obtain ⟨rfl, rfl⟩ := (hv.2 hc).2 (by omega)
      refine zMi_mono (c_X9_feed 18 c _ L l1 l3) (fun w ξ hw => ?_)
      obtain ⟨rfl, rfl⟩ := (hw.2 hc).2 (by omega)
      refine ⟨rfl, n, m, t, u, hh.keep rfl rfl rfl rfl rfl rfl rfl rfl rfl rfl rfl rfl, hst.keep rfl rfl rfl, ⟨L + 1, by omega, rfl, rfl, fun i hi => ?_⟩, hm.keep rfl rfl rfl rfl, h1.keep rfl rfl rfl rfl rfl rfl, h2.keep rfl rfl rfl rfl rfl rfl, h3.keep rfl rfl rfl rfl (fun k _ _ => by funext i; rw [zup_k (by omega), zup_k (by omega), zup_k (by omega), zup_k (by omega)]), h4.keep rfl rfl rfl (fun k _ _ => by funext i; rw [zup_k (by omega), zup_k (by omega), zup_k (by omega), zup_k (by omega)])⟩
      rw [zup_k (by decide), zup_k (by decide), zup_k (by decide)]
      rw [zup_k (μ := zup (zup (zup μ 16 L c) 8 2 (L + 1)) 115 L c) (by decide)]
      by_cases e : i = L
      · subst e
        rw [zup_s, zup_s]
        omega
      · rw [zup_n (fun q => e q.2), zup_n (fun q => e q.2), zup_k (by decide), zup_k (by decide)]
        exact l4 i (by omega)
theorem c_X3_addNote96 (d : Nat) (x y : Int) (μ : zM) (s : Nat) (hs : s ≤ 8) (h3 : μ 96 3 = s) (h2 : μ 96 2 = 8) : zMet (d + 1) 0 yX3_addNote cX3_addNote 3 (some .int) TF μ [zR 96, zI x, zI y] (zPi (fun v ν => (s = 8 → v = -1000000004 ∧ μ = ν) ∧ (s < 8 → v = s + 1 ∧ zup (zup (zup μ 97 s x) 98 s y) 96 3 (s + 1) = ν))) := by
  refine zMi_of RX3 rfl (by decide) rfl (ls := [some (zR 96), some (zI x), some (zI y)]) rfl (fun hok => ?_)
  refine zA_aload_n dX3_addNote_0 rfl ?_
  refine zA_getE (w := (s : Int)) fX3_22 t_96 dX3_addNote_1 h3 ?_
  refine zA_aload_n dX3_addNote_4 rfl ?_
  refine zA_getE (w := 8) fX3_9 t_96 dX3_addNote_5 h2 ?_
  refine zA_icmp_lt (tgt := 14) dX3_addNote_8 rfl (fun h8 => ?_) (fun h8 => ?_)
  · refine zA_aload_n dX3_addNote_14 rfl ?_
    refine zA_getR fX3_15 t_96 rfl dX3_addNote_15 ?_
    refine zA_aload_n dX3_addNote_18 rfl ?_
    refine zA_getE (w := (s : Int)) fX3_22 t_96 dX3_addNote_19 h3 ?_
    refine zA_iload_n dX3_addNote_22 rfl ?_
    refine zA_iasE (j := s) t_97 (by omega) (by omega) dX3_addNote_23 rfl ?_
    refine zA_aload_n dX3_addNote_24 rfl ?_
    refine zA_getR fX3_19 t_96 rfl dX3_addNote_25 ?_
    refine zA_aload_n dX3_addNote_28 rfl ?_
    refine zA_getE (w := (s : Int)) fX3_22 t_96 dX3_addNote_29 (by rw [zup_k (by decide)]; exact h3) ?_
    refine zA_iload_n dX3_addNote_32 rfl ?_
    refine zA_iasE (j := s) t_98 (by omega) (by omega) dX3_addNote_33 rfl ?_
    refine zA_aload_n dX3_addNote_34 rfl ?_
    refine zA_dup dX3_addNote_35 rfl ?_
    refine zA_getE (w := (s : Int)) fX3_22 t_96 dX3_addNote_36 (by rw [zup_k (by decide), zup_k (by decide)]; exact h3) ?_
    refine zA_iconst dX3_addNote_39 rfl ?_
    refine zA_iaddB dX3_addNote_40 ⟨by omega, by omega⟩ ?_
    refine zA_putI wX3_22 t_96 dX3_addNote_41 ?_
    refine zA_aload_n dX3_addNote_44 rfl ?_
    refine zA_getE (w := (s : Int) + 1) fX3_22 t_96 dX3_addNote_45 (by rw [zup_s]) ?_
    exact zA_ri dX3_addNote_48 ⟨fun q => False.elim (by omega), fun _ => ⟨rfl, rfl⟩⟩
  · refine zA_ldc cX3_25 dX3_addNote_11 rfl ?_
    exact zA_ri dX3_addNote_13 ⟨fun _ => ⟨rfl, rfl⟩, fun q => False.elim (by omega)⟩
theorem c_X8_noteIn96 (d : Nat) (a c y : Int) (μ : zM) (n m t : Nat) (u : Int) (s : Nat) (hH : zHs μ n m t u) (hs : s ≤ 8) (h3 : μ 96 3 = s) (h2 : μ 96 2 = 8) : zMet (d + 3) 0 yX8_noteIn cX8_noteIn 5 (some .int) TF μ [zR 0, zR 96, zI a, zI c, zI y] (zPi (fun v ν => (¬ ((0 ≤ a ∧ a < m) ∧ (0 ≤ c ∧ c < n)) → v = -1000000001 ∧ μ = ν) ∧ (((0 ≤ a ∧ a < m) ∧ (0 ≤ c ∧ c < n)) → (¬ (0 ≤ y ∧ y ≤ 60) → v = -1000000002 ∧ μ = ν) ∧ ((0 ≤ y ∧ y ≤ 60) → (s = 8 → v = -1000000004 ∧ μ = ν) ∧ (s < 8 → v = s + 1 ∧ zup (zup (zup μ 97 s (a * 5 + c)) 98 s y) 96 3 (s + 1) = ν))))) := by
  obtain ⟨hn, hu, hm, ht, hn5, hm6, ht10, hu1, hdk⟩ := hH
  refine zMi_of RX8 rfl (by decide) rfl (ls := [some (zR 0), some (zR 96), some (zI a), some (zI c), some (zI y)]) rfl (fun hok => ?_)
  refine zA_aload_n dX8_noteIn_0 rfl ?_
  refine zA_getR fX8_12 t_0 rfl dX8_noteIn_1 ?_
  refine zA_iload_n dX8_noteIn_4 rfl ?_
  refine zA_iload_n dX8_noteIn_5 rfl ?_
  refine zA_cVb (st := []) kX8_140 t_1 rfl rfl (c_X2_hasCell d a c μ) rfl rfl rfl dX8_noteIn_6 (zfit0 (by omega) rfl) (fun v1 μ1 q1 => ?_)
  obtain ⟨b1, rfl⟩ := q1
  rw [hn, hm] at b1
  refine zA_ifb_ne (tgt := 15) dX8_noteIn_9 rfl (fun h9 => ?_) (fun h9 => ?_)
  · have hb := b1.mp h9
    refine zA_iload dX8_noteIn_15 rfl ?_
    refine zA_cSb (st := []) kX8_218 (c_X8_isAmount (d + 1) y μ) rfl rfl rfl dX8_noteIn_17 (zfit0 (by omega) rfl) (fun v2 μ2 q2 => ?_)
    obtain ⟨b2, rfl⟩ := q2
    refine zA_ifb_ne (tgt := 26) dX8_noteIn_20 rfl (fun h20 => ?_) (fun h20 => ?_)
    · refine zA_aload_n dX8_noteIn_26 rfl ?_
      refine zA_iload_n dX8_noteIn_27 rfl ?_
      refine zA_iload_n dX8_noteIn_28 rfl ?_
      refine zA_cSi (st := [zR 96]) kX8_147 (c_X8_cell (d + 1) (a) (c) μ (by omega) (by omega)) rfl rfl rfl dX8_noteIn_29 (zfit0 (by omega) rfl) (fun v3 μ3 q3 => ?_)
      obtain ⟨rfl, rfl⟩ := q3
      refine zA_iload dX8_noteIn_32 rfl ?_
      refine zA_cVi (st := []) kX8_310 t_96 rfl rfl (c_X3_addNote96 (d + 1) (a * 5 + c) y μ s hs h3 h2) rfl rfl rfl dX8_noteIn_34 (zfit0 (by omega) rfl) (fun v4 μ4 q4 => ?_)
      exact zA_ri dX8_noteIn_37 ⟨fun q => absurd (b1.mp h9) q, fun _ => ⟨fun q => absurd (b2.mp h20) q, fun _ => q4⟩⟩
    · refine zA_ldc cX8_88 dX8_noteIn_23 rfl ?_
      exact zA_ri dX8_noteIn_25 ⟨fun q => absurd (b1.mp h9) q, fun _ => ⟨fun _ => ⟨rfl, rfl⟩, fun q => False.elim (by have := b2.mpr q; simp_all)⟩⟩
  · refine zA_ldc cX8_151 dX8_noteIn_12 rfl ?_
    exact zA_ri dX8_noteIn_14 ⟨fun _ => ⟨rfl, rfl⟩, fun q => False.elim (by have := b1.mpr q; simp_all)⟩
theorem c_X8_see (d : Nat) (a c y : Int) (μ : zM) (n m t : Nat) (u : Int) (s : Nat) (hH : zHs μ n m t u) (hs : s ≤ 8) (h3 : μ 96 3 = s) (h2 : μ 96 2 = 8) : zMet (d + 4) 0 yX8_see cX8_see 4 (some .int) TF μ [zR 0, zI a, zI c, zI y] (zPi (fun v ν => (¬ ((0 ≤ a ∧ a < m) ∧ (0 ≤ c ∧ c < n)) → v = -1000000001 ∧ μ = ν) ∧ (((0 ≤ a ∧ a < m) ∧ (0 ≤ c ∧ c < n)) → (¬ (0 ≤ y ∧ y ≤ 60) → v = -1000000002 ∧ μ = ν) ∧ ((0 ≤ y ∧ y ≤ 60) → (s = 8 → v = -1000000004 ∧ μ = ν) ∧ (s < 8 → v = s + 1 ∧ zup (zup (zup μ 97 s (a * 5 + c)) 98 s y) 96 3 (s + 1) = ν))))) := by
  refine zMi_of RX8 rfl (by decide) rfl (ls := [some (zR 0), some (zI a), some (zI c), some (zI y)]) rfl (fun hok => ?_)
  refine zA_aload_n dX8_see_0 rfl ?_
  refine zA_aload_n dX8_see_1 rfl ?_
  refine zA_getR fX8_63 t_0 rfl dX8_see_2 ?_
  refine zA_iload_n dX8_see_5 rfl ?_
  refine zA_iload_n dX8_see_6 rfl ?_
  refine zA_iload_n dX8_see_7 rfl ?_
  refine zA_cVi (st := []) kX8_257 t_0 rfl rfl (c_X8_noteIn96 d a c y μ n m t u s hH hs h3 h2) rfl rfl rfl dX8_see_8 (zfit0 (by omega) rfl) (fun v1 μ1 q1 => ?_)
  exact zA_ri dX8_see_11 q1
theorem c_X9_see (d : Nat) (a c y : Int) (μ : zM) (n m t : Nat) (u : Int) (s : Nat) (hH : zMs μ n m t u) (hs : s ≤ 8) (h3 : μ 110 33 = s) : zMet (d + 3) 0 yX9_see cX9_see 4 (some .int) TF μ [zR 110, zI a, zI c, zI y] (zPi (fun v ν => (¬ ((0 ≤ a ∧ a < m) ∧ (0 ≤ c ∧ c < n)) → v = -1000000001 ∧ μ = ν) ∧ (((0 ≤ a ∧ a < m) ∧ (0 ≤ c ∧ c < n)) → (¬ (0 ≤ y ∧ y ≤ 60) → v = -1000000002 ∧ μ = ν) ∧ ((0 ≤ y ∧ y ≤ 60) → (s = 8 → v = -1000000004 ∧ μ = ν) ∧ (s < 8 → v = s + 1 ∧ zup (zup (zup μ 124 s (5 * a + c)) 125 s y) 110 33 (s + 1) = ν))))) := by
  obtain ⟨hn, hu, hm, ht, hn5, hm6, ht10, hu1, hdk⟩ := hH
  refine zMi_of RX9 rfl (by decide) rfl (ls := [some (zR 110), some (zI a), some (zI c), some (zI y)]) rfl (fun hok => ?_)
  refine zA_aload_n dX9_see_0 rfl ?_
  refine zA_iload_n dX9_see_1 rfl ?_
  refine zA_cVb (st := []) kX9_187 t_110 rfl rfl (c_X9_isCoat d a μ (by omega)) rfl rfl rfl dX9_see_2 (zfit0 (by omega) rfl) (fun v1 μ1 q1 => ?_)
  obtain ⟨b1, rfl⟩ := q1
  rw [hm] at b1
  refine zA_ifb_eq (tgt := 16) dX9_see_5 rfl (fun h5 => ?_) (fun h5 => ?_)
  · refine zA_ldc cX9_194 dX9_see_16 rfl ?_
    exact zA_ri dX9_see_18 ⟨fun _ => ⟨rfl, rfl⟩, fun q => False.elim (by first | (have := b1.mpr q.1; simp_all; done) | (have := b2.mpr q.2; simp_all; done))⟩
  · refine zA_aload_n dX9_see_8 rfl ?_
    refine zA_iload_n dX9_see_9 rfl ?_
    refine zA_cVb (st := []) kX9_191 t_110 rfl rfl (c_X9_isColour d c μ (by omega)) rfl rfl rfl dX9_see_10 (zfit0 (by omega) rfl) (fun v2 μ2 q2 => ?_)
    obtain ⟨b2, rfl⟩ := q2
    rw [hn] at b2
    refine zA_ifb_ne (tgt := 19) dX9_see_13 rfl (fun h13 => ?_) (fun h13 => ?_)
    · have hb := And.intro (b1.mp (by simpa using h5)) (b2.mp (by simpa using h13))
      refine zA_iload_n dX9_see_19 rfl ?_
      refine zA_cSb (st := []) kX9_249 (c_X9_isParts d y μ) rfl rfl rfl dX9_see_20 (zfit0 (by omega) rfl) (fun v3 μ3 q3 => ?_)
      obtain ⟨b3, rfl⟩ := q3
      refine zA_ifb_ne (tgt := 29) dX9_see_23 rfl (fun h23 => ?_) (fun h23 => ?_)
      · refine zA_aload_n dX9_see_29 rfl ?_
        refine zA_getE (w := (s : Int)) fX9_178 t_110 dX9_see_30 h3 ?_
        refine zA_bipush dX9_see_33 rfl ?_
        refine zA_icmp_ne (tgt := 41) dX9_see_35 rfl (fun h35 => ?_) (fun h35 => ?_)
        · refine zA_aload_n dX9_see_41 rfl ?_
          refine zA_getR fX9_53 t_110 rfl dX9_see_42 ?_
          refine zA_aload_n dX9_see_45 rfl ?_
          refine zA_getE (w := (s : Int)) fX9_178 t_110 dX9_see_46 h3 ?_
          refine zA_iconst dX9_see_49 rfl ?_
          refine zA_iload_n dX9_see_50 rfl ?_
          refine zA_imulB dX9_see_51 ⟨by omega, by omega⟩ ?_
          refine zA_iload_n dX9_see_52 rfl ?_
          refine zA_iaddB dX9_see_53 ⟨by omega, by omega⟩ ?_
          refine zA_iasE (j := s) t_124 (by omega) (by omega) dX9_see_54 rfl ?_
          refine zA_aload_n dX9_see_55 rfl ?_
          refine zA_getR fX9_56 t_110 rfl dX9_see_56 ?_
          refine zA_aload_n dX9_see_59 rfl ?_
          refine zA_getE (w := (s : Int)) fX9_178 t_110 dX9_see_60 (by rw [zup_k (by decide)]; exact h3) ?_
          refine zA_iload_n dX9_see_63 rfl ?_
          refine zA_iasE (j := s) t_125 (by omega) (by omega) dX9_see_64 rfl ?_
          refine zA_aload_n dX9_see_65 rfl ?_
          refine zA_dup dX9_see_66 rfl ?_
          refine zA_getE (w := (s : Int)) fX9_178 t_110 dX9_see_67 (by rw [zup_k (by decide), zup_k (by decide)]; exact h3) ?_
          refine zA_iconst dX9_see_70 rfl ?_
          refine zA_iaddB dX9_see_71 ⟨by omega, by omega⟩ ?_
          refine zA_putI wX9_178 t_110 dX9_see_72 ?_
          refine zA_aload_n dX9_see_75 rfl ?_
          refine zA_getE (w := (s : Int) + 1) fX9_178 t_110 dX9_see_76 (by rw [zup_s]) ?_
          exact zA_ri dX9_see_79 ⟨fun q => absurd hb q, fun _ => ⟨fun q => absurd (b3.mp h23) q, fun _ => ⟨fun q => False.elim (by omega), fun _ => ⟨rfl, rfl⟩⟩⟩⟩
        · refine zA_ldc cX9_93 dX9_see_38 rfl ?_
          exact zA_ri dX9_see_40 ⟨fun q => absurd hb q, fun _ => ⟨fun q => absurd (b3.mp h23) q, fun _ => ⟨fun _ => ⟨rfl, rfl⟩, fun q => False.elim (by omega)⟩⟩⟩
      · refine zA_ldc cX9_89 dX9_see_26 rfl ?_
        exact zA_ri dX9_see_28 ⟨fun q => absurd hb q, fun _ => ⟨fun _ => ⟨rfl, rfl⟩, fun q => False.elim (by have := b3.mpr q; simp_all)⟩⟩
    · refine zA_ldc cX9_194 dX9_see_16 rfl ?_
      exact zA_ri dX9_see_18 ⟨fun _ => ⟨rfl, rfl⟩, fun q => False.elim (by first | (have := b1.mpr q.1; simp_all; done) | (have := b2.mpr q.2; simp_all; done))⟩
theorem pr_see (μ : zM) (a c y : Int) (n m t : Nat) (u : Int) (hI : zInv μ n m t u) : zPair yX8_see cX8_see 4 yX9_see cX9_see 4 [zI a, zI c, zI y] μ := by
  have hI0 := hI
  obtain ⟨hh, hst, ht, hm, ⟨s, s1, s2, s3, s4, s5, s6⟩, h2, h3, h4⟩ := hI
  have hn5 := hh.1.2.2.2.2.1
  have hm6 := hh.1.2.2.2.2.2.1
  refine zMi_mono (c_X8_see 16 a c y μ n m t u s hh.1 s1 s2 s4) (fun v ν hv => ?_)
  by_cases hb : (0 ≤ a ∧ a < m) ∧ (0 ≤ c ∧ c < n)
  · by_cases hy : 0 ≤ y ∧ y ≤ 60
    · by_cases hs : s = 8
      · obtain ⟨rfl, rfl⟩ := ((hv.2 hb).2 hy).1 hs
        refine zMi_mono (c_X9_see 17 a c y μ n m t u s hh.2.1 s1 s3) (fun w ξ hw => ?_)
        obtain ⟨rfl, rfl⟩ := ((hw.2 hb).2 hy).1 hs
        exact ⟨rfl, n, m, t, u, hI0⟩
      · obtain ⟨rfl, rfl⟩ := ((hv.2 hb).2 hy).2 (by omega)
        refine zMi_mono (c_X9_see 17 a c y _ n m t u s (hh.2.1.keep rfl rfl rfl) s1 s3) (fun w ξ hw => ?_)
        obtain ⟨rfl, rfl⟩ := ((hw.2 hb).2 hy).2 (by omega)
        refine ⟨rfl, n, m, t, u, hh.keep rfl rfl rfl rfl rfl rfl rfl rfl rfl rfl rfl rfl, hst.keep rfl rfl rfl, ht.keep rfl rfl rfl rfl, hm.keep rfl rfl rfl rfl, ⟨s + 1, by omega, rfl, rfl, s4, fun k hk => ?_, fun k hk => ?_⟩, h2.keep rfl rfl rfl rfl rfl rfl, h3.keep rfl rfl rfl rfl (fun k _ _ => by funext i; rw [zup_k (by omega), zup_k (by omega), zup_k (by omega), zup_k (by omega), zup_k (by omega), zup_k (by omega)]), h4.keep rfl rfl rfl (fun k _ _ => by funext i; rw [zup_k (by omega), zup_k (by omega), zup_k (by omega), zup_k (by omega), zup_k (by omega), zup_k (by omega)])⟩
        rotate_left
        · show lv n m (zup μ 97 s (a * 5 + c) 97 k).toNat
          by_cases e : k = s
          · subst e
            rw [zup_s]
            omega
          · rw [zup_n (fun q => e q.2)]
            exact s6 k (by omega)
        show zup μ 97 s (a * 5 + c) 97 k = zup μ 124 s (5 * a + c) 124 k ∧ zup μ 98 s y 98 k = zup μ 125 s y 125 k ∧ 0 ≤ zup μ 97 s (a * 5 + c) 97 k ∧ zup μ 97 s (a * 5 + c) 97 k < 30
        by_cases e : k = s
        · subst e
          rw [zup_s, zup_s, zup_s, zup_s]
          omega
        · rw [zup_n (fun q => e q.2), zup_n (fun q => e q.2), zup_n (fun q => e q.2), zup_n (fun q => e q.2)]
          exact s5 k (by omega)
    · obtain ⟨rfl, rfl⟩ := (hv.2 hb).1 hy
      refine zMi_mono (c_X9_see 17 a c y μ n m t u s hh.2.1 s1 s3) (fun w ξ hw => ?_)
      obtain ⟨rfl, rfl⟩ := (hw.2 hb).1 hy
      exact ⟨rfl, n, m, t, u, hI0⟩
  · obtain ⟨rfl, rfl⟩ := hv.1 hb
    refine zMi_mono (c_X9_see 17 a c y μ n m t u s hh.2.1 s1 s3) (fun w ξ hw => ?_)
    obtain ⟨rfl, rfl⟩ := hw.1 hb
    exact ⟨rfl, n, m, t, u, hI0⟩
theorem c_X3_addNote99 (d : Nat) (x y : Int) (μ : zM) (s : Nat) (hs : s ≤ 15) (h3 : μ 99 3 = s) (h2 : μ 99 2 = 15) : zMet (d + 1) 0 yX3_addNote cX3_addNote 3 (some .int) TF μ [zR 99, zI x, zI y] (zPi (fun v ν => (s = 15 → v = -1000000004 ∧ μ = ν) ∧ (s < 15 → v = s + 1 ∧ zup (zup (zup μ 100 s x) 101 s y) 99 3 (s + 1) = ν))) := by
  refine zMi_of RX3 rfl (by decide) rfl (ls := [some (zR 99), some (zI x), some (zI y)]) rfl (fun hok => ?_)
  refine zA_aload_n dX3_addNote_0 rfl ?_
  refine zA_getE (w := (s : Int)) fX3_22 t_99 dX3_addNote_1 h3 ?_
  refine zA_aload_n dX3_addNote_4 rfl ?_
  refine zA_getE (w := 15) fX3_9 t_99 dX3_addNote_5 h2 ?_
  refine zA_icmp_lt (tgt := 14) dX3_addNote_8 rfl (fun h8 => ?_) (fun h8 => ?_)
  · refine zA_aload_n dX3_addNote_14 rfl ?_
    refine zA_getR fX3_15 t_99 rfl dX3_addNote_15 ?_
    refine zA_aload_n dX3_addNote_18 rfl ?_
    refine zA_getE (w := (s : Int)) fX3_22 t_99 dX3_addNote_19 h3 ?_
    refine zA_iload_n dX3_addNote_22 rfl ?_
    refine zA_iasE (j := s) t_100 (by omega) (by omega) dX3_addNote_23 rfl ?_
    refine zA_aload_n dX3_addNote_24 rfl ?_
    refine zA_getR fX3_19 t_99 rfl dX3_addNote_25 ?_
    refine zA_aload_n dX3_addNote_28 rfl ?_
    refine zA_getE (w := (s : Int)) fX3_22 t_99 dX3_addNote_29 (by rw [zup_k (by decide)]; exact h3) ?_
    refine zA_iload_n dX3_addNote_32 rfl ?_
    refine zA_iasE (j := s) t_101 (by omega) (by omega) dX3_addNote_33 rfl ?_
    refine zA_aload_n dX3_addNote_34 rfl ?_
    refine zA_dup dX3_addNote_35 rfl ?_
    refine zA_getE (w := (s : Int)) fX3_22 t_99 dX3_addNote_36 (by rw [zup_k (by decide), zup_k (by decide)]; exact h3) ?_
    refine zA_iconst dX3_addNote_39 rfl ?_
    refine zA_iaddB dX3_addNote_40 ⟨by omega, by omega⟩ ?_
    refine zA_putI wX3_22 t_99 dX3_addNote_41 ?_
    refine zA_aload_n dX3_addNote_44 rfl ?_
    refine zA_getE (w := (s : Int) + 1) fX3_22 t_99 dX3_addNote_45 (by rw [zup_s]) ?_
    exact zA_ri dX3_addNote_48 ⟨fun q => False.elim (by omega), fun _ => ⟨rfl, rfl⟩⟩
  · refine zA_ldc cX3_25 dX3_addNote_11 rfl ?_
    exact zA_ri dX3_addNote_13 ⟨fun _ => ⟨rfl, rfl⟩, fun q => False.elim (by omega)⟩
theorem c_X8_noteIn99 (d : Nat) (a c y : Int) (μ : zM) (n m t : Nat) (u : Int) (s : Nat) (hH : zHs μ n m t u) (hs : s ≤ 15) (h3 : μ 99 3 = s) (h2 : μ 99 2 = 15) : zMet (d + 3) 0 yX8_noteIn cX8_noteIn 5 (some .int) TF μ [zR 0, zR 99, zI a, zI c, zI y] (zPi (fun v ν => (¬ ((0 ≤ a ∧ a < m) ∧ (0 ≤ c ∧ c < n)) → v = -1000000001 ∧ μ = ν) ∧ (((0 ≤ a ∧ a < m) ∧ (0 ≤ c ∧ c < n)) → (¬ (0 ≤ y ∧ y ≤ 60) → v = -1000000002 ∧ μ = ν) ∧ ((0 ≤ y ∧ y ≤ 60) → (s = 15 → v = -1000000004 ∧ μ = ν) ∧ (s < 15 → v = s + 1 ∧ zup (zup (zup μ 100 s (a * 5 + c)) 101 s y) 99 3 (s + 1) = ν))))) := by
  obtain ⟨hn, hu, hm, ht, hn5, hm6, ht10, hu1, hdk⟩ := hH
  refine zMi_of RX8 rfl (by decide) rfl (ls := [some (zR 0), some (zR 99), some (zI a), some (zI c), some (zI y)]) rfl (fun hok => ?_)
  refine zA_aload_n dX8_noteIn_0 rfl ?_
  refine zA_getR fX8_12 t_0 rfl dX8_noteIn_1 ?_
  refine zA_iload_n dX8_noteIn_4 rfl ?_
  refine zA_iload_n dX8_noteIn_5 rfl ?_
  refine zA_cVb (st := []) kX8_140 t_1 rfl rfl (c_X2_hasCell d a c μ) rfl rfl rfl dX8_noteIn_6 (zfit0 (by omega) rfl) (fun v1 μ1 q1 => ?_)
  obtain ⟨b1, rfl⟩ := q1
  rw [hn, hm] at b1
  refine zA_ifb_ne (tgt := 15) dX8_noteIn_9 rfl (fun h9 => ?_) (fun h9 => ?_)
  · have hb := b1.mp h9
    refine zA_iload dX8_noteIn_15 rfl ?_
    refine zA_cSb (st := []) kX8_218 (c_X8_isAmount (d + 1) y μ) rfl rfl rfl dX8_noteIn_17 (zfit0 (by omega) rfl) (fun v2 μ2 q2 => ?_)
    obtain ⟨b2, rfl⟩ := q2
    refine zA_ifb_ne (tgt := 26) dX8_noteIn_20 rfl (fun h20 => ?_) (fun h20 => ?_)
    · refine zA_aload_n dX8_noteIn_26 rfl ?_
      refine zA_iload_n dX8_noteIn_27 rfl ?_
      refine zA_iload_n dX8_noteIn_28 rfl ?_
      refine zA_cSi (st := [zR 99]) kX8_147 (c_X8_cell (d + 1) (a) (c) μ (by omega) (by omega)) rfl rfl rfl dX8_noteIn_29 (zfit0 (by omega) rfl) (fun v3 μ3 q3 => ?_)
      obtain ⟨rfl, rfl⟩ := q3
      refine zA_iload dX8_noteIn_32 rfl ?_
      refine zA_cVi (st := []) kX8_310 t_99 rfl rfl (c_X3_addNote99 (d + 1) (a * 5 + c) y μ s hs h3 h2) rfl rfl rfl dX8_noteIn_34 (zfit0 (by omega) rfl) (fun v4 μ4 q4 => ?_)
      exact zA_ri dX8_noteIn_37 ⟨fun q => absurd (b1.mp h9) q, fun _ => ⟨fun q => absurd (b2.mp h20) q, fun _ => q4⟩⟩
    · refine zA_ldc cX8_88 dX8_noteIn_23 rfl ?_
      exact zA_ri dX8_noteIn_25 ⟨fun q => absurd (b1.mp h9) q, fun _ => ⟨fun _ => ⟨rfl, rfl⟩, fun q => False.elim (by have := b2.mpr q; simp_all)⟩⟩
  · refine zA_ldc cX8_151 dX8_noteIn_12 rfl ?_
    exact zA_ri dX8_noteIn_14 ⟨fun _ => ⟨rfl, rfl⟩, fun q => False.elim (by have := b1.mpr q; simp_all)⟩
theorem c_X8_write (d : Nat) (a c y : Int) (μ : zM) (n m t : Nat) (u : Int) (s : Nat) (hH : zHs μ n m t u) (hs : s ≤ 15) (h3 : μ 99 3 = s) (h2 : μ 99 2 = 15) : zMet (d + 4) 0 yX8_write cX8_write 4 (some .int) TF μ [zR 0, zI a, zI c, zI y] (zPi (fun v ν => (¬ ((0 ≤ a ∧ a < m) ∧ (0 ≤ c ∧ c < n)) → v = -1000000001 ∧ μ = ν) ∧ (((0 ≤ a ∧ a < m) ∧ (0 ≤ c ∧ c < n)) → (¬ (0 ≤ y ∧ y ≤ 60) → v = -1000000002 ∧ μ = ν) ∧ ((0 ≤ y ∧ y ≤ 60) → (s = 15 → v = -1000000004 ∧ μ = ν) ∧ (s < 15 → v = s + 1 ∧ zup (zup (zup μ 100 s (a * 5 + c)) 101 s y) 99 3 (s + 1) = ν))))) := by
  refine zMi_of RX8 rfl (by decide) rfl (ls := [some (zR 0), some (zI a), some (zI c), some (zI y)]) rfl (fun hok => ?_)
  refine zA_aload_n dX8_write_0 rfl ?_
  refine zA_aload_n dX8_write_1 rfl ?_
  refine zA_getR fX8_67 t_0 rfl dX8_write_2 ?_
  refine zA_iload_n dX8_write_5 rfl ?_
  refine zA_iload_n dX8_write_6 rfl ?_
  refine zA_iload_n dX8_write_7 rfl ?_
  refine zA_cVi (st := []) kX8_257 t_0 rfl rfl (c_X8_noteIn99 d a c y μ n m t u s hH hs h3 h2) rfl rfl rfl dX8_write_8 (zfit0 (by omega) rfl) (fun v1 μ1 q1 => ?_)
  exact zA_ri dX8_write_11 q1
theorem c_X9_write (d : Nat) (a c y : Int) (μ : zM) (n m t : Nat) (u : Int) (s : Nat) (hH : zMs μ n m t u) (hs : s ≤ 15) (h3 : μ 110 37 = s) : zMet (d + 3) 0 yX9_write cX9_write 4 (some .int) TF μ [zR 110, zI a, zI c, zI y] (zPi (fun v ν => (¬ ((0 ≤ a ∧ a < m) ∧ (0 ≤ c ∧ c < n)) → v = -1000000001 ∧ μ = ν) ∧ (((0 ≤ a ∧ a < m) ∧ (0 ≤ c ∧ c < n)) → (¬ (0 ≤ y ∧ y ≤ 60) → v = -1000000002 ∧ μ = ν) ∧ ((0 ≤ y ∧ y ≤ 60) → (s = 15 → v = -1000000004 ∧ μ = ν) ∧ (s < 15 → v = s + 1 ∧ zup (zup (zup μ 127 s (5 * a + c)) 128 s y) 110 37 (s + 1) = ν))))) := by
  obtain ⟨hn, hu, hm, ht, hn5, hm6, ht10, hu1, hdk⟩ := hH
  refine zMi_of RX9 rfl (by decide) rfl (ls := [some (zR 110), some (zI a), some (zI c), some (zI y)]) rfl (fun hok => ?_)
  refine zA_aload_n dX9_write_0 rfl ?_
  refine zA_iload_n dX9_write_1 rfl ?_
  refine zA_cVb (st := []) kX9_187 t_110 rfl rfl (c_X9_isCoat d a μ (by omega)) rfl rfl rfl dX9_write_2 (zfit0 (by omega) rfl) (fun v1 μ1 q1 => ?_)
  obtain ⟨b1, rfl⟩ := q1
  rw [hm] at b1
  refine zA_ifb_eq (tgt := 16) dX9_write_5 rfl (fun h5 => ?_) (fun h5 => ?_)
  · refine zA_ldc cX9_194 dX9_write_16 rfl ?_
    exact zA_ri dX9_write_18 ⟨fun _ => ⟨rfl, rfl⟩, fun q => False.elim (by first | (have := b1.mpr q.1; simp_all; done) | (have := b2.mpr q.2; simp_all; done))⟩
  · refine zA_aload_n dX9_write_8 rfl ?_
    refine zA_iload_n dX9_write_9 rfl ?_
    refine zA_cVb (st := []) kX9_191 t_110 rfl rfl (c_X9_isColour d c μ (by omega)) rfl rfl rfl dX9_write_10 (zfit0 (by omega) rfl) (fun v2 μ2 q2 => ?_)
    obtain ⟨b2, rfl⟩ := q2
    rw [hn] at b2
    refine zA_ifb_ne (tgt := 19) dX9_write_13 rfl (fun h13 => ?_) (fun h13 => ?_)
    · have hb := And.intro (b1.mp (by simpa using h5)) (b2.mp (by simpa using h13))
      refine zA_iload_n dX9_write_19 rfl ?_
      refine zA_cSb (st := []) kX9_249 (c_X9_isParts d y μ) rfl rfl rfl dX9_write_20 (zfit0 (by omega) rfl) (fun v3 μ3 q3 => ?_)
      obtain ⟨b3, rfl⟩ := q3
      refine zA_ifb_ne (tgt := 29) dX9_write_23 rfl (fun h23 => ?_) (fun h23 => ?_)
      · refine zA_aload_n dX9_write_29 rfl ?_
        refine zA_getE (w := (s : Int)) fX9_181 t_110 dX9_write_30 h3 ?_
        refine zA_bipush dX9_write_33 rfl ?_
        refine zA_icmp_ne (tgt := 41) dX9_write_35 rfl (fun h35 => ?_) (fun h35 => ?_)
        · refine zA_aload_n dX9_write_41 rfl ?_
          refine zA_getR fX9_62 t_110 rfl dX9_write_42 ?_
          refine zA_aload_n dX9_write_45 rfl ?_
          refine zA_getE (w := (s : Int)) fX9_181 t_110 dX9_write_46 h3 ?_
          refine zA_iconst dX9_write_49 rfl ?_
          refine zA_iload_n dX9_write_50 rfl ?_
          refine zA_imulB dX9_write_51 ⟨by omega, by omega⟩ ?_
          refine zA_iload_n dX9_write_52 rfl ?_
          refine zA_iaddB dX9_write_53 ⟨by omega, by omega⟩ ?_
          refine zA_iasE (j := s) t_127 (by omega) (by omega) dX9_write_54 rfl ?_
          refine zA_aload_n dX9_write_55 rfl ?_
          refine zA_getR fX9_65 t_110 rfl dX9_write_56 ?_
          refine zA_aload_n dX9_write_59 rfl ?_
          refine zA_getE (w := (s : Int)) fX9_181 t_110 dX9_write_60 (by rw [zup_k (by decide)]; exact h3) ?_
          refine zA_iload_n dX9_write_63 rfl ?_
          refine zA_iasE (j := s) t_128 (by omega) (by omega) dX9_write_64 rfl ?_
          refine zA_aload_n dX9_write_65 rfl ?_
          refine zA_dup dX9_write_66 rfl ?_
          refine zA_getE (w := (s : Int)) fX9_181 t_110 dX9_write_67 (by rw [zup_k (by decide), zup_k (by decide)]; exact h3) ?_
          refine zA_iconst dX9_write_70 rfl ?_
          refine zA_iaddB dX9_write_71 ⟨by omega, by omega⟩ ?_
          refine zA_putI wX9_181 t_110 dX9_write_72 ?_
          refine zA_aload_n dX9_write_75 rfl ?_
          refine zA_getE (w := (s : Int) + 1) fX9_181 t_110 dX9_write_76 (by rw [zup_s]) ?_
          exact zA_ri dX9_write_79 ⟨fun q => absurd hb q, fun _ => ⟨fun q => absurd (b3.mp h23) q, fun _ => ⟨fun q => False.elim (by omega), fun _ => ⟨rfl, rfl⟩⟩⟩⟩
        · refine zA_ldc cX9_93 dX9_write_38 rfl ?_
          exact zA_ri dX9_write_40 ⟨fun q => absurd hb q, fun _ => ⟨fun q => absurd (b3.mp h23) q, fun _ => ⟨fun _ => ⟨rfl, rfl⟩, fun q => False.elim (by omega)⟩⟩⟩
      · refine zA_ldc cX9_89 dX9_write_26 rfl ?_
        exact zA_ri dX9_write_28 ⟨fun q => absurd hb q, fun _ => ⟨fun _ => ⟨rfl, rfl⟩, fun q => False.elim (by have := b3.mpr q; simp_all)⟩⟩
    · refine zA_ldc cX9_194 dX9_write_16 rfl ?_
      exact zA_ri dX9_write_18 ⟨fun _ => ⟨rfl, rfl⟩, fun q => False.elim (by first | (have := b1.mpr q.1; simp_all; done) | (have := b2.mpr q.2; simp_all; done))⟩
theorem pr_write (μ : zM) (a c y : Int) (n m t : Nat) (u : Int) (hI : zInv μ n m t u) : zPair yX8_write cX8_write 4 yX9_write cX9_write 4 [zI a, zI c, zI y] μ := by
  have hI0 := hI
  obtain ⟨hh, hst, ht, hm, h1, ⟨s, s1, s2, s3, s4, s5, s6⟩, h3, h4⟩ := hI
  have hn5 := hh.1.2.2.2.2.1
  have hm6 := hh.1.2.2.2.2.2.1
  refine zMi_mono (c_X8_write 16 a c y μ n m t u s hh.1 s1 s2 s4) (fun v ν hv => ?_)
  by_cases hb : (0 ≤ a ∧ a < m) ∧ (0 ≤ c ∧ c < n)
  · by_cases hy : 0 ≤ y ∧ y ≤ 60
    · by_cases hs : s = 15
      · obtain ⟨rfl, rfl⟩ := ((hv.2 hb).2 hy).1 hs
        refine zMi_mono (c_X9_write 17 a c y μ n m t u s hh.2.1 s1 s3) (fun w ξ hw => ?_)
        obtain ⟨rfl, rfl⟩ := ((hw.2 hb).2 hy).1 hs
        exact ⟨rfl, n, m, t, u, hI0⟩
      · obtain ⟨rfl, rfl⟩ := ((hv.2 hb).2 hy).2 (by omega)
        refine zMi_mono (c_X9_write 17 a c y _ n m t u s (hh.2.1.keep rfl rfl rfl) s1 s3) (fun w ξ hw => ?_)
        obtain ⟨rfl, rfl⟩ := ((hw.2 hb).2 hy).2 (by omega)
        refine ⟨rfl, n, m, t, u, hh.keep rfl rfl rfl rfl rfl rfl rfl rfl rfl rfl rfl rfl, hst.keep rfl rfl rfl, ht.keep rfl rfl rfl rfl, hm.keep rfl rfl rfl rfl, h1.keep rfl rfl rfl rfl rfl rfl, ⟨s + 1, by omega, rfl, rfl, s4, fun k hk => ?_, fun k hk => ?_⟩, h3.keep rfl rfl rfl rfl (fun k _ _ => by funext i; rw [zup_k (by omega), zup_k (by omega), zup_k (by omega), zup_k (by omega), zup_k (by omega), zup_k (by omega)]), h4.keep rfl rfl rfl (fun k _ _ => by funext i; rw [zup_k (by omega), zup_k (by omega), zup_k (by omega), zup_k (by omega), zup_k (by omega), zup_k (by omega)])⟩
        rotate_left
        · show lv n m (zup μ 100 s (a * 5 + c) 100 k).toNat
          by_cases e : k = s
          · subst e
            rw [zup_s]
            omega
          · rw [zup_n (fun q => e q.2)]
            exact s6 k (by omega)
        show zup μ 100 s (a * 5 + c) 100 k = zup μ 127 s (5 * a + c) 127 k ∧ zup μ 101 s y 101 k = zup μ 128 s y 128 k ∧ 0 ≤ zup μ 100 s (a * 5 + c) 100 k ∧ zup μ 100 s (a * 5 + c) 100 k < 30
        by_cases e : k = s
        · subst e
          rw [zup_s, zup_s, zup_s, zup_s]
          omega
        · rw [zup_n (fun q => e q.2), zup_n (fun q => e q.2), zup_n (fun q => e q.2), zup_n (fun q => e q.2)]
          exact s5 k (by omega)
    · obtain ⟨rfl, rfl⟩ := (hv.2 hb).1 hy
      refine zMi_mono (c_X9_write 17 a c y μ n m t u s hh.2.1 s1 s3) (fun w ξ hw => ?_)
      obtain ⟨rfl, rfl⟩ := (hw.2 hb).1 hy
      exact ⟨rfl, n, m, t, u, hI0⟩
  · obtain ⟨rfl, rfl⟩ := hv.1 hb
    refine zMi_mono (c_X9_write 17 a c y μ n m t u s hh.2.1 s1 s3) (fun w ξ hw => ?_)
    obtain ⟨rfl, rfl⟩ := hw.1 hb
    exact ⟨rfl, n, m, t, u, hI0⟩
