/-! ===== images: keep, goBack ===== -/
theorem zInv_gen {μ ξ : zM} {n m t : Nat} {u : Int} (hI : zInv μ n m t u) (k : ∀ k, ((1 ≤ k ∧ k ≤ 4) ∨ k = 8 ∨ k = 16 ∨ (96 ≤ k ∧ k ≤ 101) ∨ (111 ≤ k ∧ k ≤ 113) ∨ k = 115 ∨ (124 ≤ k ∧ k ≤ 125) ∨ (127 ≤ k ∧ k ≤ 128)) → ξ k = μ k) (h15 : ξ 0 15 = μ 0 15) (h110 : ∀ i, i ≠ 9 → i ≠ 26 → ξ 110 i = μ 110 i) (hs : ξ 0 14 = ξ 110 9) (hs0 : 0 ≤ ξ 0 14) (hnow : iSt ξ n m 52 114 0) (himg : iImg ξ n m) (hhis : iHis ξ n m) : zInv ξ n m t u := by
  obtain ⟨hh, hst, ht, hm, h1, h2, h3, h4⟩ := hI
  exact ⟨hh.keep (k _ (by omega)) (k _ (by omega)) (k _ (by omega)) (k _ (by omega)) (k _ (by omega)) (k _ (by omega)) (k _ (by omega)) (h110 _ (by decide) (by decide)) (h110 _ (by decide) (by decide)) (h110 _ (by decide) (by decide)) (h110 _ (by decide) (by decide)) (h110 _ (by decide) (by decide)), hnow, ht.keep (by rw [k 8 (by omega)]) (k _ (by omega)) (k _ (by omega)) (h110 _ (by decide) (by decide)), ⟨by rw [h15, h110 12 (by decide) (by decide)]; exact hm.1, hs, hs0⟩, h1.keep (k _ (by omega)) (k _ (by omega)) (k _ (by omega)) (k _ (by omega)) (k _ (by omega)) (h110 _ (by decide) (by decide)), h2.keep (k _ (by omega)) (k _ (by omega)) (k _ (by omega)) (k _ (by omega)) (k _ (by omega)) (h110 _ (by decide) (by decide)), himg, hhis⟩
theorem iHis0 {ξ : zM} {n m x : Nat} (hx : x < 20) (h1 : ξ 54 2 = 0) (h2 : ξ 110 26 = 0) (h3 : ξ 54 1 = x) : iHis ξ n m := ⟨0, x, by omega, hx, h1, h2, h3, fun j hj => by omega⟩
theorem c_X8_keepY (d i : Nat) (μ : zM) (hi : i < 2) : zMet (d + 3) 0 yX8_keep cX8_keep 2 (some .int) TF μ [zR 0, zI (i : Int)] (zPi (fun v ν => v = 1 ∧ (∀ j, j < 30 → ν (106 + 2 * i + 1) j = μ 53 j) ∧ ν (106 + 2 * i) 1 = μ 52 1 ∧ ν (106 + 2 * i) 2 = μ 52 2 ∧ ν (106 + 2 * i) 3 = μ 52 3 ∧ ν 103 i = μ 0 14 ∧ (∀ j, j ≠ i → ν 103 j = μ 103 j) ∧ ν 0 13 = zor (μ 0 13) (zshl 1 (i : Int)) ∧ (∀ j, j ≠ 13 → ν 0 j = μ 0 j) ∧ ν 54 2 = 0 ∧ ν 54 1 = μ 54 1 ∧ ∀ k, k ≠ 106 + 2 * i → k ≠ 106 + 2 * i + 1 → k ≠ 103 → k ≠ 0 → k ≠ 54 → ν k = μ k)) := by
  refine zMi_of RX8 rfl (by decide) rfl (ls := [some (zR 0), some (zI (i : Int))]) rfl (fun hok => ?_)
  refine zA_iload_n dX8_keep_0 rfl ?_
  refine zA_if_lt (tgt := 9) dX8_keep_1 rfl (fun h1 => False.elim (by omega)) fun h1 => ?_
  refine zA_iload_n dX8_keep_4 rfl ?_
  refine zA_iconst dX8_keep_5 rfl ?_
  refine zA_icmp_lt (tgt := 12) dX8_keep_6 rfl (fun h6 => ?_) (fun h6 => False.elim (by omega))
  refine zA_aload_n dX8_keep_12 rfl ?_
  refine zA_getR fX8_70 t_0 rfl dX8_keep_13 ?_
  refine zA_iload_n dX8_keep_16 rfl ?_
  refine zA_aaldS (k' := 106 + 2 * i) t_102 (by omega) (by omega) (t_images i hi) dX8_keep_17 ?_
  refine zA_aload_n dX8_keep_18 rfl ?_
  refine zA_getR fX8_47 t_0 rfl dX8_keep_19 ?_
  refine zA_cVv (st := []) kX8_276 (zSt_img hi).1 rfl rfl (c_X7_become d (106 + 2 * i) 52 μ (zSt_img hi) zSt_52 (by omega)) rfl rfl rfl dX8_keep_22 (zfit0 (by omega) rfl) (fun μ1 q1 => ?_)
  obtain ⟨q1a, q1b, q1c, q1d, q1e⟩ := q1
  refine zA_aload_n dX8_keep_25 rfl ?_
  refine zA_getR fX8_74 t_0 rfl dX8_keep_26 ?_
  refine zA_iload_n dX8_keep_29 rfl ?_
  refine zA_aload_n dX8_keep_30 rfl ?_
  refine zA_getE (w := μ 0 14) fX8_273 t_0 dX8_keep_31 (by rw [q1e 0 (by omega) (by omega)]) ?_
  refine zA_iasE (j := i) t_103 (by omega) (by omega) dX8_keep_34 rfl ?_
  refine zA_aload_n dX8_keep_35 rfl ?_
  refine zA_dup dX8_keep_36 rfl ?_
  refine zA_getE (w := μ 0 13) fX8_279 t_0 dX8_keep_37 (by rw [zup_k (by decide)]; exact (by rw [q1e 0 (by omega) (by omega)])) ?_
  refine zA_iconst dX8_keep_40 rfl ?_
  refine zA_iload_n dX8_keep_41 rfl ?_
  refine zA_ishl dX8_keep_42 ?_
  refine zA_ior dX8_keep_43 ?_
  refine zA_putI wX8_279 t_0 dX8_keep_44 ?_
  refine zA_aload_n dX8_keep_47 rfl ?_
  refine zA_getR fX8_54 t_0 rfl dX8_keep_48 ?_
  refine zA_iconst dX8_keep_51 rfl ?_
  refine zA_putI wX8_139 t_54 dX8_keep_52 ?_
  refine zA_iconst dX8_keep_55 rfl ?_
  refine zA_ri dX8_keep_56 ⟨rfl, fun j hj => ?_, ?_, ?_, ?_, ?_, fun j hj => ?_, ?_, fun j hj => ?_, ?_, ?_, fun k h1 h2 h3 h4 h5 => ?_⟩
  · rw [zup_k (by omega), zup_k (by omega), zup_k (by omega)]; exact q1a j hj
  · rw [zup_k (by omega), zup_k (by omega), zup_k (by omega)]; exact q1b
  · rw [zup_k (by omega), zup_k (by omega), zup_k (by omega)]; exact q1c
  · rw [zup_k (by omega), zup_k (by omega), zup_k (by omega)]; exact q1d
  · rw [zup_k (by omega), zup_k (by omega), zup_s]
  · rw [zup_k (by omega), zup_k (by omega), zup_n (fun q => hj q.2), q1e 103 (by omega) (by omega)]
  · rw [zup_k (by omega), zup_s]
  · rw [zup_k (by omega), zup_n (fun q => hj q.2), zup_k (by omega), q1e 0 (by omega) (by omega)]
  · rw [zup_s]
  · rw [zup_n (by decide), zup_k (by omega), zup_k (by omega), q1e 54 (by omega) (by omega)]
  · rw [← q1e k h1 h2]
    funext j
    rw [zup_k h5, zup_k h4, zup_k h3]
theorem c_X8_keepN (d : Nat) (i : Int) (μ : zM) (hi : ¬ (0 ≤ i ∧ i ≤ 1)) : zMet (d + 2) 0 yX8_keep cX8_keep 2 (some .int) TF μ [zR 0, zI i] (zPi (fun v ν => v = -1000000001 ∧ μ = ν)) := by
  refine zMi_of RX8 rfl (by decide) rfl (ls := [some (zR 0), some (zI i)]) rfl (fun hok => ?_)
  refine zA_iload_n dX8_keep_0 rfl ?_
  refine zA_if_lt (tgt := 9) dX8_keep_1 rfl (fun h1 => ?_) (fun h1 => ?_)
  · refine zA_ldc cX8_151 dX8_keep_9 rfl ?_
    exact zA_ri dX8_keep_11 ⟨rfl, rfl⟩
  · refine zA_iload_n dX8_keep_4 rfl ?_
    refine zA_iconst dX8_keep_5 rfl ?_
    refine zA_icmp_lt (tgt := 12) dX8_keep_6 rfl (fun h6 => False.elim (by omega)) fun h6 => ?_
    refine zA_ldc cX8_151 dX8_keep_9 rfl ?_
    exact zA_ri dX8_keep_11 ⟨rfl, rfl⟩
theorem c_X8_goBackN (d : Nat) (i : Int) (μ : zM) (hi : ¬ (0 ≤ i ∧ i ≤ 1)) : zMet (d + 2) 0 yX8_goBack cX8_goBack 2 (some .int) TF μ [zR 0, zI i] (zPi (fun v ν => v = -1000000001 ∧ μ = ν)) := by
  refine zMi_of RX8 rfl (by decide) rfl (ls := [some (zR 0), some (zI i)]) rfl (fun hok => ?_)
  refine zA_iload_n dX8_goBack_0 rfl ?_
  refine zA_if_lt (tgt := 9) dX8_goBack_1 rfl (fun h1 => ?_) (fun h1 => ?_)
  · refine zA_ldc cX8_151 dX8_goBack_9 rfl ?_
    exact zA_ri dX8_goBack_11 ⟨rfl, rfl⟩
  · refine zA_iload_n dX8_goBack_4 rfl ?_
    refine zA_iconst dX8_goBack_5 rfl ?_
    refine zA_icmp_lt (tgt := 12) dX8_goBack_6 rfl (fun h6 => False.elim (by omega)) fun h6 => ?_
    refine zA_ldc cX8_151 dX8_goBack_9 rfl ?_
    exact zA_ri dX8_goBack_11 ⟨rfl, rfl⟩
theorem c_X9_keepN (d : Nat) (i : Int) (μ : zM) (hi : ¬ (0 ≤ i ∧ i ≤ 1)) : zMet (d + 2) 0 yX9_keep cX9_keep 3 (some .int) TF μ [zR 110, zI i] (zPi (fun v ν => v = -1000000001 ∧ μ = ν)) := by
  refine zMi_of RX9 rfl (by decide) rfl (ls := [some (zR 110), some (zI i), none]) rfl (fun hok => ?_)
  refine zA_iload_n dX9_keep_0 rfl ?_
  refine zA_i2l dX9_keep_1 ?_
  refine zA_lconst (v := 0) dX9_keep_2 rfl rfl ?_
  refine zA_lconst (v := 1) dX9_keep_3 rfl rfl ?_
  refine zA_cSb (st := []) kX9_81 (c_X9_in d i 0 1 μ) rfl rfl rfl dX9_keep_4 (zfit0 (by omega) rfl) (fun v1 μ1 q1 => ?_)
  obtain ⟨b1, rfl⟩ := q1
  refine zA_ifb_ne (tgt := 13) dX9_keep_7 rfl (fun h7 => False.elim (by have := b1.mp h7; omega)) fun h7 => ?_
  refine zA_ldc cX9_194 dX9_keep_10 rfl ?_
  exact zA_ri dX9_keep_12 ⟨rfl, rfl⟩
theorem c_X9_goBackN (d : Nat) (i : Int) (μ : zM) (hi : ¬ (0 ≤ i ∧ i ≤ 1)) : zMet (d + 2) 0 yX9_goBack cX9_goBack 3 (some .int) TF μ [zR 110, zI i] (zPi (fun v ν => v = -1000000001 ∧ μ = ν)) := by
  refine zMi_of RX9 rfl (by decide) rfl (ls := [some (zR 110), some (zI i), none]) rfl (fun hok => ?_)
  refine zA_iload_n dX9_goBack_0 rfl ?_
  refine zA_i2l dX9_goBack_1 ?_
  refine zA_lconst (v := 0) dX9_goBack_2 rfl rfl ?_
  refine zA_lconst (v := 1) dX9_goBack_3 rfl rfl ?_
  refine zA_cSb (st := []) kX9_81 (c_X9_in d i 0 1 μ) rfl rfl rfl dX9_goBack_4 (zfit0 (by omega) rfl) (fun v1 μ1 q1 => ?_)
  obtain ⟨b1, rfl⟩ := q1
  refine zA_ifb_ne (tgt := 13) dX9_goBack_7 rfl (fun h7 => False.elim (by have := b1.mp h7; omega)) fun h7 => ?_
  refine zA_ldc cX9_194 dX9_goBack_10 rfl ?_
  exact zA_ri dX9_goBack_12 ⟨rfl, rfl⟩
theorem c_X8_goBackY (d i : Nat) (μ : zM) (hi : i < 2) (hk : zbit (μ 0 13) (i : Int) = 1) : zMet (d + 3) 0 yX8_goBack cX8_goBack 2 (some .int) TF μ [zR 0, zI (i : Int)] (zPi (fun v ν => v = 1 ∧ (∀ j, j < 30 → ν 53 j = μ (106 + 2 * i + 1) j) ∧ ν 52 1 = μ (106 + 2 * i) 1 ∧ ν 52 2 = μ (106 + 2 * i) 2 ∧ ν 52 3 = μ (106 + 2 * i) 3 ∧ ν 0 14 = μ 103 i ∧ (∀ j, j ≠ 14 → ν 0 j = μ 0 j) ∧ ν 54 2 = 0 ∧ ν 54 1 = μ 54 1 ∧ ∀ k, k ≠ 52 → k ≠ 53 → k ≠ 0 → k ≠ 54 → ν k = μ k)) := by
  refine zMi_of RX8 rfl (by decide) rfl (ls := [some (zR 0), some (zI (i : Int))]) rfl (fun hok => ?_)
  refine zA_iload_n dX8_goBack_0 rfl ?_
  refine zA_if_lt (tgt := 9) dX8_goBack_1 rfl (fun h1 => False.elim (by omega)) fun h1 => ?_
  refine zA_iload_n dX8_goBack_4 rfl ?_
  refine zA_iconst dX8_goBack_5 rfl ?_
  refine zA_icmp_lt (tgt := 12) dX8_goBack_6 rfl (fun h6 => ?_) (fun h6 => False.elim (by omega))
  refine zA_aload_n dX8_goBack_12 rfl ?_
  refine zA_getI fX8_279 t_0 dX8_goBack_13 ?_
  refine zA_iload_n dX8_goBack_16 rfl ?_
  refine zA_cSb (st := []) kX8_189 (c_X8_isIn (d + 1) (μ 0 13) (i : Int) μ) rfl rfl rfl dX8_goBack_17 (zfit0 (by omega) rfl) (fun v1 μ1 q1 => ?_)
  obtain ⟨b1, rfl⟩ := q1
  refine zA_ifb_ne (tgt := 26) dX8_goBack_20 rfl (fun h20 => ?_) (fun h20 => False.elim (by have := b1.mpr hk; simp_all))
  refine zA_aload_n dX8_goBack_26 rfl ?_
  refine zA_getR fX8_47 t_0 rfl dX8_goBack_27 ?_
  refine zA_aload_n dX8_goBack_30 rfl ?_
  refine zA_getR fX8_70 t_0 rfl dX8_goBack_31 ?_
  refine zA_iload_n dX8_goBack_34 rfl ?_
  refine zA_aaldS (k' := 106 + 2 * i) t_102 (by omega) (by omega) (t_images i hi) dX8_goBack_35 ?_
  refine zA_cVv (st := []) kX8_276 t_52 rfl rfl (c_X7_become d 52 (106 + 2 * i) μ zSt_52 (zSt_img hi) (by omega)) rfl rfl rfl dX8_goBack_36 (zfit0 (by omega) rfl) (fun μ2 q2 => ?_)
  obtain ⟨q1a, q1b, q1c, q1d, q1e⟩ := q2
  refine zA_aload_n dX8_goBack_39 rfl ?_
  refine zA_aload_n dX8_goBack_40 rfl ?_
  refine zA_getR fX8_74 t_0 rfl dX8_goBack_41 ?_
  refine zA_iload_n dX8_goBack_44 rfl ?_
  refine zA_ialE (w := μ 103 i) (j := i) t_103 (by omega) (by omega) dX8_goBack_45 rfl (by rw [q1e 103 (by omega) (by omega)]) ?_
  refine zA_putI wX8_273 t_0 dX8_goBack_46 ?_
  refine zA_aload_n dX8_goBack_49 rfl ?_
  refine zA_getR fX8_54 t_0 rfl dX8_goBack_50 ?_
  refine zA_iconst dX8_goBack_53 rfl ?_
  refine zA_putI wX8_139 t_54 dX8_goBack_54 ?_
  refine zA_iconst dX8_goBack_57 rfl ?_
  refine zA_ri dX8_goBack_58 ⟨rfl, fun j hj => ?_, ?_, ?_, ?_, ?_, fun j hj => ?_, ?_, ?_, fun k h1 h2 h3 h4 => ?_⟩
  · rw [zup_k (by omega), zup_k (by omega)]; exact q1a j hj
  · rw [zup_k (by omega), zup_k (by omega)]; exact q1b
  · rw [zup_k (by omega), zup_k (by omega)]; exact q1c
  · rw [zup_k (by omega), zup_k (by omega)]; exact q1d
  · rw [zup_k (by omega), zup_s]
  · rw [zup_k (by omega), zup_n (fun q => hj q.2), q1e 0 (by omega) (by omega)]
  · rw [zup_s]
  · rw [zup_n (by decide), zup_k (by omega), q1e 54 (by omega) (by omega)]
  · rw [← q1e k h1 h2]
    funext j
    rw [zup_k h4, zup_k h3]
theorem c_X8_goBackM (d i : Nat) (μ : zM) (hi : i < 2) (hk : ¬ zbit (μ 0 13) (i : Int) = 1) : zMet (d + 3) 0 yX8_goBack cX8_goBack 2 (some .int) TF μ [zR 0, zI (i : Int)] (zPi (fun v ν => v = -1000000003 ∧ μ = ν)) := by
  refine zMi_of RX8 rfl (by decide) rfl (ls := [some (zR 0), some (zI (i : Int))]) rfl (fun hok => ?_)
  refine zA_iload_n dX8_goBack_0 rfl ?_
  refine zA_if_lt (tgt := 9) dX8_goBack_1 rfl (fun h1 => False.elim (by omega)) fun h1 => ?_
  refine zA_iload_n dX8_goBack_4 rfl ?_
  refine zA_iconst dX8_goBack_5 rfl ?_
  refine zA_icmp_lt (tgt := 12) dX8_goBack_6 rfl (fun h6 => ?_) (fun h6 => False.elim (by omega))
  refine zA_aload_n dX8_goBack_12 rfl ?_
  refine zA_getI fX8_279 t_0 dX8_goBack_13 ?_
  refine zA_iload_n dX8_goBack_16 rfl ?_
  refine zA_cSb (st := []) kX8_189 (c_X8_isIn (d + 1) (μ 0 13) (i : Int) μ) rfl rfl rfl dX8_goBack_17 (zfit0 (by omega) rfl) (fun v1 μ1 q1 => ?_)
  obtain ⟨b1, rfl⟩ := q1
  refine zA_ifb_ne (tgt := 26) dX8_goBack_20 rfl (fun h20 => False.elim (by have := b1.mp h20; exact hk this)) fun h20 => ?_
  refine zA_ldc cX8_192 dX8_goBack_23 rfl ?_
  exact zA_ri dX8_goBack_25 ⟨rfl, rfl⟩
theorem l_X9_keep (d i : Nat) (μ : zM) (hi : i < 2) : ∀ (t0 k : Nat), 33 - k = t0 → k ≤ 33 → ∀ ν : zM, (∀ j, j < k → ν 129 (34 * i + j) = μ 114 j) → (∀ j, j < 34 * i ∨ 34 * i + 34 ≤ j → ν 129 j = μ 129 j) → (∀ c, c ≠ 129 → ν c = μ c) → zA RX9 cX9_keep 3 (zRm (d + 2) 0) zN0 TF 0 ν 15 [some (zR 110), some (zI (i : Int)), some (zI (k : Int))] [] (zPi (fun v ν => v = 1 ∧ (∀ j, j < 33 → ν 129 (34 * i + j) = μ 114 j) ∧ ν 129 (34 * i + 33) = μ 110 9 ∧ (∀ j, j < 34 * i ∨ 34 * i + 34 ≤ j → ν 129 j = μ 129 j) ∧ ν 130 i = 1 ∧ (∀ j, j ≠ i → ν 130 j = μ 130 j) ∧ ν 110 26 = 0 ∧ (∀ j, j ≠ 26 → ν 110 j = μ 110 j) ∧ ∀ k, k ≠ 129 → k ≠ 130 → k ≠ 110 → ν k = μ k)) := by
  intro t0
  induction t0 using Nat.strongRecOn with
  | ind t0 ih =>
    intro k hk hk33 ν hv ho hfr
    refine zA_iload_n dX9_keep_15 rfl ?_
    refine zA_bipush dX9_keep_16 rfl ?_
    refine zA_icmp_ge (tgt := 44) dX9_keep_18 rfl (fun h18 => ?_) (fun h18 => ?_)
    · refine zA_aload_n dX9_keep_44 rfl ?_
      refine zA_getR fX9_68 t_110 rfl dX9_keep_45 ?_
      refine zA_bipush dX9_keep_48 rfl ?_
      refine zA_iload_n dX9_keep_50 rfl ?_
      refine zA_imulB dX9_keep_51 ⟨by omega, by omega⟩ ?_
      refine zA_bipush dX9_keep_52 rfl ?_
      refine zA_iaddB dX9_keep_54 ⟨by omega, by omega⟩ ?_
      refine zA_aload_n dX9_keep_55 rfl ?_
      refine zA_getE (w := μ 110 9) fX9_210 t_110 dX9_keep_56 (by rw [hfr 110 (by decide)]) ?_
      refine zA_iasE (j := 34 * i + 33) t_129 (by omega) (by omega) dX9_keep_59 rfl ?_
      refine zA_aload_n dX9_keep_60 rfl ?_
      refine zA_getR fX9_71 t_110 rfl dX9_keep_61 ?_
      refine zA_iload_n dX9_keep_64 rfl ?_
      refine zA_iconst dX9_keep_65 rfl ?_
      refine zA_zast t_130 (by omega) (by omega) (Or.inr rfl) dX9_keep_66 ?_
      refine zA_aload_n dX9_keep_67 rfl ?_
      refine zA_iconst dX9_keep_68 rfl ?_
      refine zA_putI wX9_184 t_110 dX9_keep_69 ?_
      refine zA_iconst dX9_keep_72 rfl ?_
      refine zA_ri dX9_keep_73 ⟨rfl, fun j hj => ?_, ?_, fun j hj => ?_, ?_, fun j hj => ?_, ?_, fun j hj => ?_, fun k h1 h2 h3 => ?_⟩
      · rw [zup_k (by decide), zup_k (by decide), zup_n (fun q => by omega)]; exact hv j (by omega)
      · rw [zup_k (by decide), zup_k (by decide)]; exact zup_s
      · rw [zup_k (by decide), zup_k (by decide), zup_n (fun q => by omega)]; exact ho j hj
      · rw [zup_k (by decide)]; exact zup_s
      · rw [zup_k (by decide), Int.toNat_natCast, zup_n (fun q => hj q.2), zup_k (by decide), hfr 130 (by decide)]
      · rw [zup_s]
      · rw [zup_n (fun q => hj q.2), zup_k (by decide), zup_k (by decide), hfr 110 (by decide)]
      · rw [← hfr k h1]
        funext j
        rw [zup_k h3, zup_k h2, zup_k h1]
    · refine zA_aload_n dX9_keep_21 rfl ?_
      refine zA_getR fX9_68 t_110 rfl dX9_keep_22 ?_
      refine zA_bipush dX9_keep_25 rfl ?_
      refine zA_iload_n dX9_keep_27 rfl ?_
      refine zA_imulB dX9_keep_28 ⟨by omega, by omega⟩ ?_
      refine zA_iload_n dX9_keep_29 rfl ?_
      refine zA_iaddB dX9_keep_30 ⟨by omega, by omega⟩ ?_
      refine zA_aload_n dX9_keep_31 rfl ?_
      refine zA_getR fX9_19 t_110 rfl dX9_keep_32 ?_
      refine zA_iload_n dX9_keep_35 rfl ?_
      refine zA_ialE (w := μ 114 k) (j := k) t_114 (by omega) (by omega) dX9_keep_36 rfl (by rw [hfr 114 (by decide)]) ?_
      refine zA_iasE (j := 34 * i + k) t_129 (by omega) (by omega) dX9_keep_37 rfl ?_
      refine zA_iincB (ls' := [some (zR 110), some (zI (i : Int)), some (zI ((k : Int) + 1))]) dX9_keep_38 rfl rfl ⟨by omega, by omega⟩ rfl ?_
      refine zA_goto (tgt := 15) dX9_keep_41 rfl ?_
      refine ih _ (by omega) (k + 1) rfl (by omega) _ ?_ ?_ ?_
      · intro j hj
        by_cases e : j = k
        · subst e
          rw [zup_s]
        · rw [zup_n (fun q => e (by omega)), hv j (by omega)]
      · intro j hj
        rw [zup_n (fun q => by omega), ho j hj]
      · intro c hc
        rw [← hfr c hc]
        funext j
        rw [zup_k hc]
theorem c_X9_keepY (d i : Nat) (μ : zM) (hi : i < 2) : zMet (d + 2) 0 yX9_keep cX9_keep 3 (some .int) TF μ [zR 110, zI (i : Int)] (zPi (fun v ν => v = 1 ∧ (∀ j, j < 33 → ν 129 (34 * i + j) = μ 114 j) ∧ ν 129 (34 * i + 33) = μ 110 9 ∧ (∀ j, j < 34 * i ∨ 34 * i + 34 ≤ j → ν 129 j = μ 129 j) ∧ ν 130 i = 1 ∧ (∀ j, j ≠ i → ν 130 j = μ 130 j) ∧ ν 110 26 = 0 ∧ (∀ j, j ≠ 26 → ν 110 j = μ 110 j) ∧ ∀ k, k ≠ 129 → k ≠ 130 → k ≠ 110 → ν k = μ k)) := by
  refine zMi_of RX9 rfl (by decide) rfl (ls := [some (zR 110), some (zI (i : Int)), none]) rfl (fun hok => ?_)
  refine zA_iload_n dX9_keep_0 rfl ?_
  refine zA_i2l dX9_keep_1 ?_
  refine zA_lconst (v := 0) dX9_keep_2 rfl rfl ?_
  refine zA_lconst (v := 1) dX9_keep_3 rfl rfl ?_
  refine zA_cSb (st := []) kX9_81 (c_X9_in d (i : Int) 0 1 μ) rfl rfl rfl dX9_keep_4 (zfit0 (by omega) rfl) (fun v1 μ1 q1 => ?_)
  obtain ⟨b1, rfl⟩ := q1
  refine zA_ifb_ne (tgt := 13) dX9_keep_7 rfl (fun h7 => ?_) (fun h7 => False.elim (by have := b1.mpr (by omega); simp_all))
  refine zA_iconst dX9_keep_13 rfl ?_
  refine zA_istore_n (ls' := [some (zR 110), some (zI (i : Int)), some (zI 0)]) dX9_keep_14 rfl rfl ?_
  exact l_X9_keep d i μ hi _ 0 rfl (by omega) μ (fun j hj => by omega) (fun _ _ => rfl) (fun _ _ => rfl)
theorem l_X9_goBack (d i : Nat) (μ : zM) (hi : i < 2) : ∀ (t0 k : Nat), 33 - k = t0 → k ≤ 33 → ∀ ν : zM, (∀ j, j < k → ν 114 j = μ 129 (34 * i + j)) → (∀ c, c ≠ 114 → ν c = μ c) → zA RX9 cX9_goBack 3 (zRm (d + 2) 0) zN0 TF 0 ν 27 [some (zR 110), some (zI (i : Int)), some (zI (k : Int))] [] (zPi (fun v ν => v = 1 ∧ (∀ j, j < 33 → ν 114 j = μ 129 (34 * i + j)) ∧ ν 110 9 = μ 129 (34 * i + 33) ∧ ν 110 26 = 0 ∧ (∀ j, j ≠ 9 → j ≠ 26 → ν 110 j = μ 110 j) ∧ ∀ k, k ≠ 114 → k ≠ 110 → ν k = μ k)) := by
  intro t0
  induction t0 using Nat.strongRecOn with
  | ind t0 ih =>
    intro k hk hk33 ν hv hfr
    refine zA_iload_n dX9_goBack_27 rfl ?_
    refine zA_bipush dX9_goBack_28 rfl ?_
    refine zA_icmp_ge (tgt := 56) dX9_goBack_30 rfl (fun h30 => ?_) (fun h30 => ?_)
    · refine zA_aload_n dX9_goBack_56 rfl ?_
      refine zA_aload_n dX9_goBack_57 rfl ?_
      refine zA_getR fX9_68 t_110 rfl dX9_goBack_58 ?_
      refine zA_bipush dX9_goBack_61 rfl ?_
      refine zA_iload_n dX9_goBack_63 rfl ?_
      refine zA_imulB dX9_goBack_64 ⟨by omega, by omega⟩ ?_
      refine zA_bipush dX9_goBack_65 rfl ?_
      refine zA_iaddB dX9_goBack_67 ⟨by omega, by omega⟩ ?_
      refine zA_ialE (w := μ 129 (34 * i + 33)) (j := 34 * i + 33) t_129 (by omega) (by omega) dX9_goBack_68 rfl (by rw [hfr 129 (by decide)]) ?_
      refine zA_putI wX9_210 t_110 dX9_goBack_69 ?_
      refine zA_aload_n dX9_goBack_72 rfl ?_
      refine zA_iconst dX9_goBack_73 rfl ?_
      refine zA_putI wX9_184 t_110 dX9_goBack_74 ?_
      refine zA_iconst dX9_goBack_77 rfl ?_
      refine zA_ri dX9_goBack_78 ⟨rfl, fun j hj => ?_, ?_, ?_, fun j hj hj2 => ?_, fun k h1 h2 => ?_⟩
      · rw [zup_k (by decide), zup_k (by decide)]; exact hv j (by omega)
      · rw [zup_n (by decide), zup_s]
      · rw [zup_s]
      · rw [zup_n (fun q => hj2 q.2), zup_n (fun q => hj q.2), hfr 110 (by decide)]
      · rw [← hfr k h1]
        funext j
        rw [zup_k h2, zup_k h2]
    · refine zA_aload_n dX9_goBack_33 rfl ?_
      refine zA_getR fX9_19 t_110 rfl dX9_goBack_34 ?_
      refine zA_iload_n dX9_goBack_37 rfl ?_
      refine zA_aload_n dX9_goBack_38 rfl ?_
      refine zA_getR fX9_68 t_110 rfl dX9_goBack_39 ?_
      refine zA_bipush dX9_goBack_42 rfl ?_
      refine zA_iload_n dX9_goBack_44 rfl ?_
      refine zA_imulB dX9_goBack_45 ⟨by omega, by omega⟩ ?_
      refine zA_iload_n dX9_goBack_46 rfl ?_
      refine zA_iaddB dX9_goBack_47 ⟨by omega, by omega⟩ ?_
      refine zA_ialE (w := μ 129 (34 * i + k)) (j := 34 * i + k) t_129 (by omega) (by omega) dX9_goBack_48 rfl (by rw [hfr 129 (by decide)]) ?_
      refine zA_iasE (j := k) t_114 (by omega) (by omega) dX9_goBack_49 rfl ?_
      refine zA_iincB (ls' := [some (zR 110), some (zI (i : Int)), some (zI ((k : Int) + 1))]) dX9_goBack_50 rfl rfl ⟨by omega, by omega⟩ rfl ?_
      refine zA_goto (tgt := 27) dX9_goBack_53 rfl ?_
      refine ih _ (by omega) (k + 1) rfl (by omega) _ ?_ ?_
      · intro j hj
        by_cases e : j = k
        · subst e
          rw [zup_s]
        · rw [zup_n (fun q => e q.2), hv j (by omega)]
      · intro c hc
        rw [← hfr c hc]
        funext j
        rw [zup_k hc]
theorem c_X9_goBackY (d i : Nat) (μ : zM) (hi : i < 2) (hk : μ 130 i = 1) : zMet (d + 2) 0 yX9_goBack cX9_goBack 3 (some .int) TF μ [zR 110, zI (i : Int)] (zPi (fun v ν => v = 1 ∧ (∀ j, j < 33 → ν 114 j = μ 129 (34 * i + j)) ∧ ν 110 9 = μ 129 (34 * i + 33) ∧ ν 110 26 = 0 ∧ (∀ j, j ≠ 9 → j ≠ 26 → ν 110 j = μ 110 j) ∧ ∀ k, k ≠ 114 → k ≠ 110 → ν k = μ k)) := by
  refine zMi_of RX9 rfl (by decide) rfl (ls := [some (zR 110), some (zI (i : Int)), none]) rfl (fun hok => ?_)
  refine zA_iload_n dX9_goBack_0 rfl ?_
  refine zA_i2l dX9_goBack_1 ?_
  refine zA_lconst (v := 0) dX9_goBack_2 rfl rfl ?_
  refine zA_lconst (v := 1) dX9_goBack_3 rfl rfl ?_
  refine zA_cSb (st := []) kX9_81 (c_X9_in d (i : Int) 0 1 μ) rfl rfl rfl dX9_goBack_4 (zfit0 (by omega) rfl) (fun v1 μ1 q1 => ?_)
  obtain ⟨b1, rfl⟩ := q1
  refine zA_ifb_ne (tgt := 13) dX9_goBack_7 rfl (fun h7 => ?_) (fun h7 => False.elim (by have := b1.mpr (by omega); simp_all))
  refine zA_aload_n dX9_goBack_13 rfl ?_
  refine zA_getR fX9_71 t_110 rfl dX9_goBack_14 ?_
  refine zA_iload_n dX9_goBack_17 rfl ?_
  refine zA_zald t_130 (by omega) (by omega) dX9_goBack_18 ?_
  refine zA_if_ne (tgt := 25) dX9_goBack_19 rfl (fun h19 => ?_) (fun h19 => False.elim (by rw [Int.toNat_natCast] at h19; omega))
  refine zA_iconst dX9_goBack_25 rfl ?_
  refine zA_istore_n (ls' := [some (zR 110), some (zI (i : Int)), some (zI 0)]) dX9_goBack_26 rfl rfl ?_
  exact l_X9_goBack d i μ hi _ 0 rfl (by omega) μ (fun j hj => by omega) (fun _ _ => rfl)
theorem c_X9_goBackM (d i : Nat) (μ : zM) (hi : i < 2) (hk : μ 130 i = 0) : zMet (d + 2) 0 yX9_goBack cX9_goBack 3 (some .int) TF μ [zR 110, zI (i : Int)] (zPi (fun v ν => v = -1000000003 ∧ μ = ν)) := by
  refine zMi_of RX9 rfl (by decide) rfl (ls := [some (zR 110), some (zI (i : Int)), none]) rfl (fun hok => ?_)
  refine zA_iload_n dX9_goBack_0 rfl ?_
  refine zA_i2l dX9_goBack_1 ?_
  refine zA_lconst (v := 0) dX9_goBack_2 rfl rfl ?_
  refine zA_lconst (v := 1) dX9_goBack_3 rfl rfl ?_
  refine zA_cSb (st := []) kX9_81 (c_X9_in d (i : Int) 0 1 μ) rfl rfl rfl dX9_goBack_4 (zfit0 (by omega) rfl) (fun v1 μ1 q1 => ?_)
  obtain ⟨b1, rfl⟩ := q1
  refine zA_ifb_ne (tgt := 13) dX9_goBack_7 rfl (fun h7 => ?_) (fun h7 => False.elim (by have := b1.mpr (by omega); simp_all))
  refine zA_aload_n dX9_goBack_13 rfl ?_
  refine zA_getR fX9_71 t_110 rfl dX9_goBack_14 ?_
  refine zA_iload_n dX9_goBack_17 rfl ?_
  refine zA_zald t_130 (by omega) (by omega) dX9_goBack_18 ?_
  refine zA_if_ne (tgt := 25) dX9_goBack_19 rfl (fun h19 => False.elim (h19 hk)) fun h19 => ?_
  refine zA_ldc cX9_205 dX9_goBack_22 rfl ?_
  exact zA_ri dX9_goBack_24 ⟨rfl, rfl⟩
theorem pr_keep (μ : zM) (i : Int) (n m t : Nat) (u : Int) (hI : zInv μ n m t u) : zPair yX8_keep cX8_keep 2 yX9_keep cX9_keep 3 [zI i] μ := by
  by_cases hb : 0 ≤ i ∧ i ≤ 1
  · obtain ⟨i, rfl⟩ := Int.eq_ofNat_of_zero_le hb.1
    have hi : i < 2 := by omega
    refine zMi_mono (c_X8_keepY 17 i μ hi) (fun v ν hv => zMi_mono (c_X9_keepY 18 i ν hi) (fun w ξ hw => ?_))
    obtain ⟨rfl, r1, r2, r3, r4, r5, r6, r7, r8, r9, r10, r11⟩ := hv
    obtain ⟨rfl, s1, s2, s3, s4, s5, s6, s7, s8⟩ := hw
    have hn5 := hI.1.1.2.2.2.2.1
    have hm6 := hI.1.1.2.2.2.2.2.1
    have k : ∀ k, k ≠ 106 + 2 * i → k ≠ 106 + 2 * i + 1 → k ≠ 103 → k ≠ 0 → k ≠ 54 → k ≠ 129 → k ≠ 130 → k ≠ 110 → ξ k = μ k := fun k h1 h2 h3 h4 h5 h6 h7 h8 => by rw [s8 k h6 h7 h8, r11 k h1 h2 h3 h4 h5]
    have e0 : ξ 0 = ν 0 := s8 0 (by decide) (by decide) (by decide)
    have e54 : ξ 54 = ν 54 := s8 54 (by decide) (by decide) (by decide)
    have e103 : ξ 103 = ν 103 := s8 103 (by decide) (by decide) (by decide)
    have e110 : ν 110 = μ 110 := r11 110 (by omega) (by omega) (by omega) (by omega) (by omega)
    have e114 : ν 114 = μ 114 := r11 114 (by omega) (by omega) (by omega) (by omega) (by omega)
    have e129 : ν 129 = μ 129 := r11 129 (by omega) (by omega) (by omega) (by omega) (by omega)
    have e130 : ν 130 = μ 130 := r11 130 (by omega) (by omega) (by omega) (by omega) (by omega)
    have hnow := hI.2.1
    have hmisc := hI.2.2.2.1
    obtain ⟨⟨K, hK4, hK⟩, hj⟩ := hI.2.2.2.2.2.2.1
    obtain ⟨z, x, a1, a2, a3, a4, a5, a6⟩ := hI.2.2.2.2.2.2.2
    rw [e114] at s1
    rw [e110] at s2
    have hKn : ξ 0 13 = (((K ||| 2 ^ i : Nat)) : Int) := by rw [e0, r7, hK, zshl_1 i (by omega), zor_nat (by omega) (Nat.pow_lt_pow_right (by decide) (by omega))]
    have h2i : 2 ^ i < 2 ^ 2 := Nat.pow_lt_pow_right (by decide) hi
    refine ⟨rfl, n, m, t, u, zInv_gen hI (fun k0 hk0 => k k0 (by omega) (by omega) (by omega) (by omega) (by omega) (by omega) (by omega) (by omega)) (by rw [e0, r8 15 (by decide)]) (fun j _ h => by rw [s7 j h, e110]) (by rw [e0, r8 14 (by decide), s7 9 (by decide), e110]; exact hmisc.2.1) (by rw [e0, r8 14 (by decide)]; exact hmisc.2.2) (hnow.keep (k _ (by omega) (by omega) (by omega) (by omega) (by omega) (by omega) (by omega) (by omega)) (k _ (by omega) (by omega) (by omega) (by omega) (by omega) (by omega) (by omega) (by omega)) (k _ (by omega) (by omega) (by omega) (by omega) (by omega) (by omega) (by omega) (by omega))) ⟨⟨K ||| 2 ^ i, Nat.or_lt_two_pow (n := 2) hK4 h2i, hKn⟩, fun j hj2 => ?_⟩ (iHis0 a2 (by rw [e54, r9]) s6 (by rw [e54, r10]; exact a5))⟩
    by_cases e : j = i
    · subst e
      refine ⟨Or.inr s4, ⟨fun _ => s4, fun _ => ?_⟩, fun _ => ⟨?_, ?_, ?_⟩⟩
      · rw [hKn, zbit_test (by have := Nat.or_lt_two_pow (n := 2) hK4 h2i; omega) (by omega), Nat.testBit_or, Nat.testBit_two_pow_self, Bool.or_true]
      · obtain ⟨b1, b2, b3, b4, b5⟩ := hnow
        simp only [Nat.zero_add] at b1 b3 b4 b5
        have f1 : ξ (106 + 2 * j + 1) = ν (106 + 2 * j + 1) := s8 _ (by omega) (by omega) (by omega)
        have f2 : ξ (106 + 2 * j) = ν (106 + 2 * j) := s8 _ (by omega) (by omega) (by omega)
        refine ⟨fun i hi => by rw [f1, r1 i (by omega), s1 i (by omega)]; exact b1 i hi, by rw [f1]; exact rOk_congr hn5 hm6 (fun i hi => (r1 i hi).symm) b2, by rw [f2, r2, s1 30 (by decide)]; exact b3, by rw [f2, r3, s1 31 (by decide)]; exact b4, by rw [f2, r4, s1 32 (by decide)]; exact b5⟩
      · rw [e103, r5, s2]; exact hmisc.2.1
      · rw [e103, r5]; exact hmisc.2.2
    · obtain ⟨c1, c2, c3⟩ := hj j hj2
      have f3 : ξ 130 j = μ 130 j := by rw [s5 j e, e130]
      have f1 : ξ (106 + 2 * j + 1) = μ (106 + 2 * j + 1) := k _ (by omega) (by omega) (by omega) (by omega) (by omega) (by omega) (by omega) (by omega)
      have f2 : ξ (106 + 2 * j) = μ (106 + 2 * j) := k _ (by omega) (by omega) (by omega) (by omega) (by omega) (by omega) (by omega) (by omega)
      rw [f3]
      refine ⟨c1, ?_, fun q => ?_⟩
      · rw [← c2, hK, hKn, zbit_test (by have := Nat.or_lt_two_pow (n := 2) hK4 h2i; omega) (by omega), zbit_test (by omega) (by omega), Nat.testBit_or, Nat.testBit_two_pow_of_ne (Ne.symm e), Bool.or_false]
      · obtain ⟨⟨b1, b2, b3, b4, b5⟩, b6, b7⟩ := c3 q
        have f4 : ∀ p, p < 34 → ξ 129 (34 * j + p) = μ 129 (34 * j + p) := fun p hp => by rw [s3 _ (by omega), e129]
        refine ⟨⟨fun p hp => by rw [f1, f4 p (by omega)]; exact b1 p hp, by rw [f1]; exact b2, by rw [f2, f4 30 (by decide)]; exact b3, by rw [f2, f4 31 (by decide)]; exact b4, by rw [f2, f4 32 (by decide)]; exact b5⟩, by rw [e103, r6 j e, f4 33 (by decide)]; exact b6, by rw [e103, r6 j e]; exact b7⟩
  · refine zPair_q hI (-1000000001) (zMi_mono (c_X8_keepN 18 i μ hb) ?_) (fun ν hq hν => zMi_mono (c_X9_keepN 18 i ν hb) ?_)
    · rintro v ν ⟨rfl, rfl⟩
      exact ⟨rfl, qC.refl _⟩
    · rintro v ξ ⟨rfl, rfl⟩
      exact ⟨rfl, qM.refl _⟩
theorem pr_goBack (μ : zM) (i : Int) (n m t : Nat) (u : Int) (hI : zInv μ n m t u) : zPair yX8_goBack cX8_goBack 2 yX9_goBack cX9_goBack 3 [zI i] μ := by
  by_cases hb : 0 ≤ i ∧ i ≤ 1
  · obtain ⟨i, rfl⟩ := Int.eq_ofNat_of_zero_le hb.1
    have hi : i < 2 := by omega
    obtain ⟨⟨K, hK4, hK⟩, hj⟩ := hI.2.2.2.2.2.2.1
    obtain ⟨c1, c2, c3⟩ := hj i hi
    by_cases hk : μ 130 i = 1
    · obtain ⟨⟨b1, b2, b3, b4, b5⟩, b6, b7⟩ := c3 hk
      refine zMi_mono (c_X8_goBackY 17 i μ hi (c2.mpr hk)) (fun v ν hv => ?_)
      obtain ⟨rfl, r1, r2, r3, r4, r5, r6, r7, r8, r9⟩ := hv
      refine zMi_mono (c_X9_goBackY 18 i ν hi (by rw [r9 130 (by decide) (by decide) (by decide) (by decide)]; exact hk)) (fun w ξ hw => ?_)
      obtain ⟨rfl, s1, s2, s3, s4, s5⟩ := hw
      have hn5 := hI.1.1.2.2.2.2.1
      have hm6 := hI.1.1.2.2.2.2.2.1
      have k : ∀ k, k ≠ 52 → k ≠ 53 → k ≠ 0 → k ≠ 54 → k ≠ 114 → k ≠ 110 → ξ k = μ k := fun k h1 h2 h3 h4 h5 h6 => by rw [s5 k h5 h6, r9 k h1 h2 h3 h4]
      have e0 : ξ 0 = ν 0 := s5 0 (by decide) (by decide)
      have e52 : ξ 52 = ν 52 := s5 52 (by decide) (by decide)
      have e53 : ξ 53 = ν 53 := s5 53 (by decide) (by decide)
      have e54 : ξ 54 = ν 54 := s5 54 (by decide) (by decide)
      have e110 : ν 110 = μ 110 := r9 110 (by decide) (by decide) (by decide) (by decide)
      have e129 : ν 129 = μ 129 := r9 129 (by decide) (by decide) (by decide) (by decide)
      rw [e129] at s1 s2
      obtain ⟨z, x, a1, a2, a3, a4, a5, a6⟩ := hI.2.2.2.2.2.2.2
      refine ⟨rfl, n, m, t, u, zInv_gen hI (fun k0 hk0 => k k0 (by omega) (by omega) (by omega) (by omega) (by omega) (by omega)) (by rw [e0, r6 15 (by decide)]) (fun j h9 h => by rw [s4 j h9 h, e110]) (by rw [e0, r5, s2]; exact b6) (by rw [e0, r5]; exact b7) ⟨fun p hp => ?_, ?_, ?_, ?_, ?_⟩ (hI.2.2.2.2.2.2.1.keep (by rw [e0, r6 13 (by decide)]) (k _ (by omega) (by omega) (by omega) (by omega) (by omega) (by omega)) (k _ (by omega) (by omega) (by omega) (by omega) (by omega) (by omega)) (k _ (by omega) (by omega) (by omega) (by omega) (by omega) (by omega)) (fun k0 h1 h2 => k _ (by omega) (by omega) (by omega) (by omega) (by omega) (by omega))) (iHis0 a2 (by rw [e54, r7]) s3 (by rw [e54, r8]; exact a5))⟩
      · rw [Nat.zero_add, e53, r1 p (by omega), s1 p (by omega)]; exact b1 p hp
      · show rOk n m (ξ 53)
        rw [e53]; exact rOk_congr hn5 hm6 (fun i hi => (r1 i hi).symm) b2
      · rw [e52, r2, s1 (0 + 30) (by decide)]; exact b3
      · rw [e52, r3, s1 (0 + 31) (by decide)]; exact b4
      · rw [e52, r4, s1 (0 + 32) (by decide)]; exact b5
    · refine zPair_q hI (-1000000003) (zMi_mono (c_X8_goBackM 17 i μ hi (fun q => hk (c2.mp q))) ?_) (fun ν hq hν => zMi_mono (c_X9_goBackM 18 i ν hi (by rw [hq 130 (by unfold cScr; omega)]; omega)) ?_)
      · rintro v ν ⟨rfl, rfl⟩
        exact ⟨rfl, qC.refl _⟩
      · rintro v ξ ⟨rfl, rfl⟩
        exact ⟨rfl, qM.refl _⟩
  · refine zPair_q hI (-1000000001) (zMi_mono (c_X8_goBackN 18 i μ hb) ?_) (fun ν hq hν => zMi_mono (c_X9_goBackN 18 i ν hb) ?_)
    · rintro v ν ⟨rfl, rfl⟩
      exact ⟨rfl, qC.refl _⟩
    · rintro v ξ ⟨rfl, rfl⟩
      exact ⟨rfl, qM.refl _⟩
