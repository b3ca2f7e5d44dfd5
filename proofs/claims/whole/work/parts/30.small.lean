/-! ===== small methods ===== -/
/-- is k in the set s: 0 or 1 -/
def zbit (s k : Int) : Int := zand (zshr s k) 1
theorem zand_1 (a : Int) : zand a 1 = 0 ∨ zand a 1 = 1 := by
  unfold zand
  have h := pk_and (Int32.ofInt a) (m := Int32.ofInt 1) 1 (by decide)
  rw [h]
  have h2 : (Int32.ofInt a).toBitVec.toNat % 2 ^ 1 = 0 ∨ (Int32.ofInt a).toBitVec.toNat % 2 ^ 1 = 1 := by omega
  rcases h2 with h2 | h2 <;> rw [h2]
  · exact Or.inl rfl
  · exact Or.inr rfl
theorem zbit_01 (s k : Int) : zbit s k = 0 ∨ zbit s k = 1 := zand_1 _
theorem c_X8_cell (d : Nat) (a c : Int) (μ : zM) (ha : 0 ≤ a ∧ a ≤ 1000) (hc : 0 ≤ c ∧ c ≤ 1000) : zMet (d + 1) 0 yX8_cell cX8_cell 2 (some .int) TF μ [zI a, zI c] (zPi (fun v μ' => a * 5 + c = v ∧ μ = μ')) := by
  refine zMi_of RX8 rfl (by decide) rfl (ls := [some (zI a), some (zI c)]) rfl (fun hok => ?_)
  refine zA_iload_n dX8_cell_0 rfl ?_
  refine zA_iconst dX8_cell_1 rfl ?_
  refine zA_imulB dX8_cell_2 ⟨by omega, by omega⟩ ?_
  refine zA_iload_n dX8_cell_3 rfl ?_
  refine zA_iaddB dX8_cell_4 ⟨by omega, by omega⟩ ?_
  exact zA_ri dX8_cell_5 ⟨rfl, rfl⟩
theorem c_X8_isIn (d : Nat) (s k : Int) (μ : zM)  : zMet (d + 1) 0 yX8_isIn cX8_isIn 2 (some .boolean) TF μ [zI s, zI k] (zPb (fun b μ' => (b = true ↔ zbit s k = 1) ∧ μ = μ')) := by
  refine zMb_of RX8 rfl (by decide) rfl (ls := [some (zI s), some (zI k)]) rfl (fun hok => ?_)
  have h01 := zbit_01 s k
  unfold zbit at h01 ⊢
  refine zA_iload_n dX8_isIn_0 rfl ?_
  refine zA_iload_n dX8_isIn_1 rfl ?_
  refine zA_ishr dX8_isIn_2 ?_
  refine zA_iconst dX8_isIn_3 rfl ?_
  refine zA_iand dX8_isIn_4 ?_
  refine zA_if_eq (tgt := 12) dX8_isIn_5 rfl (fun h5 => ?_) (fun h5 => ?_)
  · refine zA_iconst dX8_isIn_12 rfl ?_
    exact zA_rb (b := false) dX8_isIn_13 rfl ⟨by first | (simp; omega) | omega, rfl⟩
  · refine zA_iconst dX8_isIn_8 rfl ?_
    refine zA_goto (tgt := 13) dX8_isIn_9 rfl ?_
    exact zA_rb (b := true) dX8_isIn_13 rfl ⟨by first | (simp; omega) | omega, rfl⟩
theorem c_X8_isAmount (d : Nat) (v : Int) (μ : zM)  : zMet (d + 1) 0 yX8_isAmount cX8_isAmount 1 (some .boolean) TF μ [zI v] (zPb (fun b μ' => (b = true ↔ (0 ≤ v ∧ v ≤ 60)) ∧ μ = μ')) := by
  refine zMb_of RX8 rfl (by decide) rfl (ls := [some (zI v)]) rfl (fun hok => ?_)
  refine zA_iload_n dX8_isAmount_0 rfl ?_
  refine zA_if_lt (tgt := 14) dX8_isAmount_1 rfl (fun h1 => ?_) (fun h1 => ?_)
  · refine zA_iconst dX8_isAmount_14 rfl ?_
    exact zA_rb (b := false) dX8_isAmount_15 rfl ⟨by simp; omega, rfl⟩
  · refine zA_iload_n dX8_isAmount_4 rfl ?_
    refine zA_bipush dX8_isAmount_5 rfl ?_
    refine zA_icmp_gt (tgt := 14) dX8_isAmount_7 rfl (fun h7 => ?_) (fun h7 => ?_)
    · refine zA_iconst dX8_isAmount_14 rfl ?_
      exact zA_rb (b := false) dX8_isAmount_15 rfl ⟨by simp; omega, rfl⟩
    · refine zA_iconst dX8_isAmount_10 rfl ?_
      refine zA_goto (tgt := 15) dX8_isAmount_11 rfl ?_
      exact zA_rb (b := true) dX8_isAmount_15 rfl ⟨by simp; omega, rfl⟩
theorem c_X8_copyParts (d : Nat) (a b : Nat) (μ : zM) (ha : znth TF a = some (10, 30, [])) (hb : znth TF b = some (10, 30, [])) : zMet (d + 1) 0 yX8_copyParts cX8_copyParts 2 none TF μ [zR a, zR b] (zPv (fun μ' => zcp μ a 0 b 0 30 = μ')) := by
  refine zMv_of RX8 rfl (by decide) rfl (ls := [some (zR a), some (zR b)]) rfl (fun hok => ?_)
  refine zA_aload_n dX8_copyParts_0 rfl ?_
  refine zA_iconst dX8_copyParts_1 rfl ?_
  refine zA_aload_n dX8_copyParts_2 rfl ?_
  refine zA_iconst dX8_copyParts_3 rfl ?_
  refine zA_bipush dX8_copyParts_4 rfl ?_
  refine zA_copy TF_len kX8_282 kac_nat kac_st kac_in ha hb (by omega) (by omega) (by omega) (by omega) (by omega) dX8_copyParts_6 (by show 1 ≤ d + 1; omega) (by show _ ≤ 100 * (d + 1); simp only [zcat]; exact Nat.le_trans (by decide : _ ≤ 100) (by omega)) ?_
  exact zA_rv dX8_copyParts_9 rfl
theorem c_X2_hasCoat (d : Nat) (a : Int) (μ : zM)  : zMet (d + 1) 0 yX2_hasCoat cX2_hasCoat 2 (some .boolean) TF μ [zR 1, zI a] (zPb (fun b μ' => (b = true ↔ (0 ≤ a ∧ a < μ 1 8)) ∧ μ = μ')) := by
  refine zMb_of RX2 rfl (by decide) rfl (ls := [some (zR 1), some (zI a)]) rfl (fun hok => ?_)
  refine zA_iload_n dX2_hasCoat_0 rfl ?_
  refine zA_if_lt (tgt := 16) dX2_hasCoat_1 rfl (fun h1 => ?_) (fun h1 => ?_)
  · refine zA_iconst dX2_hasCoat_16 rfl ?_
    exact zA_rb (b := false) dX2_hasCoat_17 rfl ⟨by simp; omega, rfl⟩
  · refine zA_iload_n dX2_hasCoat_4 rfl ?_
    refine zA_aload_n dX2_hasCoat_5 rfl ?_
    refine zA_getI fX2_37 t_1 dX2_hasCoat_6 ?_
    refine zA_icmp_ge (tgt := 16) dX2_hasCoat_9 rfl (fun h9 => ?_) (fun h9 => ?_)
    · refine zA_iconst dX2_hasCoat_16 rfl ?_
      exact zA_rb (b := false) dX2_hasCoat_17 rfl ⟨by simp; omega, rfl⟩
    · refine zA_iconst dX2_hasCoat_12 rfl ?_
      refine zA_goto (tgt := 17) dX2_hasCoat_13 rfl ?_
      exact zA_rb (b := true) dX2_hasCoat_17 rfl ⟨by simp; omega, rfl⟩
theorem c_X2_hasColour (d : Nat) (a : Int) (μ : zM)  : zMet (d + 1) 0 yX2_hasColour cX2_hasColour 2 (some .boolean) TF μ [zR 1, zI a] (zPb (fun b μ' => (b = true ↔ (0 ≤ a ∧ a < μ 1 6)) ∧ μ = μ')) := by
  refine zMb_of RX2 rfl (by decide) rfl (ls := [some (zR 1), some (zI a)]) rfl (fun hok => ?_)
  refine zA_iload_n dX2_hasColour_0 rfl ?_
  refine zA_if_lt (tgt := 16) dX2_hasColour_1 rfl (fun h1 => ?_) (fun h1 => ?_)
  · refine zA_iconst dX2_hasColour_16 rfl ?_
    exact zA_rb (b := false) dX2_hasColour_17 rfl ⟨by simp; omega, rfl⟩
  · refine zA_iload_n dX2_hasColour_4 rfl ?_
    refine zA_aload_n dX2_hasColour_5 rfl ?_
    refine zA_getI fX2_30 t_1 dX2_hasColour_6 ?_
    refine zA_icmp_ge (tgt := 16) dX2_hasColour_9 rfl (fun h9 => ?_) (fun h9 => ?_)
    · refine zA_iconst dX2_hasColour_16 rfl ?_
      exact zA_rb (b := false) dX2_hasColour_17 rfl ⟨by simp; omega, rfl⟩
    · refine zA_iconst dX2_hasColour_12 rfl ?_
      refine zA_goto (tgt := 17) dX2_hasColour_13 rfl ?_
      exact zA_rb (b := true) dX2_hasColour_17 rfl ⟨by simp; omega, rfl⟩
theorem c_X2_hasCell (d : Nat) (a c : Int) (μ : zM)  : zMet (d + 2) 0 yX2_hasCell cX2_hasCell 3 (some .boolean) TF μ [zR 1, zI a, zI c] (zPb (fun b μ' => (b = true ↔ ((0 ≤ a ∧ a < μ 1 8) ∧ (0 ≤ c ∧ c < μ 1 6))) ∧ μ = μ')) := by
  refine zMb_of RX2 rfl (by decide) rfl (ls := [some (zR 1), some (zI a), some (zI c)]) rfl (fun hok => ?_)
  refine zA_aload_n dX2_hasCell_0 rfl ?_
  refine zA_iload_n dX2_hasCell_1 rfl ?_
  refine zA_cVb (st := []) kX2_59 t_1 rfl rfl (c_X2_hasCoat d (a) μ) rfl rfl rfl dX2_hasCell_2 (zfit0 (by omega) rfl) (fun v1 μ1 q1 => ?_)
  obtain ⟨b1, rfl⟩ := q1
  refine zA_ifb_eq (tgt := 20) dX2_hasCell_5 rfl (fun h5 => ?_) (fun h5 => ?_)
  · refine zA_iconst dX2_hasCell_20 rfl ?_
    exact zA_rb (b := false) dX2_hasCell_21 rfl ⟨by simp_all <;> omega, rfl⟩
  · refine zA_aload_n dX2_hasCell_8 rfl ?_
    refine zA_iload_n dX2_hasCell_9 rfl ?_
    refine zA_cVb (st := []) kX2_63 t_1 rfl rfl (c_X2_hasColour d (c) μ) rfl rfl rfl dX2_hasCell_10 (zfit0 (by omega) rfl) (fun v2 μ2 q2 => ?_)
    obtain ⟨b2, rfl⟩ := q2
    refine zA_ifb_eq (tgt := 20) dX2_hasCell_13 rfl (fun h13 => ?_) (fun h13 => ?_)
    · refine zA_iconst dX2_hasCell_20 rfl ?_
      exact zA_rb (b := false) dX2_hasCell_21 rfl ⟨by simp_all <;> omega, rfl⟩
    · refine zA_iconst dX2_hasCell_16 rfl ?_
      refine zA_goto (tgt := 21) dX2_hasCell_17 rfl ?_
      exact zA_rb (b := true) dX2_hasCell_21 rfl ⟨by simp_all <;> omega, rfl⟩
theorem c_X2_hasPair (d : Nat) (a b : Int) (μ : zM)  : zMet (d + 2) 0 yX2_hasPair cX2_hasPair 3 (some .boolean) TF μ [zR 1, zI a, zI b] (zPb (fun r μ' => (r = true ↔ ((0 ≤ a ∧ a < μ 1 8) ∧ (0 ≤ b ∧ b < μ 1 8) ∧ a ≠ b)) ∧ μ = μ')) := by
  refine zMb_of RX2 rfl (by decide) rfl (ls := [some (zR 1), some (zI a), some (zI b)]) rfl (fun hok => ?_)
  refine zA_aload_n dX2_hasPair_0 rfl ?_
  refine zA_iload_n dX2_hasPair_1 rfl ?_
  refine zA_cVb (st := []) kX2_59 t_1 rfl rfl (c_X2_hasCoat d (a) μ) rfl rfl rfl dX2_hasPair_2 (zfit0 (by omega) rfl) (fun v1 μ1 q1 => ?_)
  obtain ⟨b1, rfl⟩ := q1
  refine zA_ifb_eq (tgt := 25) dX2_hasPair_5 rfl (fun h5 => ?_) (fun h5 => ?_)
  · refine zA_iconst dX2_hasPair_25 rfl ?_
    exact zA_rb (b := false) dX2_hasPair_26 rfl ⟨by simp_all <;> omega, rfl⟩
  · refine zA_aload_n dX2_hasPair_8 rfl ?_
    refine zA_iload_n dX2_hasPair_9 rfl ?_
    refine zA_cVb (st := []) kX2_59 t_1 rfl rfl (c_X2_hasCoat d (b) μ) rfl rfl rfl dX2_hasPair_10 (zfit0 (by omega) rfl) (fun v2 μ2 q2 => ?_)
    obtain ⟨b2, rfl⟩ := q2
    refine zA_ifb_eq (tgt := 25) dX2_hasPair_13 rfl (fun h13 => ?_) (fun h13 => ?_)
    · refine zA_iconst dX2_hasPair_25 rfl ?_
      exact zA_rb (b := false) dX2_hasPair_26 rfl ⟨by simp_all <;> omega, rfl⟩
    · refine zA_iload_n dX2_hasPair_16 rfl ?_
      refine zA_iload_n dX2_hasPair_17 rfl ?_
      refine zA_icmp_eq (tgt := 25) dX2_hasPair_18 rfl (fun h18 => ?_) (fun h18 => ?_)
      · refine zA_iconst dX2_hasPair_25 rfl ?_
        exact zA_rb (b := false) dX2_hasPair_26 rfl ⟨by simp_all <;> omega, rfl⟩
      · refine zA_iconst dX2_hasPair_21 rfl ?_
        refine zA_goto (tgt := 26) dX2_hasPair_22 rfl ?_
        exact zA_rb (b := true) dX2_hasPair_26 rfl ⟨by simp_all <;> omega, rfl⟩
theorem zcmp_lt {a b : Int} : zcmp a b < 0 ↔ a < b := by
  unfold zcmp
  by_cases h1 : b < a
  · simp [h1]; omega
  · by_cases h2 : a = b
    · simp [h2]
    · simp [h1, h2]; omega
theorem zcmp_gt {a b : Int} : 0 < zcmp a b ↔ b < a := by
  unfold zcmp
  by_cases h1 : b < a
  · simp [h1]
  · by_cases h2 : a = b
    · simp [h2]
    · simp [h1, h2]
theorem c_X9_in (d : Nat) (v p q : Int) (μ : zM)  : zMet (d + 1) 0 yX9_in cX9_in 6 (some .boolean) TF μ [zL v, zL p, zL q] (zPb (fun b μ' => (b = true ↔ (p ≤ v ∧ v ≤ q)) ∧ μ = μ')) := by
  refine zMb_of RX9 rfl (by decide) rfl (ls := [some (zL v), none, some (zL p), none, some (zL q), none]) rfl (fun hok => ?_)
  have e1 := @zcmp_lt v p
  have e2 := @zcmp_gt v q
  refine zA_lload_n dX9_in_0 rfl ?_
  refine zA_lload_n dX9_in_1 rfl ?_
  refine zA_lcmp dX9_in_2 ?_
  refine zA_if_lt (tgt := 17) dX9_in_3 rfl (fun h3 => ?_) (fun h3 => ?_)
  · refine zA_iconst dX9_in_17 rfl ?_
    exact zA_rb (b := false) dX9_in_18 rfl ⟨by simp; omega, rfl⟩
  · refine zA_lload_n dX9_in_6 rfl ?_
    refine zA_lload dX9_in_7 rfl ?_
    refine zA_lcmp dX9_in_9 ?_
    refine zA_if_gt (tgt := 17) dX9_in_10 rfl (fun h10 => ?_) (fun h10 => ?_)
    · refine zA_iconst dX9_in_17 rfl ?_
      exact zA_rb (b := false) dX9_in_18 rfl ⟨by simp; omega, rfl⟩
    · refine zA_iconst dX9_in_13 rfl ?_
      refine zA_goto (tgt := 18) dX9_in_14 rfl ?_
      exact zA_rb (b := true) dX9_in_18 rfl ⟨by simp; omega, rfl⟩
theorem c_X9_has (d : Nat) (s k : Int) (μ : zM)  : zMet (d + 1) 0 yX9_has cX9_has 2 (some .boolean) TF μ [zI s, zI k] (zPb (fun b μ' => (b = true ↔ zbit s k = 1) ∧ μ = μ')) := by
  refine zMb_of RX9 rfl (by decide) rfl (ls := [some (zI s), some (zI k)]) rfl (fun hok => ?_)
  unfold zbit
  refine zA_iload_n dX9_has_0 rfl ?_
  refine zA_iload_n dX9_has_1 rfl ?_
  refine zA_ishr dX9_has_2 ?_
  refine zA_iconst dX9_has_3 rfl ?_
  refine zA_iand dX9_has_4 ?_
  refine zA_iconst dX9_has_5 rfl ?_
  refine zA_icmp_ne (tgt := 13) dX9_has_6 rfl (fun h6 => ?_) (fun h6 => ?_)
  · refine zA_iconst dX9_has_13 rfl ?_
    exact zA_rb (b := false) dX9_has_14 rfl ⟨by simp_all <;> omega, rfl⟩
  · refine zA_iconst dX9_has_9 rfl ?_
    refine zA_goto (tgt := 14) dX9_has_10 rfl ?_
    exact zA_rb (b := true) dX9_has_14 rfl ⟨by simp_all <;> omega, rfl⟩
theorem c_X9_isCoat (d : Nat) (a : Int) (μ : zM) (hr : 0 ≤ μ 110 2) : zMet (d + 2) 0 yX9_isCoat cX9_isCoat 2 (some .boolean) TF μ [zR 110, zI a] (zPb (fun b μ' => (b = true ↔ (0 ≤ a ∧ a < μ 110 2)) ∧ μ = μ')) := by
  refine zMb_of RX9 rfl (by decide) rfl (ls := [some (zR 110), some (zI a)]) rfl (fun hok => ?_)
  refine zA_rm (fun hrg => ?_)
  have hq := hrg 110 2
  unfold zr at hq
  refine zA_iload_n dX9_isCoat_0 rfl ?_
  refine zA_i2l dX9_isCoat_1 ?_
  refine zA_lconst (v := 0) dX9_isCoat_2 rfl rfl ?_
  refine zA_aload_n dX9_isCoat_3 rfl ?_
  refine zA_getI fX9_78 t_110 dX9_isCoat_4 ?_
  refine zA_iconst dX9_isCoat_7 rfl ?_
  refine zA_isubB dX9_isCoat_8 ⟨by omega, by omega⟩ ?_
  refine zA_i2l dX9_isCoat_9 ?_
  refine zA_cSb (st := []) kX9_81 (c_X9_in d (a) (0) ((μ 110 2) - 1) μ) rfl rfl rfl dX9_isCoat_10 (zfit0 (by omega) rfl) (fun v1 μ1 q1 => ?_)
  obtain ⟨b1, rfl⟩ := q1
  exact zA_rb (b := v1) dX9_isCoat_13 rfl ⟨by rw [b1]; omega, rfl⟩
theorem c_X9_isColour (d : Nat) (a : Int) (μ : zM) (hr : 0 ≤ μ 110 0) : zMet (d + 2) 0 yX9_isColour cX9_isColour 2 (some .boolean) TF μ [zR 110, zI a] (zPb (fun b μ' => (b = true ↔ (0 ≤ a ∧ a < μ 110 0)) ∧ μ = μ')) := by
  refine zMb_of RX9 rfl (by decide) rfl (ls := [some (zR 110), some (zI a)]) rfl (fun hok => ?_)
  refine zA_rm (fun hrg => ?_)
  have hq := hrg 110 0
  unfold zr at hq
  refine zA_iload_n dX9_isColour_0 rfl ?_
  refine zA_i2l dX9_isColour_1 ?_
  refine zA_lconst (v := 0) dX9_isColour_2 rfl rfl ?_
  refine zA_aload_n dX9_isColour_3 rfl ?_
  refine zA_getI fX9_75 t_110 dX9_isColour_4 ?_
  refine zA_iconst dX9_isColour_7 rfl ?_
  refine zA_isubB dX9_isColour_8 ⟨by omega, by omega⟩ ?_
  refine zA_i2l dX9_isColour_9 ?_
  refine zA_cSb (st := []) kX9_81 (c_X9_in d (a) (0) ((μ 110 0) - 1) μ) rfl rfl rfl dX9_isColour_10 (zfit0 (by omega) rfl) (fun v1 μ1 q1 => ?_)
  obtain ⟨b1, rfl⟩ := q1
  exact zA_rb (b := v1) dX9_isColour_13 rfl ⟨by rw [b1]; omega, rfl⟩
theorem c_X9_isParts (d : Nat) (v : Int) (μ : zM)  : zMet (d + 2) 0 yX9_isParts cX9_isParts 1 (some .boolean) TF μ [zI v] (zPb (fun b μ' => (b = true ↔ (0 ≤ v ∧ v ≤ 60)) ∧ μ = μ')) := by
  refine zMb_of RX9 rfl (by decide) rfl (ls := [some (zI v)]) rfl (fun hok => ?_)
  refine zA_iload_n dX9_isParts_0 rfl ?_
  refine zA_i2l dX9_isParts_1 ?_
  refine zA_lconst (v := 0) dX9_isParts_2 rfl rfl ?_
  refine zA_ldc2 cX9_85 dX9_isParts_3 rfl ?_
  refine zA_cSb (st := []) kX9_81 (c_X9_in d (v) (0) (60) μ) rfl rfl rfl dX9_isParts_6 (zfit0 (by omega) rfl) (fun v1 μ1 q1 => ?_)
  obtain ⟨b1, rfl⟩ := q1
  exact zA_rb (b := v1) dX9_isParts_9 rfl ⟨b1, rfl⟩
