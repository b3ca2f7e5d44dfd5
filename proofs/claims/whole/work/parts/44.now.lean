/-! ===== what is done at once: touchNow, washNow, draws ===== -/
theorem c_X8_touchNow (d : Nat) (μ : zM) (n m t : Nat) (u a b : Int) (hH : zHs μ n m t u) (ha : 0 ≤ a ∧ a < m) (hb : 0 ≤ b ∧ b < m) (hab : a ≠ b) (hok : rOk n m (μ 53)) : zMet (d + 4) 0 yX8_touchNow cX8_touchNow 3 none TF μ [zR 0, zI a, zI b] (zPv (fun ν => ν 53 = xchG u n (μ 53) (μ 52 1) a.toNat b.toNat ∧ ν 52 3 = zwi (μ 52 3 + 1) ∧ (∀ i, i ≠ 3 → ν 52 i = μ 52 i) ∧ ∀ k, k ≠ 52 → k ≠ 53 → k ≠ 5 → k ≠ 6 → k ≠ 7 → ν k = μ k)) := by
  refine zMv_of RX8 rfl (by decide) rfl (ls := [some (zR 0), some (zI a), some (zI b)]) rfl (fun hok0 => ?_)
  refine zA_aload_n dX8_touchNow_0 rfl ?_
  refine zA_getR fX8_12 t_0 rfl dX8_touchNow_1 ?_
  refine zA_aload_n dX8_touchNow_4 rfl ?_
  refine zA_getR fX8_47 t_0 rfl dX8_touchNow_5 ?_
  refine zA_getR fX8_144 t_52 rfl dX8_touchNow_8 ?_
  refine zA_aload_n dX8_touchNow_11 rfl ?_
  refine zA_getR fX8_47 t_0 rfl dX8_touchNow_12 ?_
  refine zA_getI fX8_126 t_52 dX8_touchNow_15 ?_
  refine zA_iload_n dX8_touchNow_18 rfl ?_
  refine zA_iload_n dX8_touchNow_19 rfl ?_
  refine zA_cVv (st := []) kX8_293 t_1 rfl rfl (c_X2_exchangeI d μ 53 n m t u (μ 52 1) a b t_53 hH ha hb hab hok) rfl rfl rfl dX8_touchNow_20 (zfit0 (by omega) rfl) (fun μ1 q1 => ?_)
  obtain ⟨q1a, q1b⟩ := q1
  refine zA_aload_n dX8_touchNow_23 rfl ?_
  refine zA_getR fX8_47 t_0 rfl dX8_touchNow_24 ?_
  refine zA_dup dX8_touchNow_27 rfl ?_
  refine zA_getE (w := μ 52 3) fX8_135 t_52 dX8_touchNow_28 (by rw [q1b 52 (by decide) (by decide) (by decide) (by decide)]) ?_
  refine zA_iconst dX8_touchNow_31 rfl ?_
  refine zA_iadd dX8_touchNow_32 ?_
  refine zA_putI wX8_135 t_52 dX8_touchNow_33 ?_
  refine zA_rv dX8_touchNow_36 ⟨?_, ?_, fun i hi => ?_, fun k h1 h2 h3 h4 h5 => ?_⟩
  · rw [← q1a]
    rfl
  · rw [zup_s]
  · rw [zup_n (fun q => hi q.2), q1b 52 (by decide) (by decide) (by decide) (by decide)]
  · rw [← q1b k h2 h3 h4 h5]
    funext i
    rw [zup_k h1]
def wRow (row ow : Nat → Int) (a : Nat) : Nat → Int := fun i => if a * 5 ≤ i ∧ i < a * 5 + 5 then ow i else row i
theorem wRow_ok {n m : Nat} {row ow : Nat → Int} {a : Nat} (hn : n ≤ 5) (h : rOk n m row) (ho : rOk n m ow) : rOk n m (wRow row ow a) := by
  intro x hx
  by_cases e : x = a
  · subst e
    exact gOk_congr (fun j hj => by unfold gP wRow; rw [if_pos (by omega)]) (ho x hx)
  · exact gOk_congr (fun j hj => by unfold gP wRow; rw [if_neg (by omega)]) (h x hx)
theorem wRow_congr {D : Nat → Prop} {row ow row' ow' : Nat → Int} {a : Nat} (h : ∀ i, D i → row i = row' i) (ho : ∀ i, D i → ow i = ow' i) : ∀ i, D i → wRow row ow a i = wRow row' ow' a i := by
  intro i hi
  unfold wRow
  rw [h i hi, ho i hi]
theorem c_X8_washNow (d : Nat) (μ : zM) (a : Int) (ha : 0 ≤ a ∧ a < 6) : zMet (d + 2) 0 yX8_washNow cX8_washNow 2 none TF μ [zR 0, zI a] (zPv (fun ν => ν 53 = wRow (μ 53) (μ 2) a.toNat ∧ ν 52 2 = zwi (μ 52 2 + 1) ∧ (∀ i, i ≠ 2 → ν 52 i = μ 52 i) ∧ ∀ k, k ≠ 52 → k ≠ 53 → ν k = μ k)) := by
  refine zMv_of RX8 rfl (by decide) rfl (ls := [some (zR 0), some (zI a)]) rfl (fun hok0 => ?_)
  refine zA_aload_n dX8_washNow_0 rfl ?_
  refine zA_getR fX8_12 t_0 rfl dX8_washNow_1 ?_
  refine zA_getR fX8_152 t_1 rfl dX8_washNow_4 ?_
  refine zA_iload_n dX8_washNow_7 rfl ?_
  refine zA_iconst dX8_washNow_8 rfl ?_
  refine zA_cSi (st := [zR 2]) kX8_147 (c_X8_cell d (a) (0) μ (by omega) (by omega)) rfl rfl rfl dX8_washNow_9 (zfit0 (by omega) rfl) (fun v1 μ1 q1 => ?_)
  obtain ⟨rfl, rfl⟩ := q1
  refine zA_aload_n dX8_washNow_12 rfl ?_
  refine zA_getR fX8_47 t_0 rfl dX8_washNow_13 ?_
  refine zA_getR fX8_144 t_52 rfl dX8_washNow_16 ?_
  refine zA_iload_n dX8_washNow_19 rfl ?_
  refine zA_iconst dX8_washNow_20 rfl ?_
  refine zA_cSi (st := [zR 53, zI (a * 5 + 0), zR 2]) kX8_147 (c_X8_cell d (a) (0) μ (by omega) (by omega)) rfl rfl rfl dX8_washNow_21 (zfit0 (by omega) rfl) (fun v2 μ2 q2 => ?_)
  obtain ⟨rfl, rfl⟩ := q2
  refine zA_iconst dX8_washNow_24 rfl ?_
  refine zA_copy TF_len kX8_282 kac_nat kac_st kac_in t_2 t_53 (by omega) (by omega) (by omega) (by omega) (by omega) dX8_washNow_25 (by show 1 ≤ d + 2; omega) (by show _ ≤ 100 * (d + 2); simp only [zcat]; exact Nat.le_trans (by decide : _ ≤ 100) (by omega)) ?_
  refine zA_aload_n dX8_washNow_28 rfl ?_
  refine zA_getR fX8_47 t_0 rfl dX8_washNow_29 ?_
  refine zA_dup dX8_washNow_32 rfl ?_
  refine zA_getE (w := μ 52 2) fX8_132 t_52 dX8_washNow_33 rfl ?_
  refine zA_iconst dX8_washNow_36 rfl ?_
  refine zA_iadd dX8_washNow_37 ?_
  refine zA_putI wX8_132 t_52 dX8_washNow_38 ?_
  refine zA_rv dX8_washNow_41 ⟨?_, ?_, fun i hi => ?_, fun k h1 h2 => ?_⟩
  · funext i
    rw [zup_k (by decide)]
    unfold zcp wRow
    by_cases e : a.toNat * 5 ≤ i ∧ i < a.toNat * 5 + 5
    · rw [if_pos e, if_pos ⟨rfl, by omega, by omega⟩, show (a * 5 + 0).toNat + (i - (a * 5 + 0).toNat) = i by omega]
    · rw [if_neg e, if_neg (fun q => e (by omega))]
  · rw [zup_s]
  · rw [zup_n (fun q => hi q.2)]
    rfl
  · funext i
    rw [zup_k h1]
    exact if_neg (fun q => h2 q.1)
theorem l_X9_washNow (d a : Nat) (μ : zM) (ha : a < 6) : ∀ (t0 c : Nat), 5 - c = t0 → c ≤ 5 → ∀ ν : zM, (∀ i, i ≠ 31 → i < 33 → ν 114 i = if a * 5 ≤ i ∧ i < a * 5 + c then μ 111 i else μ 114 i) → ν 114 31 = μ 114 31 → (∀ k, k ≠ 114 → ν k = μ k) → zA RX9 cX9_washNow 3 (zRm (d + 1) 0) zN0 TF 0 ν 2 [some (zR 110), some (zI (a : Int)), some (zI (c : Int))] [] (zPv (fun ν => (∀ i, i < 30 → ν 114 i = wRow (μ 114) (μ 111) a i) ∧ ν 114 30 = μ 114 30 ∧ ν 114 31 = zwi (μ 114 31 + 1) ∧ ν 114 32 = μ 114 32 ∧ ∀ k, k ≠ 114 → ν k = μ k)) := by
  intro t0
  induction t0 using Nat.strongRecOn with
  | ind t0 ih =>
    intro c hk hc5 ν hv h31 hfr
    refine zA_iload_n dX9_washNow_2 rfl ?_
    refine zA_iconst dX9_washNow_3 rfl ?_
    refine zA_icmp_ge (tgt := 33) dX9_washNow_4 rfl (fun h4 => ?_) (fun h4 => ?_)
    · refine zA_aload_n dX9_washNow_33 rfl ?_
      refine zA_getR fX9_19 t_110 rfl dX9_washNow_34 ?_
      refine zA_bipush dX9_washNow_37 rfl ?_
      refine zA_dup2 dX9_washNow_39 rfl rfl ?_
      refine zA_ialE (w := μ 114 31) (j := 31) t_114 (by omega) (by omega) dX9_washNow_40 rfl h31 ?_
      refine zA_iconst dX9_washNow_41 rfl ?_
      refine zA_iadd dX9_washNow_42 ?_
      refine zA_iasE (j := 31) t_114 (by omega) (by omega) dX9_washNow_43 rfl ?_
      refine zA_rv dX9_washNow_44 ⟨fun i hi => ?_, ?_, ?_, ?_, fun k hk => ?_⟩
      · rw [zup_n (fun q => by omega), hv i (by omega) (by omega)]
        unfold wRow
        rw [show c = 5 by omega]
      · rw [zup_n (fun q => by omega), hv 30 (by decide) (by decide), if_neg (by omega)]
      · rw [zup_s]
      · rw [zup_n (fun q => by omega), hv 32 (by decide) (by decide), if_neg (by omega)]
      · rw [← hfr k hk]
        funext i
        rw [zup_k hk]
    · refine zA_aload_n dX9_washNow_7 rfl ?_
      refine zA_getR fX9_19 t_110 rfl dX9_washNow_8 ?_
      refine zA_iconst dX9_washNow_11 rfl ?_
      refine zA_iload_n dX9_washNow_12 rfl ?_
      refine zA_imulB dX9_washNow_13 ⟨by omega, by omega⟩ ?_
      refine zA_iload_n dX9_washNow_14 rfl ?_
      refine zA_iaddB dX9_washNow_15 ⟨by omega, by omega⟩ ?_
      refine zA_aload_n dX9_washNow_16 rfl ?_
      refine zA_getR fX9_7 t_110 rfl dX9_washNow_17 ?_
      refine zA_iconst dX9_washNow_20 rfl ?_
      refine zA_iload_n dX9_washNow_21 rfl ?_
      refine zA_imulB dX9_washNow_22 ⟨by omega, by omega⟩ ?_
      refine zA_iload_n dX9_washNow_23 rfl ?_
      refine zA_iaddB dX9_washNow_24 ⟨by omega, by omega⟩ ?_
      refine zA_ialE (w := μ 111 (a * 5 + c)) (j := 5 * a + c) t_111 (by omega) (by omega) dX9_washNow_25 rfl (by rw [hfr 111 (by decide), Nat.mul_comm 5 a]) ?_
      refine zA_iasE (j := 5 * a + c) t_114 (by omega) (by omega) dX9_washNow_26 rfl ?_
      refine zA_iincB (ls' := [some (zR 110), some (zI (a : Int)), some (zI ((c : Int) + 1))]) dX9_washNow_27 rfl rfl ⟨by omega, by omega⟩ rfl ?_
      refine zA_goto (tgt := 2) dX9_washNow_30 rfl ?_
      refine ih _ (by omega) (c + 1) rfl (by omega) _ ?_ ?_ ?_
      · intro i h31 hi
        rw [Nat.mul_comm 5 a]
        by_cases e : i = a * 5 + c
        · subst e
          rw [zup_s, if_pos (by omega)]
        · rw [zup_n (fun q => e q.2), hv i h31 hi]
          by_cases e2 : a * 5 ≤ i ∧ i < a * 5 + c
          · rw [if_pos e2, if_pos (by omega)]
          · rw [if_neg e2, if_neg (by omega)]
      · rw [zup_n (fun q => by omega)]
        exact h31
      · intro k hk
        rw [← hfr k hk]
        funext i
        rw [zup_k hk]
theorem c_X9_washNow (d : Nat) (μ : zM) (a : Nat) (ha : a < 6) : zMet (d + 1) 0 yX9_washNow cX9_washNow 3 none TF μ [zR 110, zI (a : Int)] (zPv (fun ν => (∀ i, i < 30 → ν 114 i = wRow (μ 114) (μ 111) a i) ∧ ν 114 30 = μ 114 30 ∧ ν 114 31 = zwi (μ 114 31 + 1) ∧ ν 114 32 = μ 114 32 ∧ ∀ k, k ≠ 114 → ν k = μ k)) := by
  refine zMv_of RX9 rfl (by decide) rfl (ls := [some (zR 110), some (zI (a : Int)), none]) rfl (fun hok => ?_)
  refine zA_iconst dX9_washNow_0 rfl ?_
  refine zA_istore_n (ls' := [some (zR 110), some (zI (a : Int)), some (zI 0)]) dX9_washNow_1 rfl rfl ?_
  exact l_X9_washNow d a μ ha _ 0 rfl (by omega) μ (fun i _ _ => by rw [if_neg (by omega)]) rfl (fun _ _ => rfl)
theorem c_X9_washNowI (d : Nat) (μ : zM) (a : Int) (ha : 0 ≤ a ∧ a < 6) : zMet (d + 1) 0 yX9_washNow cX9_washNow 3 none TF μ [zR 110, zI a] (zPv (fun ν => (∀ i, i < 30 → ν 114 i = wRow (μ 114) (μ 111) a.toNat i) ∧ ν 114 30 = μ 114 30 ∧ ν 114 31 = zwi (μ 114 31 + 1) ∧ ν 114 32 = μ 114 32 ∧ ∀ k, k ≠ 114 → ν k = μ k)) := by
  obtain ⟨a', rfl⟩ := Int.eq_ofNat_of_zero_le ha.1
  exact c_X9_washNow d μ a' (by omega)
def dr (s : Int) : Int := (s * 1103515245 + 12345) % 2147483648
theorem dr_rg (s : Int) : 0 ≤ dr s ∧ dr s < 2147483648 := by unfold dr; omega
theorem zland_m {a : Int} (h0 : 0 ≤ a) (h1 : a < 9223372036854775808) : zland a 2147483647 = a % 2147483648 := by
  obtain ⟨k, rfl⟩ := Int.eq_ofNat_of_zero_le h0
  unfold zland
  have hk : k < 2 ^ 63 := by omega
  have e1 : Int64.ofInt (k : Int) = lN k := by
    apply Int64.toInt_inj.mp
    rw [zo_toIntL ⟨by omega, by omega⟩, pk_lT hk]
  have h2 : (lN k).toBitVec.toNat = k := by
    have := pk_lT hk
    have h3 : (lN k).toBitVec = BitVec.ofNat 64 k := rfl
    rw [h3, BitVec.toNat_ofNat]
    omega
  rw [e1]
  have h4 : (lN k &&& Int64.ofInt 2147483647).toBitVec.toNat = k % 2147483648 := by
    show ((lN k).toBitVec &&& (Int64.ofInt 2147483647).toBitVec).toNat = _
    rw [BitVec.toNat_and, h2, show (Int64.ofInt 2147483647).toBitVec.toNat = 2 ^ 31 - 1 by decide, Nat.and_two_pow_sub_one_eq_mod]
  show (lN k &&& Int64.ofInt 2147483647).toBitVec.toInt = _
  rw [BitVec.toInt_eq_toNat_of_lt (by rw [h4]; omega), h4]
  omega
theorem c_X8_drawOf (d : Nat) (μ : zM) (k : Int) (hk : 0 < k) (hs : 0 ≤ μ 0 14) : zMet (d + 1) 0 yX8_drawOf cX8_drawOf 2 (some .int) TF μ [zR 0, zI k] (zPi (fun v ν => v = dr (μ 0 14) / 65536 % k ∧ zup μ 0 14 (dr (μ 0 14)) = ν)) := by
  refine zMi_of RX8 rfl (by decide) rfl (ls := [some (zR 0), some (zI k)]) rfl (fun hok => ?_)
  have hdr := dr_rg (μ 0 14)
  refine zA_rm (fun hrg => ?_)
  have hs2 := hrg 0 14
  unfold zr at hs2
  refine zA_aload_n dX8_drawOf_0 rfl ?_
  refine zA_aload_n dX8_drawOf_1 rfl ?_
  refine zA_getI fX8_273 t_0 dX8_drawOf_2 ?_
  refine zA_i2l dX8_drawOf_5 ?_
  refine zA_ldc2 cX8_300 dX8_drawOf_6 rfl ?_
  refine zA_lmul dX8_drawOf_9 ?_
  refine zA_ldc2 cX8_302 dX8_drawOf_10 rfl ?_
  refine zA_ladd dX8_drawOf_13 ?_
  refine zA_ldc2 cX8_304 dX8_drawOf_14 rfl ?_
  refine zA_land dX8_drawOf_17 ?_
  refine zA_l2i dX8_drawOf_18 ?_
  refine zA_eq (st' := [zI (dr (μ 0 14)), zR 0]) ?_ ?_
  · congr 2
    have e1 : zwl (μ 0 14 * 1103515245) = μ 0 14 * 1103515245 := zwl_id ⟨by omega, by omega⟩
    have e2 : zwl (μ 0 14 * 1103515245 + 12345) = μ 0 14 * 1103515245 + 12345 := zwl_id ⟨by omega, by omega⟩
    rw [e1, e2, zland_m (by omega) (by omega)]
    exact zwi_id (show zr (dr (μ 0 14)) from ⟨by omega, by omega⟩)
  refine zA_putI wX8_273 t_0 dX8_drawOf_19 ?_
  refine zA_iload_n dX8_drawOf_22 rfl ?_
  refine zA_if_le (tgt := 39) dX8_drawOf_23 rfl (fun h23 => False.elim (by omega)) fun h23 => ?_
  refine zA_aload_n dX8_drawOf_26 rfl ?_
  refine zA_getE (w := dr (μ 0 14)) fX8_273 t_0 dX8_drawOf_27 (by rw [zup_s]) ?_
  refine zA_ldcw cX8_306 dX8_drawOf_30 rfl ?_
  refine zA_idivB dX8_drawOf_33 (by omega) (by omega) ?_
  refine zA_iload_n dX8_drawOf_34 rfl ?_
  refine zA_iremB dX8_drawOf_35 (by omega) (by omega) ?_
  refine zA_goto (tgt := 40) dX8_drawOf_36 rfl ?_
  exact zA_ri dX8_drawOf_40 ⟨rfl, rfl⟩
theorem c_X9_draw (d : Nat) (μ : zM) (k : Int) (hk : 0 < k) (hs : 0 ≤ μ 110 9) : zMet (d + 1) 0 yX9_draw cX9_draw 2 (some .int) TF μ [zR 110, zI k] (zPi (fun v ν => v = dr (μ 110 9) / 65536 % k ∧ zup μ 110 9 (dr (μ 110 9)) = ν)) := by
  refine zMi_of RX9 rfl (by decide) rfl (ls := [some (zR 110), some (zI k)]) rfl (fun hok => ?_)
  have hdr := dr_rg (μ 110 9)
  refine zA_rm (fun hrg => ?_)
  have hs2 := hrg 110 9
  unfold zr at hs2
  refine zA_aload_n dX9_draw_0 rfl ?_
  refine zA_aload_n dX9_draw_1 rfl ?_
  refine zA_getI fX9_210 t_110 dX9_draw_2 ?_
  refine zA_i2l dX9_draw_5 ?_
  refine zA_ldc2 cX9_213 dX9_draw_6 rfl ?_
  refine zA_lmul dX9_draw_9 ?_
  refine zA_ldc2 cX9_215 dX9_draw_10 rfl ?_
  refine zA_ladd dX9_draw_13 ?_
  refine zA_ldc2 cX9_217 dX9_draw_14 rfl ?_
  refine zA_lrem dX9_draw_17 (by decide) ?_
  refine zA_l2i dX9_draw_18 ?_
  refine zA_eq (st' := [zI (dr (μ 110 9)), zR 110]) ?_ ?_
  · congr 2
    have e1 : zwl (μ 110 9 * 1103515245) = μ 110 9 * 1103515245 := zwl_id ⟨by omega, by omega⟩
    have e2 : zwl (μ 110 9 * 1103515245 + 12345) = μ 110 9 * 1103515245 + 12345 := zwl_id ⟨by omega, by omega⟩
    rw [e1, e2, Int.tmod_eq_emod_of_nonneg (by omega)]
    exact zwi_id (show zr (dr (μ 110 9)) from ⟨by omega, by omega⟩)
  refine zA_putI wX9_210 t_110 dX9_draw_19 ?_
  refine zA_aload_n dX9_draw_22 rfl ?_
  refine zA_getE (w := dr (μ 110 9)) fX9_210 t_110 dX9_draw_23 (by rw [zup_s]) ?_
  refine zA_ldc cX9_219 dX9_draw_26 rfl ?_
  refine zA_idivB dX9_draw_28 (by omega) (by omega) ?_
  refine zA_iload_n dX9_draw_29 rfl ?_
  refine zA_iremB dX9_draw_30 (by omega) (by omega) ?_
  exact zA_ri dX9_draw_31 ⟨rfl, rfl⟩
