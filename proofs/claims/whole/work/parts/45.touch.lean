/-! ===== deeds: touch ===== -/
/-- the class has remembered -/
def dC (μ ν : zM) (x z : Nat) : Prop := (∀ i, i < 30 → ν (56 + 2 * x + 1) i = μ 53 i) ∧ ν (56 + 2 * x) 1 = μ 52 1 ∧ ν (56 + 2 * x) 2 = μ 52 2 ∧ ν (56 + 2 * x) 3 = μ 52 3 ∧ (∀ k, 56 ≤ k → k ≤ 95 → k ≠ 56 + 2 * x → k ≠ 56 + 2 * x + 1 → ν k = μ k) ∧ ν 54 1 = (((x + 1) % 20 : Nat) : Int) ∧ ν 54 2 = ((if z < 20 then z + 1 else 20 : Nat) : Int)
def dF (μ ν : zM) : Prop := ∀ k, ¬ cScr k → k ≠ 52 → k ≠ 53 → k ≠ 54 → ¬ (56 ≤ k ∧ k ≤ 95) → ν k = μ k
/-- the model has remembered -/
def dM (μ ν : zM) (z : Nat) : Prop := ν 110 26 = ((if z < 20 then z + 1 else 20 : Nat) : Int) ∧ (z < 20 → (∀ i, i < 33 * z → ν 120 i = μ 120 i) ∧ ∀ i, i < 33 → ν 120 (33 * z + i) = μ 114 i) ∧ (z = 20 → (∀ i, i < 627 → ν 120 i = μ 120 (i + 33)) ∧ ∀ i, i < 33 → ν 120 (627 + i) = μ 114 i)
def dG (μ ν : zM) : Prop := (∀ i, i ≠ 26 → ν 110 i = μ 110 i) ∧ ∀ k, k ≠ 110 → k ≠ 114 → k ≠ 119 → k ≠ 120 → k ≠ 121 → ν k = μ k
theorem dC.of {μ ν ξ : zM} {x z : Nat} (h : dC μ ν x z) (hx : x < 20) (hk : ∀ k, (k = 54 ∨ (56 ≤ k ∧ k ≤ 95)) → ξ k = ν k) : dC μ ξ x z := by
  obtain ⟨a1, a2, a3, a4, a5, a6, a7⟩ := h
  refine ⟨fun i hi => by rw [hk _ (by omega)]; exact a1 i hi, by rw [hk _ (by omega)]; exact a2, by rw [hk _ (by omega)]; exact a3, by rw [hk _ (by omega)]; exact a4, fun k h1 h2 h3 h4 => by rw [hk k (by omega)]; exact a5 k h1 h2 h3 h4, by rw [hk _ (by omega)]; exact a6, by rw [hk _ (by omega)]; exact a7⟩
theorem dC_rem {μ ν : zM} {x z : Nat} (hx : x < 20) (h : (∀ i, i < 30 → ν (56 + 2 * x + 1) i = μ 53 i) ∧ ν (56 + 2 * x) 1 = μ 52 1 ∧ ν (56 + 2 * x) 2 = μ 52 2 ∧ ν (56 + 2 * x) 3 = μ 52 3 ∧ (∀ k, k ≠ 54 → k ≠ 56 + 2 * x → k ≠ 56 + 2 * x + 1 → ν k = μ k) ∧ ν 54 1 = (((x + 1) % 20 : Nat) : Int) ∧ ν 54 2 = ((if z < 20 then z + 1 else 20 : Nat) : Int)) : dC μ ν x z ∧ ∀ k, k ≠ 54 → ¬ (56 ≤ k ∧ k ≤ 95) → ν k = μ k := by
  obtain ⟨a1, a2, a3, a4, a5, a6, a7⟩ := h
  exact ⟨⟨a1, a2, a3, a4, fun k h1 h2 h3 h4 => a5 k (by omega) h3 h4, a6, a7⟩, fun k h1 h2 => a5 k h1 (by omega) (by omega)⟩
theorem zInv_deed {μ ξ : zM} {n m t : Nat} {u : Int} (hI : zInv μ n m t u) (hk : ∀ k, k ≠ 0 → k ≠ 110 → ¬ cScr k → k ≠ 52 → k ≠ 53 → k ≠ 54 → ¬ (56 ≤ k ∧ k ≤ 95) → k ≠ 114 → k ≠ 119 → k ≠ 120 → k ≠ 121 → ξ k = μ k) (h0 : ∀ i, i ≠ 14 → ξ 0 i = μ 0 i) (h110 : ∀ i, i ≠ 9 → i ≠ 26 → ξ 110 i = μ 110 i) (hs : ξ 0 14 = ξ 110 9) (hs0 : 0 ≤ ξ 0 14) (hnow : iSt ξ n m 52 114 0) (hhis : iHis ξ n m) : zInv ξ n m t u := by
  unfold cScr at hk
  have k : ∀ k, ((1 ≤ k ∧ k ≤ 4) ∨ k = 8 ∨ k = 16 ∨ (96 ≤ k ∧ k ≤ 103) ∨ (106 ≤ k ∧ k ≤ 109) ∨ (111 ≤ k ∧ k ≤ 113) ∨ k = 115 ∨ (124 ≤ k ∧ k ≤ 125) ∨ (127 ≤ k ∧ k ≤ 130)) → ξ k = μ k := fun k h => hk k (by omega) (by omega) (by omega) (by omega) (by omega) (by omega) (by omega) (by omega) (by omega) (by omega) (by omega)
  obtain ⟨hh, hst, ht, hm, h1, h2, h3, h4⟩ := hI
  exact ⟨hh.keep (k _ (by omega)) (k _ (by omega)) (k _ (by omega)) (k _ (by omega)) (k _ (by omega)) (k _ (by omega)) (k _ (by omega)) (h110 _ (by decide) (by decide)) (h110 _ (by decide) (by decide)) (h110 _ (by decide) (by decide)) (h110 _ (by decide) (by decide)) (h110 _ (by decide) (by decide)), hnow, ht.keep (by rw [k 8 (by omega)]) (k _ (by omega)) (k _ (by omega)) (h110 _ (by decide) (by decide)), ⟨by rw [h0 15 (by decide), h110 12 (by decide) (by decide)]; exact hm.1, hs, hs0⟩, h1.keep (k _ (by omega)) (k _ (by omega)) (k _ (by omega)) (k _ (by omega)) (k _ (by omega)) (h110 _ (by decide) (by decide)), h2.keep (k _ (by omega)) (k _ (by omega)) (k _ (by omega)) (k _ (by omega)) (k _ (by omega)) (h110 _ (by decide) (by decide)), h3.keep (h0 13 (by decide)) (k _ (by omega)) (k _ (by omega)) (k _ (by omega)) (fun j _ _ => k j (by omega)), hhis⟩
/-- the common end of a deed: class from μ to ν, model from ν to ξ -/
theorem zInv_deed2 {μ ν ξ : zM} {n m t x z : Nat} {u : Int} (hI : zInv μ n m t u) (hx : x < 20) (hz : z ≤ 20) (hmap : ∀ j, j < z → iSt μ n m (56 + 2 * ((x + 20 - z + j) % 20)) 120 (33 * j)) (c1 : dC μ ν x z) (c2 : dF μ ν) (m1 : dM ν ξ z) (m2 : dG ν ξ) (hrow : ∀ i, lv n m i → ν 53 i = ξ 114 i) (hok : rOk n m (ν 53)) (g1 : ν 52 1 = ξ 114 30) (g2 : ν 52 2 = ξ 114 31) (g3 : ν 52 3 = ξ 114 32) : zInv ξ n m t u := by
  have hn5 := hI.1.1.2.2.2.2.1
  have hm6 := hI.1.1.2.2.2.2.2.1
  have c2' : ∀ k, ¬ cScr k → k ≠ 52 → k ≠ 53 → k ≠ 54 → ¬ (56 ≤ k ∧ k ≤ 95) → ν k = μ k := c2
  unfold cScr at c2'
  have ex : ∀ k, k < 110 → ξ k = ν k := fun k hk => m2.2 k (by omega) (by omega) (by omega) (by omega) (by omega)
  have e110 : ν 110 = μ 110 := c2' 110 (by omega) (by omega) (by omega) (by omega) (by omega)
  have e114 : ν 114 = μ 114 := c2' 114 (by omega) (by omega) (by omega) (by omega) (by omega)
  have e120 : ν 120 = μ 120 := c2' 120 (by omega) (by omega) (by omega) (by omega) (by omega)
  have e0 : ν 0 = μ 0 := c2' 0 (by omega) (by omega) (by omega) (by omega) (by omega)
  refine zInv_deed hI (fun k b1 b2 b3 b4 b5 b6 b7 b8 b9 b10 b11 => by rw [m2.2 k b2 b8 b9 b10 b11]; exact c2 k b3 b4 b5 b6 b7) (fun i _ => by rw [ex 0 (by decide), e0]) (fun i _ h26 => by rw [m2.1 i h26, e110]) (by rw [ex 0 (by decide), m2.1 9 (by decide), e0, e110]; exact hI.2.2.2.1.2.1) (by rw [ex 0 (by decide), e0]; exact hI.2.2.2.1.2.2) ⟨fun i hi => by rw [Nat.zero_add, ex 53 (by decide)]; exact hrow i hi, by rw [show 52 + 1 = 53 from rfl, ex 53 (by decide)]; exact hok, by rw [ex 52 (by decide)]; exact g1, by rw [ex 52 (by decide)]; exact g2, by rw [ex 52 (by decide)]; exact g3⟩ ?_
  obtain ⟨d1, d2, d3, d4, d5, d6, d7⟩ := c1
  refine iHis_rem hz hx hmap hI.2.1 (fun i hi => by rw [ex _ (by omega)]; exact d1 i hi) (by rw [ex _ (by omega)]; exact d2) (by rw [ex _ (by omega)]; exact d3) (by rw [ex _ (by omega)]; exact d4) (fun k k1 k2 k3 k4 => by rw [ex _ (by omega)]; exact d5 k k1 k2 k3 k4) (by rw [ex _ (by omega)]; exact d6) (by rw [ex _ (by omega)]; exact d7) m1.1 ?_ ?_ hn5 hm6
  · intro h
    have := m1.2.1 h
    rw [e120, e114] at this
    exact this
  · intro h
    have := m1.2.2 h
    rw [e120, e114] at this
    exact this
/-- how much more is on a coat behind a touch -/
def tDf (r1 r0 : Nat → Int) (a j : Nat) : Int := if 0 < r1 (a * 5 + j) - r0 (a * 5 + j) then r1 (a * 5 + j) - r0 (a * 5 + j) else 0
theorem gS_b60 {f : Nat → Int} : ∀ {n : Nat}, (∀ j, j < n → 0 ≤ f j ∧ f j ≤ 60) → 0 ≤ gS f n ∧ gS f n ≤ 60 * n
  | 0, _ => by simp [gS]
  | n + 1, h => by
    have h1 := gS_b60 (f := f) (n := n) (fun j hj => h j (by omega))
    have h2 := h n (by omega)
    simp only [gS]
    omega
theorem l_X8_touch (d : Nat) (ν : zM) (n a b : Nat) (R1 R0 : Nat → Int) (Q : Int → zM → Prop) (ha : a < 6) (hn5 : n ≤ 5) (hn : ν 1 6 = n) (h1 : ∀ j, j < n → ν 53 (a * 5 + j) = R1 (a * 5 + j)) (h0 : ∀ j, j < n → ν 105 (a * 5 + j) = R0 (a * 5 + j)) (b1 : ∀ j, j < n → 0 ≤ R1 (a * 5 + j) ∧ R1 (a * 5 + j) ≤ 60) (b0 : ∀ j, j < n → 0 ≤ R0 (a * 5 + j) ∧ R0 (a * 5 + j) ≤ 60) (hQ : Q (gS (tDf R1 R0 a) n) ν) : ∀ (t0 c : Nat), n - c = t0 → c ≤ n → zA RX8 cX8_touch 5 (zRm (d + 6) 0) zN0 TF 0 ν 51 [some (zR 0), some (zI (a : Int)), some (zI (b : Int)), some (zI (gS (tDf R1 R0 a) c)), some (zI (c : Int))] [] (zPi Q) := by
  intro t0
  induction t0 using Nat.strongRecOn with
  | ind t0 ih =>
    intro c hk hcn0
    refine zA_iload dX8_touch_51 rfl ?_
    refine zA_aload_n dX8_touch_53 rfl ?_
    refine zA_getR fX8_12 t_0 rfl dX8_touch_54 ?_
    refine zA_getE (w := (n : Int)) fX8_114 t_1 dX8_touch_57 hn ?_
    refine zA_icmp_ge (tgt := 102) dX8_touch_60 rfl (fun h60 => ?_) (fun h60 => ?_)
    · refine zA_iload_n dX8_touch_102 rfl ?_
      exact zA_ri dX8_touch_103 (by rw [show c = n by omega]; exact hQ)
    · have hcn : c < n := by omega
      have B1 := b1 c hcn
      have B0 := b0 c hcn
      have BS := gS_b60 (f := tDf R1 R0 a) (n := c) (fun j hj => by have := b1 j (by omega); have := b0 j (by omega); unfold tDf; split <;> omega)
      have BT : 0 ≤ tDf R1 R0 a c ∧ tDf R1 R0 a c ≤ 60 := by unfold tDf; split <;> omega
      refine zA_iload_n dX8_touch_63 rfl ?_
      refine zA_iconst dX8_touch_64 rfl ?_
      refine zA_aload_n dX8_touch_65 rfl ?_
      refine zA_getR fX8_47 t_0 rfl dX8_touch_66 ?_
      refine zA_getR fX8_144 t_52 rfl dX8_touch_69 ?_
      refine zA_iload_n dX8_touch_72 rfl ?_
      refine zA_iload dX8_touch_73 rfl ?_
      refine zA_cSi (st := [zR 53, zI 0, zI (gS (tDf R1 R0 a) c)]) kX8_147 (c_X8_cell (d + 4) ((a : Int)) ((c : Int)) ν (by omega) (by omega)) rfl rfl rfl dX8_touch_75 (zfit0 (by omega) rfl) (fun v1 μ1 q1 => ?_)
      obtain ⟨rfl, rfl⟩ := q1
      refine zA_ialE (w := R1 (a * 5 + c)) (j := a * 5 + c) t_53 (by omega) (by omega) dX8_touch_78 rfl (h1 c hcn) ?_
      refine zA_aload_n dX8_touch_79 rfl ?_
      refine zA_getR fX8_81 t_0 rfl dX8_touch_80 ?_
      refine zA_iload_n dX8_touch_83 rfl ?_
      refine zA_iload dX8_touch_84 rfl ?_
      refine zA_cSi (st := [zR 105, zI (R1 (a * 5 + c)), zI 0, zI (gS (tDf R1 R0 a) c)]) kX8_147 (c_X8_cell (d + 4) ((a : Int)) ((c : Int)) ν (by omega) (by omega)) rfl rfl rfl dX8_touch_86 (zfit0 (by omega) rfl) (fun v2 μ2 q2 => ?_)
      obtain ⟨rfl, rfl⟩ := q2
      refine zA_ialE (w := R0 (a * 5 + c)) (j := a * 5 + c) t_105 (by omega) (by omega) dX8_touch_89 rfl (h0 c hcn) ?_
      refine zA_isubB dX8_touch_90 ⟨by omega, by omega⟩ ?_
      refine zA_max kX8_180 kmx_st kma_in kmx_c dX8_touch_91 (by show 1 ≤ d + 6; omega) (by show _ ≤ 100 * (d + 6); simp only [zcat]; omega) (Nat.zero_le _) (Nat.zero_le _) ?_
      refine zA_iaddE (w := gS (tDf R1 R0 a) (c + 1)) dX8_touch_94 (by simp only [gS]; exact ⟨by omega, by omega⟩) (by simp only [gS]; rfl) ?_
      refine zA_istore_n (ls' := [some (zR 0), some (zI (a : Int)), some (zI (b : Int)), some (zI (gS (tDf R1 R0 a) (c + 1))), some (zI (c : Int))]) dX8_touch_95 rfl rfl ?_
      refine zA_iincB (ls' := [some (zR 0), some (zI (a : Int)), some (zI (b : Int)), some (zI (gS (tDf R1 R0 a) (c + 1))), some (zI ((c : Int) + 1))]) dX8_touch_96 rfl rfl ⟨by omega, by omega⟩ rfl ?_
      refine zA_goto (tgt := 51) dX8_touch_99 rfl ?_
      exact ih _ (by omega) (c + 1) rfl (by omega)
theorem c_X8_touchY (d : Nat) (μ : zM) (n m t x z a b : Nat) (u : Int) (hH : zHs μ n m t u) (ha : a < m) (hb : b < m) (hab : a ≠ b) (hok : rOk n m (μ 53)) (hx : x < 20) (hz : z ≤ 20) (hx1 : μ 54 1 = x) (hz1 : μ 54 2 = z) : zMet (d + 6) 0 yX8_touch cX8_touch 5 (some .int) TF μ [zR 0, zI (a : Int), zI (b : Int)] (zPi (fun v ν => v = gS (tDf (xchG u n (μ 53) (μ 52 1) a b) (μ 53) a) n ∧ dC μ ν x z ∧ dF μ ν ∧ ν 53 = xchG u n (μ 53) (μ 52 1) a b ∧ ν 52 1 = μ 52 1 ∧ ν 52 2 = μ 52 2 ∧ ν 52 3 = zwi (μ 52 3 + 1))) := by
  have hH0 := hH
  obtain ⟨hn, hu, hm, ht, hn5, hm6, ht10, hu1, hdk⟩ := hH0
  refine zMi_of RX8 rfl (by decide) rfl (ls := [some (zR 0), some (zI (a : Int)), some (zI (b : Int)), none, none]) rfl (fun hok0 => ?_)
  refine zA_aload_n dX8_touch_0 rfl ?_
  refine zA_getR fX8_12 t_0 rfl dX8_touch_1 ?_
  refine zA_iload_n dX8_touch_4 rfl ?_
  refine zA_iload_n dX8_touch_5 rfl ?_
  refine zA_cVb (st := []) kX8_165 t_1 rfl rfl (c_X2_hasPair (d + 3) (a : Int) (b : Int) μ) rfl rfl rfl dX8_touch_6 (zfit0 (by omega) rfl) (fun v1 μ1 q1 => ?_)
  obtain ⟨b1, rfl⟩ := q1
  refine zA_ifb_ne (tgt := 15) dX8_touch_9 rfl (fun h9 => ?_) (fun h9 => False.elim (by have := b1.mpr (by rw [hm]; omega); simp_all))
  refine zA_aload_n dX8_touch_15 rfl ?_
  refine zA_getR fX8_54 t_0 rfl dX8_touch_16 ?_
  refine zA_aload_n dX8_touch_19 rfl ?_
  refine zA_getR fX8_47 t_0 rfl dX8_touch_20 ?_
  refine zA_cVv (st := []) kX8_168 t_54 rfl rfl (c_X1_remember (d + 2) x z μ hx hz hx1 hz1) rfl rfl rfl dX8_touch_23 (zfit0 (by omega) rfl) (fun μ2 q2 => ?_)
  obtain ⟨q2a, q2b⟩ := dC_rem hx q2
  refine zA_aload_n dX8_touch_26 rfl ?_
  refine zA_getR fX8_47 t_0 rfl dX8_touch_27 ?_
  refine zA_getR fX8_144 t_52 rfl dX8_touch_30 ?_
  refine zA_aload_n dX8_touch_33 rfl ?_
  refine zA_getR fX8_81 t_0 rfl dX8_touch_34 ?_
  refine zA_cSv (st := []) kX8_172 (c_X8_copyPartsR (d + 4) 53 105 μ2 t_53 t_105) rfl rfl rfl dX8_touch_37 (zfit0 (by omega) rfl) (fun μ3 q3 => ?_)
  obtain ⟨q3a, q3b⟩ := q3
  have e53 : μ3 53 = μ 53 := by rw [q3b 53 (by decide), q2b 53 (by decide) (by decide)]
  have e52 : μ3 52 = μ 52 := by rw [q3b 52 (by decide), q2b 52 (by decide) (by decide)]
  have e1 : μ3 1 = μ 1 := by rw [q3b 1 (by decide), q2b 1 (by decide) (by decide)]
  have e3 : μ3 3 = μ 3 := by rw [q3b 3 (by decide), q2b 3 (by decide) (by decide)]
  have e4 : μ3 4 = μ 4 := by rw [q3b 4 (by decide), q2b 4 (by decide) (by decide)]
  refine zA_aload_n dX8_touch_40 rfl ?_
  refine zA_iload_n dX8_touch_41 rfl ?_
  refine zA_iload_n dX8_touch_42 rfl ?_
  refine zA_cVv (st := []) kX8_176 t_0 rfl rfl (c_X8_touchNow (d + 1) μ3 n m t u (a : Int) (b : Int) (hH.keep e1 e3 e4) (by omega) (by omega) (by omega) (by rw [e53]; exact hok)) rfl rfl rfl dX8_touch_43 (zfit0 (by omega) rfl) (fun μ4 q4 => ?_)
  obtain ⟨q4a, q4b, q4c, q4d⟩ := q4
  refine zA_iconst dX8_touch_46 rfl ?_
  refine zA_istore_n (ls' := [some (zR 0), some (zI (a : Int)), some (zI (b : Int)), some (zI 0), none]) dX8_touch_47 rfl rfl ?_
  refine zA_iconst dX8_touch_48 rfl ?_
  refine zA_istore (ls' := [some (zR 0), some (zI (a : Int)), some (zI (b : Int)), some (zI 0), some (zI 0)]) dX8_touch_49 rfl rfl ?_
  have hX : rOk n m (xchG u n (μ 53) (μ 52 1) a b) := xchG_ok hn5 hu1 ha hb hab hok
  have E53 : μ4 53 = xchG u n (μ 53) (μ 52 1) a b := by rw [q4a, e53, e52]; rfl
  refine l_X8_touch d μ4 n a b (xchG u n (μ 53) (μ 52 1) a b) (μ 53) _ (by omega) hn5 (by rw [q4d 1 (by decide) (by decide) (by decide) (by decide) (by decide), e1]; exact hn) (fun j _ => by rw [E53]) (fun j hj => by rw [q4d 105 (by decide) (by decide) (by decide) (by decide) (by decide), q3a _ (by omega), q2b 53 (by decide) (by decide)]) (fun j hj => ⟨(hX a ha).1 j hj, gOk_le (hX a ha) hj⟩) (fun j hj => ⟨(hok a ha).1 j hj, gOk_le (hok a ha) hj⟩) ⟨rfl, q2a.of hx (fun k hk => by rw [q4d k (by omega) (by omega) (by omega) (by omega) (by omega), q3b k (by omega)]), fun k k1 k2 k3 k4 k5 => ?_, E53, by rw [q4c 1 (by decide), e52], by rw [q4c 2 (by decide), e52], by rw [q4b, e52]⟩ _ 0 rfl (by omega)
  unfold cScr at k1
  rw [q4d k k2 k3 (by omega) (by omega) (by omega), q3b k (by omega), q2b k k4 k5]
theorem c_X8_touchN (d : Nat) (μ : zM) (m : Nat) (a b : Int) (hm : μ 1 8 = m) (hnp : ¬ ((0 ≤ a ∧ a < m) ∧ (0 ≤ b ∧ b < m) ∧ a ≠ b)) : zMet (d + 6) 0 yX8_touch cX8_touch 5 (some .int) TF μ [zR 0, zI a, zI b] (zPi (fun v ν => v = -1000000001 ∧ μ = ν)) := by
  refine zMi_of RX8 rfl (by decide) rfl (ls := [some (zR 0), some (zI a), some (zI b), none, none]) rfl (fun hok0 => ?_)
  refine zA_aload_n dX8_touch_0 rfl ?_
  refine zA_getR fX8_12 t_0 rfl dX8_touch_1 ?_
  refine zA_iload_n dX8_touch_4 rfl ?_
  refine zA_iload_n dX8_touch_5 rfl ?_
  refine zA_cVb (st := []) kX8_165 t_1 rfl rfl (c_X2_hasPair (d + 3) a b μ) rfl rfl rfl dX8_touch_6 (zfit0 (by omega) rfl) (fun v1 μ1 q1 => ?_)
  obtain ⟨b1, rfl⟩ := q1
  refine zA_ifb_ne (tgt := 15) dX8_touch_9 rfl (fun h9 => False.elim (by have := b1.mp h9; rw [hm] at this; exact hnp this)) fun h9 => ?_
  refine zA_ldc cX8_151 dX8_touch_12 rfl ?_
  exact zA_ri dX8_touch_14 ⟨rfl, rfl⟩
theorem l_X9_touch1 (d : Nat) (μ3 : zM) (n a b : Nat) (P : zP) (ha : a < 6) (hn5 : n ≤ 5) (hn : μ3 110 0 = n) (hx : ∀ ν : zM, (∀ j, j < n → ν 121 j = μ3 114 (a * 5 + j)) → (∀ k, k ≠ 121 → ν k = μ3 k) → zA RX9 cX9_touch 6 (zRm (d + 5) 0) zN0 TF 0 ν 60 [some (zR 110), some (zI (a : Int)), some (zI (b : Int)), none, none, none] [] P) : ∀ (t0 c : Nat), n - c = t0 → c ≤ n → ∀ ν : zM, (∀ j, j < c → ν 121 j = μ3 114 (a * 5 + j)) → (∀ k, k ≠ 121 → ν k = μ3 k) → zA RX9 cX9_touch 6 (zRm (d + 5) 0) zN0 TF 0 ν 30 [some (zR 110), some (zI (a : Int)), some (zI (b : Int)), some (zI (c : Int)), none, none] [] P := by
  intro t0
  induction t0 using Nat.strongRecOn with
  | ind t0 ih =>
    intro c hk hcn0 ν hv hfr
    have hn2 : ν 110 0 = n := by rw [hfr 110 (by decide)]; exact hn
    refine zA_iload_n dX9_touch_30 rfl ?_
    refine zA_aload_n dX9_touch_31 rfl ?_
    refine zA_getE (w := (n : Int)) fX9_75 t_110 dX9_touch_32 hn2 ?_
    refine zA_icmp_ge (tgt := 60) dX9_touch_35 rfl (fun h35 => ?_) (fun h35 => ?_)
    · refine zA_dr (ls' := [some (zR 110), some (zI (a : Int)), some (zI (b : Int)), none, none, none]) 3 rfl ?_
      exact hx ν (fun j hj => hv j (by omega)) hfr
    · refine zA_aload_n dX9_touch_38 rfl ?_
      refine zA_getR fX9_44 t_110 rfl dX9_touch_39 ?_
      refine zA_iload_n dX9_touch_42 rfl ?_
      refine zA_aload_n dX9_touch_43 rfl ?_
      refine zA_getR fX9_19 t_110 rfl dX9_touch_44 ?_
      refine zA_iconst dX9_touch_47 rfl ?_
      refine zA_iload_n dX9_touch_48 rfl ?_
      refine zA_imulB dX9_touch_49 ⟨by omega, by omega⟩ ?_
      refine zA_iload_n dX9_touch_50 rfl ?_
      refine zA_iaddB dX9_touch_51 ⟨by omega, by omega⟩ ?_
      refine zA_ialE (w := ν 114 (5 * a + c)) (j := 5 * a + c) t_114 (by omega) (by omega) dX9_touch_52 rfl rfl ?_
      refine zA_iasE (j := c) t_121 (by omega) (by omega) dX9_touch_53 rfl ?_
      refine zA_iincB (ls' := [some (zR 110), some (zI (a : Int)), some (zI (b : Int)), some (zI ((c : Int) + 1)), none, none]) dX9_touch_54 rfl rfl ⟨by omega, by omega⟩ rfl ?_
      refine zA_goto (tgt := 30) dX9_touch_57 rfl ?_
      refine ih _ (by omega) (c + 1) rfl (by omega) _ ?_ ?_
      · intro j hj
        by_cases e : j = c
        · subst e
          rw [zup_s, Nat.mul_comm 5 a, hfr 114 (by decide)]
        · rw [zup_n (fun q => e q.2), hv j (by omega)]
      · intro k hk
        rw [← hfr k hk]
        funext i
        rw [zup_k hk]
theorem l_X9_touch2 (d : Nat) (ν : zM) (n a b : Nat) (R1 R0 : Nat → Int) (Q : Int → zM → Prop) (ha : a < 6) (hn5 : n ≤ 5) (hn : ν 110 0 = n) (h1 : ∀ j, j < n → ν 114 (a * 5 + j) = R1 (a * 5 + j)) (h0 : ∀ j, j < n → ν 121 j = R0 (a * 5 + j)) (b1 : ∀ j, j < n → 0 ≤ R1 (a * 5 + j) ∧ R1 (a * 5 + j) ≤ 60) (b0 : ∀ j, j < n → 0 ≤ R0 (a * 5 + j) ∧ R0 (a * 5 + j) ≤ 60) (hQ : Q (gS (tDf R1 R0 a) n) ν) : ∀ (t0 c : Nat), n - c = t0 → c ≤ n → zA RX9 cX9_touch 6 (zRm (d + 5) 0) zN0 TF 0 ν 86 [some (zR 110), some (zI (a : Int)), some (zI (b : Int)), some (zI (gS (tDf R1 R0 a) c)), some (zI (c : Int)), none] [] (zPi Q) := by
  intro t0
  induction t0 using Nat.strongRecOn with
  | ind t0 ih =>
    intro c hk hcn0
    refine zA_iload dX9_touch_86 rfl ?_
    refine zA_aload_n dX9_touch_88 rfl ?_
    refine zA_getE (w := (n : Int)) fX9_75 t_110 dX9_touch_89 hn ?_
    refine zA_icmp_ge (tgt := 136) dX9_touch_92 rfl (fun h92 => ?_) (fun h92 => ?_)
    · refine zA_iload_n dX9_touch_136 rfl ?_
      exact zA_ri dX9_touch_137 (by rw [show c = n by omega]; exact hQ)
    · have hcn : c < n := by omega
      have B1 := b1 c hcn
      have B0 := b0 c hcn
      have BS := gS_b60 (f := tDf R1 R0 a) (n := c) (fun j hj => by have := b1 j (by omega); have := b0 j (by omega); unfold tDf; split <;> omega)
      have BT : 0 ≤ tDf R1 R0 a c ∧ tDf R1 R0 a c ≤ 60 := by unfold tDf; split <;> omega
      refine zA_aload_n dX9_touch_95 rfl ?_
      refine zA_getR fX9_19 t_110 rfl dX9_touch_96 ?_
      refine zA_iconst dX9_touch_99 rfl ?_
      refine zA_iload_n dX9_touch_100 rfl ?_
      refine zA_imulB dX9_touch_101 ⟨by omega, by omega⟩ ?_
      refine zA_iload dX9_touch_102 rfl ?_
      refine zA_iaddB dX9_touch_104 ⟨by omega, by omega⟩ ?_
      refine zA_ialE (w := R1 (a * 5 + c)) (j := 5 * a + c) t_114 (by omega) (by omega) dX9_touch_105 rfl (by rw [Nat.mul_comm 5 a]; exact h1 c hcn) ?_
      refine zA_aload_n dX9_touch_106 rfl ?_
      refine zA_getR fX9_44 t_110 rfl dX9_touch_107 ?_
      refine zA_iload dX9_touch_110 rfl ?_
      refine zA_ialE (w := R0 (a * 5 + c)) (j := c) t_121 (by omega) (by omega) dX9_touch_112 rfl (h0 c hcn) ?_
      refine zA_isubB dX9_touch_113 ⟨by omega, by omega⟩ ?_
      refine zA_istore (ls' := [some (zR 110), some (zI (a : Int)), some (zI (b : Int)), some (zI (gS (tDf R1 R0 a) c)), some (zI (c : Int)), some (zI ((R1 (a * 5 + c)) - (R0 (a * 5 + c))))]) dX9_touch_114 rfl rfl ?_
      refine zA_iload_n dX9_touch_116 rfl ?_
      refine zA_iload dX9_touch_117 rfl ?_
      refine zA_if_le (tgt := 127) dX9_touch_119 rfl (fun h119 => ?_) (fun h119 => ?_)
      · refine zA_iconst dX9_touch_127 rfl ?_
        refine zA_iaddE (w := gS (tDf R1 R0 a) (c + 1)) dX9_touch_128 (by simp only [gS]; exact ⟨by omega, by omega⟩) (by simp only [gS]; unfold tDf; split <;> omega) ?_
        refine zA_istore_n (ls' := [some (zR 110), some (zI (a : Int)), some (zI (b : Int)), some (zI (gS (tDf R1 R0 a) (c + 1))), some (zI (c : Int)), some (zI ((R1 (a * 5 + c)) - (R0 (a * 5 + c))))]) dX9_touch_129 rfl rfl ?_
        refine zA_iincB (ls' := [some (zR 110), some (zI (a : Int)), some (zI (b : Int)), some (zI (gS (tDf R1 R0 a) (c + 1))), some (zI ((c : Int) + 1)), some (zI ((R1 (a * 5 + c)) - (R0 (a * 5 + c))))]) dX9_touch_130 rfl rfl ⟨by omega, by omega⟩ rfl ?_
        refine zA_goto (tgt := 86) dX9_touch_133 rfl ?_
        refine zA_dr (ls' := [some (zR 110), some (zI (a : Int)), some (zI (b : Int)), some (zI (gS (tDf R1 R0 a) (c + 1))), some (zI ((c : Int) + 1)), none]) 5 rfl ?_
        exact ih _ (by omega) (c + 1) rfl (by omega)
      · refine zA_iload dX9_touch_122 rfl ?_
        refine zA_goto (tgt := 128) dX9_touch_124 rfl ?_
        refine zA_iaddE (w := gS (tDf R1 R0 a) (c + 1)) dX9_touch_128 (by simp only [gS]; exact ⟨by omega, by omega⟩) (by simp only [gS]; unfold tDf; split <;> omega) ?_
        refine zA_istore_n (ls' := [some (zR 110), some (zI (a : Int)), some (zI (b : Int)), some (zI (gS (tDf R1 R0 a) (c + 1))), some (zI (c : Int)), some (zI ((R1 (a * 5 + c)) - (R0 (a * 5 + c))))]) dX9_touch_129 rfl rfl ?_
        refine zA_iincB (ls' := [some (zR 110), some (zI (a : Int)), some (zI (b : Int)), some (zI (gS (tDf R1 R0 a) (c + 1))), some (zI ((c : Int) + 1)), some (zI ((R1 (a * 5 + c)) - (R0 (a * 5 + c))))]) dX9_touch_130 rfl rfl ⟨by omega, by omega⟩ rfl ?_
        refine zA_goto (tgt := 86) dX9_touch_133 rfl ?_
        refine zA_dr (ls' := [some (zR 110), some (zI (a : Int)), some (zI (b : Int)), some (zI (gS (tDf R1 R0 a) (c + 1))), some (zI ((c : Int) + 1)), none]) 5 rfl ?_
        exact ih _ (by omega) (c + 1) rfl (by omega)
theorem zMs.keep2 {μ ν μ3 : zM} {n m t : Nat} {u : Int} (h : zMs μ n m t u) (h1 : ∀ k, k ≠ 121 → ν k = μ3 k) (h2 : ∀ i, i ≠ 26 → μ3 110 i = μ 110 i) (h3 : ∀ k, k ≠ 110 → k ≠ 120 → μ3 k = μ k) : zMs ν n m t u := by
  unfold zMs at *
  rw [h1 110 (by decide), h1 112 (by decide), h1 113 (by decide), h3 112 (by decide) (by decide), h3 113 (by decide) (by decide), h2 0 (by decide), h2 1 (by decide), h2 2 (by decide), h2 5 (by decide)]
  exact h
theorem c_X9_touchY (d : Nat) (μ : zM) (n m t z a b : Nat) (u : Int) (hH : zMs μ n m t u) (ha : a < m) (hb : b < m) (hab : a ≠ b) (hok : rOk n m (μ 114)) (hz : z ≤ 20) (hz1 : μ 110 26 = z) : zMet (d + 5) 0 yX9_touch cX9_touch 6 (some .int) TF μ [zR 110, zI (a : Int), zI (b : Int)] (zPi (fun v ν => v = gS (tDf (xchG u n (μ 114) (μ 114 30) a b) (μ 114) a) n ∧ dM μ ν z ∧ dG μ ν ∧ (∀ i, i < 30 → ν 114 i = (xchG u n (μ 114) (μ 114 30) a b) i) ∧ ν 114 30 = μ 114 30 ∧ ν 114 31 = μ 114 31 ∧ ν 114 32 = zwi (μ 114 32 + 1))) := by
  have hH0 := hH
  obtain ⟨hn, hu, hm, ht, hn5, hm6, ht10, hu1, hdk⟩ := hH0
  refine zMi_of RX9 rfl (by decide) rfl (ls := [some (zR 110), some (zI (a : Int)), some (zI (b : Int)), none, none, none]) rfl (fun hok0 => ?_)
  refine zA_aload_n dX9_touch_0 rfl ?_
  refine zA_iload_n dX9_touch_1 rfl ?_
  refine zA_cVb (st := []) kX9_187 t_110 rfl rfl (c_X9_isCoat (d + 2) (a : Int) μ (by omega)) rfl rfl rfl dX9_touch_2 (zfit0 (by omega) rfl) (fun v1 μ1 q1 => ?_)
  obtain ⟨b1, rfl⟩ := q1
  rw [hm] at b1
  refine zA_ifb_eq (tgt := 21) dX9_touch_5 rfl (fun h5 => False.elim (by have := b1.mpr (by omega); simp_all)) fun h5 => ?_
  refine zA_aload_n dX9_touch_8 rfl ?_
  refine zA_iload_n dX9_touch_9 rfl ?_
  refine zA_cVb (st := []) kX9_187 t_110 rfl rfl (c_X9_isCoat (d + 2) (b : Int) μ (by omega)) rfl rfl rfl dX9_touch_10 (zfit0 (by omega) rfl) (fun v2 μ2 q2 => ?_)
  obtain ⟨b2, rfl⟩ := q2
  rw [hm] at b2
  refine zA_ifb_eq (tgt := 21) dX9_touch_13 rfl (fun h13 => False.elim (by have := b2.mpr (by omega); simp_all)) fun h13 => ?_
  refine zA_iload_n dX9_touch_16 rfl ?_
  refine zA_iload_n dX9_touch_17 rfl ?_
  refine zA_icmp_ne (tgt := 24) dX9_touch_18 rfl (fun h18 => ?_) (fun h18 => False.elim (by omega))
  refine zA_aload_n dX9_touch_24 rfl ?_
  refine zA_cVv (st := []) kX9_199 t_110 rfl rfl (c_X9_remember (d + 3) z μ hz hz1) rfl rfl rfl dX9_touch_25 (zfit0 (by omega) rfl) (fun μ3 q3 => ?_)
  obtain ⟨q3a, q3b, q3c, q3d, q3e⟩ := q3
  refine zA_iconst dX9_touch_28 rfl ?_
  refine zA_istore_n (ls' := [some (zR 110), some (zI (a : Int)), some (zI (b : Int)), some (zI 0), none, none]) dX9_touch_29 rfl rfl ?_
  refine l_X9_touch1 d μ3 n a b _ (by omega) hn5 (by rw [q3b 0 (by decide)]; exact hn) (fun ν hv hfr => ?_) _ 0 rfl (by omega) μ3 (fun j hj => by omega) (fun _ _ => rfl)
  have E114 : ν 114 = μ 114 := by rw [hfr 114 (by decide), q3c 114 (by decide) (by decide)]
  refine zA_aload_n dX9_touch_60 rfl ?_
  refine zA_aload_n dX9_touch_61 rfl ?_
  refine zA_getR fX9_19 t_110 rfl dX9_touch_62 ?_
  refine zA_iload_n dX9_touch_65 rfl ?_
  refine zA_iload_n dX9_touch_66 rfl ?_
  refine zA_cVv (st := []) kX9_202 t_110 rfl rfl (c_X9_rubIn (d + 1) ν 114 n m t 33 u a b t_114 (by decide) (by decide) (hH.keep2 hfr q3b q3c) ha hb hab (by rw [E114]; exact hok)) rfl rfl rfl dX9_touch_67 (zfit0 (by omega) rfl) (fun μ4 q4 => ?_)
  obtain ⟨q4a, q4b⟩ := q4
  refine zA_aload_n dX9_touch_70 rfl ?_
  refine zA_getR fX9_19 t_110 rfl dX9_touch_71 ?_
  refine zA_bipush dX9_touch_74 rfl ?_
  refine zA_dup2 dX9_touch_76 rfl rfl ?_
  refine zA_ialE (w := μ4 114 32) (j := 32) t_114 (by omega) (by omega) dX9_touch_77 rfl rfl ?_
  refine zA_iconst dX9_touch_78 rfl ?_
  refine zA_iadd dX9_touch_79 ?_
  refine zA_iasE (j := 32) t_114 (by omega) (by omega) dX9_touch_80 rfl ?_
  refine zA_iconst dX9_touch_81 rfl ?_
  refine zA_istore_n (ls' := [some (zR 110), some (zI (a : Int)), some (zI (b : Int)), some (zI 0), none, none]) dX9_touch_82 rfl rfl ?_
  refine zA_iconst dX9_touch_83 rfl ?_
  refine zA_istore (ls' := [some (zR 110), some (zI (a : Int)), some (zI (b : Int)), some (zI 0), some (zI 0), none]) dX9_touch_84 rfl rfl ?_
  have hX : rOk n m (xchG u n (μ 114) (μ 114 30) a b) := xchG_ok hn5 hu1 ha hb hab hok
  have E4 : μ4 114 = xchG u n (μ 114) (μ 114 30) a b := by rw [q4a, E114]
  have f32 : (xchG u n (μ 114) (μ 114 30) a b) 32 = μ 114 32 := xchG_out (by omega) (by omega)
  have f31 : (xchG u n (μ 114) (μ 114 30) a b) 31 = μ 114 31 := xchG_out (by omega) (by omega)
  have f30 : (xchG u n (μ 114) (μ 114 30) a b) 30 = μ 114 30 := xchG_out (by omega) (by omega)
  refine l_X9_touch2 d _ n a b (xchG u n (μ 114) (μ 114 30) a b) (μ 114) _ (by omega) hn5 ?_ (fun j hj => ?_) (fun j hj => ?_) (fun j hj => ⟨(hX a ha).1 j hj, gOk_le (hX a ha) hj⟩) (fun j hj => ⟨(hok a ha).1 j hj, gOk_le (hok a ha) hj⟩) ⟨rfl, ⟨?_, fun q => ?_, fun q => ?_⟩, ⟨fun i hi => ?_, fun k k1 k2 k3 k4 k5 => ?_⟩, fun i hi => ?_, ?_, ?_, ?_⟩ _ 0 rfl (by omega)
  · rw [zup_k (by decide), q4b 110 (by decide) (by decide), hfr 110 (by decide), q3b 0 (by decide)]; exact hn
  · rw [zup_n (fun q => by omega), E4]
  · rw [zup_k (by decide), q4b 121 (by decide) (by decide), hv j hj, q3c 114 (by decide) (by decide)]
  · rw [zup_k (by decide), q4b 110 (by decide) (by decide), hfr 110 (by decide)]; exact q3a
  · rw [show zup μ4 114 32 (zwi (μ4 114 32 + 1)) 120 = μ4 120 from rfl, q4b 120 (by decide) (by decide), hfr 120 (by decide)]; exact q3d q
  · rw [show zup μ4 114 32 (zwi (μ4 114 32 + 1)) 120 = μ4 120 from rfl, q4b 120 (by decide) (by decide), hfr 120 (by decide)]; exact q3e q
  · rw [zup_k (by decide), q4b 110 (by decide) (by decide), hfr 110 (by decide)]; exact q3b i hi
  · funext i
    rw [zup_k k2, q4b k k2 k3, hfr k k5, q3c k k1 k4]
  · rw [zup_n (fun q => by omega), E4]
  · rw [zup_n (fun q => by omega), E4, f30]
  · rw [zup_n (fun q => by omega), E4, f31]
  · rw [zup_s, E4, f32]
theorem c_X9_touchN (d : Nat) (μ : zM) (m : Nat) (a b : Int) (hm : μ 110 2 = m) (hnp : ¬ ((0 ≤ a ∧ a < m) ∧ (0 ≤ b ∧ b < m) ∧ a ≠ b)) : zMet (d + 5) 0 yX9_touch cX9_touch 6 (some .int) TF μ [zR 110, zI a, zI b] (zPi (fun v ν => v = -1000000001 ∧ μ = ν)) := by
  refine zMi_of RX9 rfl (by decide) rfl (ls := [some (zR 110), some (zI a), some (zI b), none, none, none]) rfl (fun hok0 => ?_)
  refine zA_aload_n dX9_touch_0 rfl ?_
  refine zA_iload_n dX9_touch_1 rfl ?_
  refine zA_cVb (st := []) kX9_187 t_110 rfl rfl (c_X9_isCoat (d + 2) a μ (by omega)) rfl rfl rfl dX9_touch_2 (zfit0 (by omega) rfl) (fun v1 μ1 q1 => ?_)
  obtain ⟨b1, rfl⟩ := q1
  rw [hm] at b1
  refine zA_ifb_eq (tgt := 21) dX9_touch_5 rfl (fun h5 => ?_) (fun h5 => ?_)
  · refine zA_ldc cX9_194 dX9_touch_21 rfl ?_
    exact zA_ri dX9_touch_23 ⟨rfl, rfl⟩
  · refine zA_aload_n dX9_touch_8 rfl ?_
    refine zA_iload_n dX9_touch_9 rfl ?_
    refine zA_cVb (st := []) kX9_187 t_110 rfl rfl (c_X9_isCoat (d + 2) b μ (by omega)) rfl rfl rfl dX9_touch_10 (zfit0 (by omega) rfl) (fun v2 μ2 q2 => ?_)
    obtain ⟨b2, rfl⟩ := q2
    rw [hm] at b2
    refine zA_ifb_eq (tgt := 21) dX9_touch_13 rfl (fun h13 => ?_) (fun h13 => ?_)
    · refine zA_ldc cX9_194 dX9_touch_21 rfl ?_
      exact zA_ri dX9_touch_23 ⟨rfl, rfl⟩
    · refine zA_iload_n dX9_touch_16 rfl ?_
      refine zA_iload_n dX9_touch_17 rfl ?_
      refine zA_icmp_ne (tgt := 24) dX9_touch_18 rfl (fun h18 => False.elim (hnp ⟨b1.mp (by simpa using h5), b2.mp (by simpa using h13), h18⟩)) fun h18 => ?_
      refine zA_ldc cX9_194 dX9_touch_21 rfl ?_
      exact zA_ri dX9_touch_23 ⟨rfl, rfl⟩
theorem pr_touch (μ : zM) (a b : Int) (n m t : Nat) (u : Int) (hI : zInv μ n m t u) : zPair yX8_touch cX8_touch 5 yX9_touch cX9_touch 6 [zI a, zI b] μ := by
  have hI0 := hI
  obtain ⟨hh, hst, ht, hmi, h1, h2, h3, ⟨z, x, a1, a2, a3, a4, a5, a6⟩⟩ := hI
  obtain ⟨hn, hu, hm, ht0, hn5, hm6, ht10, hu1, hdk⟩ := hh.1
  have hmM := hh.2.1.2.2.1
  have hrow : ∀ i, lv n m i → μ 53 i = μ 114 i := fun i hi => by have := hst.1 i hi; rw [Nat.zero_add] at this; exact this
  by_cases hb : (0 ≤ a ∧ a < m) ∧ (0 ≤ b ∧ b < m) ∧ a ≠ b
  · obtain ⟨a', rfl⟩ := Int.eq_ofNat_of_zero_le hb.1.1
    obtain ⟨b', rfl⟩ := Int.eq_ofNat_of_zero_le hb.2.1.1
    refine zMi_mono (c_X8_touchY 14 μ n m t x z a' b' u hh.1 (by omega) (by omega) (by omega) hst.2.1 a2 a1 a5 a3) (fun v ν hv => ?_)
    obtain ⟨rfl, v1, v2, v3, v4, v5, v6⟩ := hv
    have v2' : ∀ k, ¬ cScr k → k ≠ 52 → k ≠ 53 → k ≠ 54 → ¬ (56 ≤ k ∧ k ≤ 95) → ν k = μ k := v2
    unfold cScr at v2'
    have e110 : ν 110 = μ 110 := v2' 110 (by omega) (by omega) (by omega) (by omega) (by omega)
    have e112 : ν 112 = μ 112 := v2' 112 (by omega) (by omega) (by omega) (by omega) (by omega)
    have e113 : ν 113 = μ 113 := v2' 113 (by omega) (by omega) (by omega) (by omega) (by omega)
    have e114 : ν 114 = μ 114 := v2' 114 (by omega) (by omega) (by omega) (by omega) (by omega)
    refine zMi_mono (c_X9_touchY 15 ν n m t z a' b' u (hh.2.1.keep e110 e112 e113) (by omega) (by omega) (by omega) (by rw [e114]; exact rOk_congrL hn5 hrow hst.2.1) a1 (by rw [e110]; exact a4)) (fun w ξ hw => ?_)
    obtain ⟨rfl, w1, w2, w3, w4, w5, w6⟩ := hw
    have hg : μ 52 1 = μ 114 30 := hst.2.2.1
    have hX : ∀ i, lv n m i → xchG u n (μ 53) (μ 52 1) a' b' i = xchG u n (ν 114) (ν 114 30) a' b' i := fun i hi => by
      rw [e114, hg]
      exact xchG_congrL hn5 (by omega) (by omega) hrow i hi
    refine ⟨?_, n, m, t, u, zInv_deed2 hI0 a2 a1 a6 v1 v2 w1 w2 (fun i hi => by rw [v3, w3 i (by omega)]; exact hX i hi) (by rw [v3]; exact xchG_ok hn5 hu1 (by omega) (by omega) (by omega) hst.2.1) (by rw [v4, w4, e114]; exact hg) (by rw [v5, w5, e114]; exact hst.2.2.2.1) (by rw [v6, w6, e114]; rw [show μ 52 3 = μ 114 32 from hst.2.2.2.2])⟩
    refine gS_congr (fun j hj => ?_)
    unfold tDf
    rw [hX _ (by omega), hrow _ (by omega), e114]
  · refine zMi_mono (c_X8_touchN 14 μ m a b hm hb) (fun v ν hv => ?_)
    obtain ⟨rfl, rfl⟩ := hv
    refine zMi_mono (c_X9_touchN 15 μ m a b hmM hb) (fun w ξ hw => ?_)
    obtain ⟨rfl, rfl⟩ := hw
    exact ⟨rfl, n, m, t, u, hI0⟩
