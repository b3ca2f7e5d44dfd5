/-! ===== drift ===== -/
def eA (m s : Int) : Int := dr s / 65536 % m
def eB (m s : Int) : Int := if eA m s + (eA (m - 1) (dr s) + 1) < m then eA m s + (eA (m - 1) (dr s) + 1) else eA m s + (eA (m - 1) (dr s) + 1) - m
def eS (m s : Int) : Int := if eA 9 (dr (dr s)) = 0 then dr (dr (dr (dr s))) else dr (dr (dr s))
def eR (u : Int) (n : Nat) (m g dg : Int) (ow row : Nat → Int) (s : Int) : Nat → Int := if eA 9 (dr (dr s)) = 0 ∧ ¬ zbit dg (eA m (dr (dr (dr s)))) = 1 then wRow (xchG u n row g (eA m s).toNat (eB m s).toNat) ow (eA m (dr (dr (dr s)))).toNat else xchG u n row g (eA m s).toNat (eB m s).toNat
def eO (m dg so s : Int) : Int := if eA 9 (dr (dr s)) = 0 ∧ ¬ zbit dg (eA m (dr (dr (dr s)))) = 1 then zwi (so + 1) else so
theorem eA_rg {m : Int} (s : Int) (hm : 0 < m) : 0 ≤ eA m s ∧ eA m s < m := ⟨Int.emod_nonneg _ (by omega), Int.emod_lt_of_pos _ hm⟩
theorem eB_rg {m : Int} (s : Int) (hm : 2 ≤ m) : 0 ≤ eB m s ∧ eB m s < m ∧ eA m s ≠ eB m s := by
  have h1 := eA_rg s (show 0 < m by omega)
  have h2 := eA_rg (dr s) (show 0 < m - 1 by omega)
  unfold eB
  split <;> omega
theorem eB_mod {m s a b : Int} (hm : 2 ≤ m) (ha : a = eA m s) (hb : b = eA (m - 1) (dr s)) : (a + 1 + b) % m = eB m s := by
  have h1 := eA_rg s (show 0 < m by omega)
  have h2 := eA_rg (dr s) (show 0 < m - 1 by omega)
  rw [← ha] at h1
  rw [← hb] at h2
  unfold eB
  rw [← ha, ← hb]
  split
  · rw [Int.emod_eq_of_lt (by omega) (by omega)]; omega
  · rw [← Int.sub_emod_right, Int.emod_eq_of_lt (by omega) (by omega)]; omega
theorem eS_rg (m s : Int) : 0 ≤ eS m s := by
  unfold eS
  split
  · exact (dr_rg _).1
  · exact (dr_rg _).1
theorem eR_ok {u : Int} {n m : Nat} {g dg : Int} {ow row : Nat → Int} (s : Int) (hn : n ≤ 5) (hm : 2 ≤ m) (hu : 0 ≤ u ∧ u ≤ 30) (h : rOk n m row) (ho : rOk n m ow) : rOk n m (eR u n m g dg ow row s) := by
  have h1 := eA_rg s (show (0 : Int) < m by omega)
  have h2 := eB_rg s (show (2 : Int) ≤ m by omega)
  have hx : rOk n m (xchG u n row g (eA m s).toNat (eB m s).toNat) := xchG_ok hn hu (by omega) (by omega) (by omega) h
  unfold eR
  split
  · exact wRow_ok hn hx ho
  · exact hx
theorem eR_congr {u : Int} {n m : Nat} {g dg : Int} {ow row ow' row' : Nat → Int} (s : Int) (hn : n ≤ 5) (hm : 2 ≤ m) (hm6 : m ≤ 6) (h : ∀ i, i < 30 → row i = row' i) (ho : ∀ i, i < 30 → ow i = ow' i) : ∀ i, i < 30 → eR u n m g dg ow row s i = eR u n m g dg ow' row' s i := by
  have h1 := eA_rg s (show (0 : Int) < m by omega)
  have h2 := eB_rg s (show (2 : Int) ≤ m by omega)
  have hx := xchG_congr (u := u) (g := g) (a := (eA m s).toNat) (b := (eB m s).toNat) hn (by omega) (by omega) h
  intro i hi
  unfold eR
  split
  · exact wRow_congr hx ho i hi
  · exact hx i hi
def eSs (m s : Int) : Nat → Int
  | 0 => s
  | k + 1 => eS m (eSs m s k)
def eRs (u : Int) (n : Nat) (m g dg : Int) (ow row : Nat → Int) (s : Int) : Nat → Nat → Int
  | 0 => row
  | k + 1 => eR u n m g dg ow (eRs u n m g dg ow row s k) (eSs m s k)
def eOs (m dg so s : Int) : Nat → Int
  | 0 => so
  | k + 1 => eO m dg (eOs m dg so s k) (eSs m s k)
def eTs (tc : Int) : Nat → Int
  | 0 => tc
  | k + 1 => zwi (eTs tc k + 1)
theorem eSs_rg {m s : Int} (h : 0 ≤ s) : ∀ k, 0 ≤ eSs m s k
  | 0 => h
  | k + 1 => eS_rg _ _
theorem eRs_ok {u : Int} {n m : Nat} {g dg : Int} {ow row : Nat → Int} (s : Int) (hn : n ≤ 5) (hm : 2 ≤ m) (hu : 0 ≤ u ∧ u ≤ 30) (h : rOk n m row) (ho : rOk n m ow) : ∀ k, rOk n m (eRs u n m g dg ow row s k)
  | 0 => h
  | k + 1 => eR_ok _ hn hm hu (eRs_ok s hn hm hu h ho k) ho
theorem eRs_congr {u : Int} {n m : Nat} {g dg : Int} {ow row ow' row' : Nat → Int} (s : Int) (hn : n ≤ 5) (hm : 2 ≤ m) (hm6 : m ≤ 6) (h : ∀ i, i < 30 → row i = row' i) (ho : ∀ i, i < 30 → ow i = ow' i) : ∀ k i, i < 30 → eRs u n m g dg ow row s k i = eRs u n m g dg ow' row' s k i
  | 0, i, hi => h i hi
  | k + 1, i, hi => eR_congr _ hn hm hm6 (eRs_congr s hn hm hm6 h ho k) ho i hi
theorem eR_congrL {u : Int} {n m : Nat} {g dg : Int} {ow row ow' row' : Nat → Int} (s : Int) (hn : n ≤ 5) (hm : 2 ≤ m) (h : ∀ i, lv n m i → row i = row' i) (ho : ∀ i, lv n m i → ow i = ow' i) : ∀ i, lv n m i → eR u n m g dg ow row s i = eR u n m g dg ow' row' s i := by
  have h1 := eA_rg s (show (0 : Int) < m by omega)
  have h2 := eB_rg s (show (2 : Int) ≤ m by omega)
  have hx := xchG_congrL (u := u) (g := g) (a := (eA m s).toNat) (b := (eB m s).toNat) (m := m) hn (by omega) (by omega) h
  intro i hi
  unfold eR
  split
  · exact wRow_congr hx ho i hi
  · exact hx i hi
theorem eRs_congrL {u : Int} {n m : Nat} {g dg : Int} {ow row ow' row' : Nat → Int} (s : Int) (hn : n ≤ 5) (hm : 2 ≤ m) (h : ∀ i, lv n m i → row i = row' i) (ho : ∀ i, lv n m i → ow i = ow' i) : ∀ k i, lv n m i → eRs u n m g dg ow row s k i = eRs u n m g dg ow' row' s k i
  | 0, i, hi => h i hi
  | k + 1, i, hi => eR_congrL _ hn hm (eRs_congrL s hn hm h ho k) ho i hi
theorem c_X8_drawE (d : Nat) (μ : zM) (k s : Int) (hk : 0 < k) (h : μ 0 14 = s) (hs : 0 ≤ s) : zMet (d + 1) 0 yX8_drawOf cX8_drawOf 2 (some .int) TF μ [zR 0, zI k] (zPi (fun v ν => v = eA k s ∧ zup μ 0 14 (dr s) = ν)) := by
  subst h
  exact c_X8_drawOf d μ k hk hs
theorem c_X9_drawE (d : Nat) (μ : zM) (k s : Int) (hk : 0 < k) (h : μ 110 9 = s) (hs : 0 ≤ s) : zMet (d + 1) 0 yX9_draw cX9_draw 2 (some .int) TF μ [zR 110, zI k] (zPi (fun v ν => v = eA k s ∧ zup μ 110 9 (dr s) = ν)) := by
  subst h
  exact c_X9_draw d μ k hk hs
theorem c_X8_driftStep (d : Nat) (μ : zM) (n m t : Nat) (u : Int) (hH : zHs μ n m t u) (hok : rOk n m (μ 53)) (hm2 : 2 ≤ m) (hs : 0 ≤ μ 0 14) : zMet (d + 5) 0 yX8_driftStep cX8_driftStep 5 none TF μ [zR 0] (zPv (fun ν => ν 53 = eR u n m (μ 52 1) (μ 1 10) (μ 2) (μ 53) (μ 0 14) ∧ ν 0 14 = eS m (μ 0 14) ∧ ν 52 2 = eO m (μ 1 10) (μ 52 2) (μ 0 14) ∧ ν 52 3 = zwi (μ 52 3 + 1) ∧ (∀ i, i ≠ 2 → i ≠ 3 → ν 52 i = μ 52 i) ∧ (∀ i, i ≠ 14 → ν 0 i = μ 0 i) ∧ ∀ k, k ≠ 0 → k ≠ 52 → k ≠ 53 → k ≠ 5 → k ≠ 6 → k ≠ 7 → ν k = μ k)) := by
  have hH0 := hH
  obtain ⟨hn, hu, hm, ht, hn5, hm6, ht10, hu1, hdk⟩ := hH0
  refine zMv_of RX8 rfl (by decide) rfl (ls := [some (zR 0), none, none, none, none]) rfl (fun hok0 => ?_)
  have hk2 : ∀ a x b : Int, a = eA m (μ 0 14) → b = eB m (μ 0 14) → zA RX8 cX8_driftStep 5 (zRm (d + 5) 0) zN0 TF 0 (zup (zup μ 0 14 (dr (μ 0 14))) 0 14 (dr (dr (μ 0 14)))) 58 [some (zR 0), some (zI a), some (zI (x + 1)), none, none] [zI b] (zPv (fun ν => ν 53 = eR u n m (μ 52 1) (μ 1 10) (μ 2) (μ 53) (μ 0 14) ∧ ν 0 14 = eS m (μ 0 14) ∧ ν 52 2 = eO m (μ 1 10) (μ 52 2) (μ 0 14) ∧ ν 52 3 = zwi (μ 52 3 + 1) ∧ (∀ i, i ≠ 2 → i ≠ 3 → ν 52 i = μ 52 i) ∧ (∀ i, i ≠ 14 → ν 0 i = μ 0 i) ∧ ∀ k, k ≠ 0 → k ≠ 52 → k ≠ 53 → k ≠ 5 → k ≠ 6 → k ≠ 7 → ν k = μ k)) := by
    intro a x b e1 hbe
    have ra := eA_rg (μ 0 14) (show (0 : Int) < m by omega)
    have rb := eB_rg (μ 0 14) (show (2 : Int) ≤ m by omega)
    rw [← e1, ← hbe] at rb
    rw [← e1] at ra
    refine zA_istore_n (ls' := [some (zR 0), some (zI a), some (zI (x + 1)), some (zI b), none]) dX8_driftStep_58 rfl rfl ?_
    refine zA_aload_n dX8_driftStep_59 rfl ?_
    refine zA_iload_n dX8_driftStep_60 rfl ?_
    refine zA_iload_n dX8_driftStep_61 rfl ?_
    refine zA_cVv (st := []) kX8_176 t_0 rfl rfl (c_X8_touchNow d (zup (zup μ 0 14 (dr (μ 0 14))) 0 14 (dr (dr (μ 0 14)))) n m t u a b (hH.keep rfl rfl rfl) (by omega) (by omega) (by omega) hok) rfl rfl rfl dX8_driftStep_62 (zfit0 (by omega) rfl) (fun μ1 q1 => ?_)
    obtain ⟨qa, qb, qc, qd⟩ := q1
    refine zA_aload_n dX8_driftStep_65 rfl ?_
    refine zA_bipush dX8_driftStep_66 rfl ?_
    refine zA_cVi (st := []) kX8_297 t_0 rfl rfl (c_X8_drawE (d + 3) μ1 9 (dr (dr (μ 0 14))) (by omega) (by rw [qd 0 (by decide) (by decide) (by decide) (by decide) (by decide)]; exact zup_s) (dr_rg _).1) rfl rfl rfl dX8_driftStep_68 (zfit0 (by omega) rfl) (fun v2 μ2 q2 => ?_)
    obtain ⟨e3, rfl⟩ := q2
    have re3 := eA_rg (dr (dr (μ 0 14))) (show (0 : Int) < 9 by omega)
    rw [← e3] at re3
    refine zA_if_ne (tgt := 108) dX8_driftStep_71 rfl (fun h71 => ?_) (fun h71 => ?_)
    · refine zA_rv dX8_driftStep_108 ⟨?_, ?_, ?_, ?_, fun i i2 i3 => ?_, fun i hi => ?_, fun k k1 k2 k3 k4 k5 k6 => ?_⟩
      · rw [eR, if_neg (fun q => h71 (by rw [e3]; exact q.1)), ← hbe, ← e1]
        exact qa
      · rw [zup_s, eS, if_neg (fun q => h71 (by rw [e3]; exact q))]
      · rw [eO, if_neg (fun q => h71 (by rw [e3]; exact q.1))]
        exact qc 2 (by decide)
      · exact qb
      · exact qc i i3
      · rw [zup_n (fun q => hi q.2), qd 0 (by decide) (by decide) (by decide) (by decide) (by decide), zup_n (fun q => hi q.2), zup_n (fun q => hi q.2)]
      · funext i
        rw [zup_k k1, qd k k2 k3 k4 k5 k6, zup_k k1, zup_k k1]
    · refine zA_aload_n dX8_driftStep_74 rfl ?_
      refine zA_aload_n dX8_driftStep_75 rfl ?_
      refine zA_getR fX8_12 t_0 rfl dX8_driftStep_76 ?_
      refine zA_getE (w := (m : Int)) fX8_111 t_1 dX8_driftStep_79 (by rw [zup_k (by decide)]; exact (by rw [qd 1 (by decide) (by decide) (by decide) (by decide) (by decide)]; exact hm)) ?_
      refine zA_cVi (st := []) kX8_297 t_0 rfl rfl (c_X8_drawE (d + 3) (zup μ1 0 14 (dr (dr (dr (μ 0 14))))) (m : Int) (dr (dr (dr (μ 0 14)))) (by omega) zup_s (dr_rg _).1) rfl rfl rfl dX8_driftStep_82 (zfit0 (by omega) rfl) (fun v3 μ3 q3 => ?_)
      obtain ⟨e4, rfl⟩ := q3
      have re4 := eA_rg (dr (dr (dr (μ 0 14)))) (show (0 : Int) < (m : Int) by omega)
      rw [← e4] at re4
      refine zA_istore (ls' := [some (zR 0), some (zI a), some (zI (x + 1)), some (zI b), some (zI v3)]) dX8_driftStep_85 rfl rfl ?_
      refine zA_aload_n dX8_driftStep_87 rfl ?_
      refine zA_getR fX8_12 t_0 rfl dX8_driftStep_88 ?_
      refine zA_getE (w := μ 1 10) fX8_129 t_1 dX8_driftStep_91 (by rw [zup_k (by decide), zup_k (by decide)]; exact (by rw [qd 1 (by decide) (by decide) (by decide) (by decide) (by decide)]; rfl)) ?_
      refine zA_iload dX8_driftStep_94 rfl ?_
      refine zA_cSb (st := []) kX8_189 (c_X8_isIn (d + 3) (μ 1 10) v3 (zup (zup μ1 0 14 (dr (dr (dr (μ 0 14))))) 0 14 (dr (dr (dr (dr (μ 0 14))))))) rfl rfl rfl dX8_driftStep_96 (zfit0 (by omega) rfl) (fun v4 μ4 q4 => ?_)
      obtain ⟨b4, rfl⟩ := q4
      refine zA_ifb_ne (tgt := 108) dX8_driftStep_99 rfl (fun h99 => ?_) (fun h99 => ?_)
      · refine zA_rv dX8_driftStep_108 ⟨?_, ?_, ?_, ?_, fun i i2 i3 => ?_, fun i hi => ?_, fun k k1 k2 k3 k4 k5 k6 => ?_⟩
        · rw [eR, if_neg (fun q => q.2 (by rw [← e4]; exact b4.mp h99)), ← hbe, ← e1]
          exact qa
        · rw [zup_s, eS, if_pos (by rw [← e3]; omega)]
        · rw [eO, if_neg (fun q => q.2 (by rw [← e4]; exact b4.mp h99))]
          exact qc 2 (by decide)
        · exact qb
        · exact qc i i3
        · rw [zup_n (fun q => hi q.2), zup_n (fun q => hi q.2), qd 0 (by decide) (by decide) (by decide) (by decide) (by decide), zup_n (fun q => hi q.2), zup_n (fun q => hi q.2)]
        · funext i
          rw [zup_k k1, zup_k k1, qd k k2 k3 k4 k5 k6, zup_k k1, zup_k k1]
      · refine zA_aload_n dX8_driftStep_102 rfl ?_
        refine zA_iload dX8_driftStep_103 rfl ?_
        refine zA_cVv (st := []) kX8_193 t_0 rfl rfl (c_X8_washNow (d + 2) (zup (zup μ1 0 14 (dr (dr (dr (μ 0 14))))) 0 14 (dr (dr (dr (dr (μ 0 14)))))) v3 (by omega)) rfl rfl rfl dX8_driftStep_105 (zfit0 (by omega) rfl) (fun μ5 q5 => ?_)
        obtain ⟨wa, wb, wc, wd⟩ := q5
        have hW : eA 9 (dr (dr (μ 0 14))) = 0 ∧ ¬ zbit (μ 1 10) (eA m (dr (dr (dr (μ 0 14))))) = 1 := ⟨by rw [← e3]; omega, fun q => by rw [← e4] at q; have := b4.mpr q; simp_all⟩
        refine zA_rv dX8_driftStep_108 ⟨?_, ?_, ?_, ?_, fun i i2 i3 => ?_, fun i hi => ?_, fun k k1 k2 k3 k4 k5 k6 => ?_⟩
        · rw [eR, if_pos hW, ← hbe, ← e1, ← e4, wa]
          have E : μ1 53 = xchG u n (μ 53) (μ 52 1) a.toNat b.toNat := qa
          have E2 : μ1 2 = μ 2 := qd 2 (by decide) (by decide) (by decide) (by decide) (by decide)
          show wRow (μ1 53) (μ1 2) _ = _
          rw [E, E2]
        · rw [wd 0 (by decide) (by decide), zup_s, eS, if_pos hW.1]
        · rw [eO, if_pos hW, wb]
          have E : μ1 52 2 = μ 52 2 := qc 2 (by decide)
          show zwi (μ1 52 2 + 1) = _
          rw [E]
        · rw [wc 3 (by decide)]
          exact qb
        · rw [wc i i2]
          exact qc i i3
        · rw [wd 0 (by decide) (by decide), zup_n (fun q => hi q.2), zup_n (fun q => hi q.2), qd 0 (by decide) (by decide) (by decide) (by decide) (by decide), zup_n (fun q => hi q.2), zup_n (fun q => hi q.2)]
        · funext i
          rw [wd k k2 k3, zup_k k1, zup_k k1, qd k k2 k3 k4 k5 k6, zup_k k1, zup_k k1]
  refine zA_aload_n dX8_driftStep_0 rfl ?_
  refine zA_aload_n dX8_driftStep_1 rfl ?_
  refine zA_getR fX8_12 t_0 rfl dX8_driftStep_2 ?_
  refine zA_getE (w := (m : Int)) fX8_111 t_1 dX8_driftStep_5 hm ?_
  refine zA_cVi (st := []) kX8_297 t_0 rfl rfl (c_X8_drawE (d + 3) μ (m : Int) (μ 0 14) (by omega) rfl hs) rfl rfl rfl dX8_driftStep_8 (zfit0 (by omega) rfl) (fun v1 μ1 q1 => ?_)
  obtain ⟨e1, rfl⟩ := q1
  have re1 := eA_rg (μ 0 14) (show (0 : Int) < (m : Int) by omega)
  rw [← e1] at re1
  refine zA_istore_n (ls' := [some (zR 0), some (zI v1), none, none, none]) dX8_driftStep_11 rfl rfl ?_
  refine zA_aload_n dX8_driftStep_12 rfl ?_
  refine zA_aload_n dX8_driftStep_13 rfl ?_
  refine zA_getR fX8_12 t_0 rfl dX8_driftStep_14 ?_
  refine zA_getE (w := (m : Int)) fX8_111 t_1 dX8_driftStep_17 (by rw [zup_k (by decide)]; exact hm) ?_
  refine zA_iconst dX8_driftStep_20 rfl ?_
  refine zA_isubB dX8_driftStep_21 ⟨by omega, by omega⟩ ?_
  refine zA_cVi (st := []) kX8_297 t_0 rfl rfl (c_X8_drawE (d + 3) (zup μ 0 14 (dr (μ 0 14))) ((m : Int) - 1) (dr (μ 0 14)) (by omega) zup_s (dr_rg _).1) rfl rfl rfl dX8_driftStep_22 (zfit0 (by omega) rfl) (fun v2 μ2 q2 => ?_)
  obtain ⟨e2, rfl⟩ := q2
  have re2 := eA_rg (dr (μ 0 14)) (show (0 : Int) < ((m : Int) - 1) by omega)
  rw [← e2] at re2
  refine zA_iconst dX8_driftStep_25 rfl ?_
  refine zA_iaddB dX8_driftStep_26 ⟨by omega, by omega⟩ ?_
  refine zA_istore_n (ls' := [some (zR 0), some (zI v1), some (zI (v2 + 1)), none, none]) dX8_driftStep_27 rfl rfl ?_
  refine zA_iload_n dX8_driftStep_28 rfl ?_
  refine zA_iload_n dX8_driftStep_29 rfl ?_
  refine zA_iaddB dX8_driftStep_30 ⟨by omega, by omega⟩ ?_
  refine zA_aload_n dX8_driftStep_31 rfl ?_
  refine zA_getR fX8_12 t_0 rfl dX8_driftStep_32 ?_
  refine zA_getE (w := (m : Int)) fX8_111 t_1 dX8_driftStep_35 (by rw [zup_k (by decide), zup_k (by decide)]; exact hm) ?_
  refine zA_icmp_ge (tgt := 47) dX8_driftStep_38 rfl (fun h38 => ?_) (fun h38 => ?_)
  · refine zA_iload_n dX8_driftStep_47 rfl ?_
    refine zA_iload_n dX8_driftStep_48 rfl ?_
    refine zA_iaddB dX8_driftStep_49 ⟨by omega, by omega⟩ ?_
    refine zA_aload_n dX8_driftStep_50 rfl ?_
    refine zA_getR fX8_12 t_0 rfl dX8_driftStep_51 ?_
    refine zA_getE (w := (m : Int)) fX8_111 t_1 dX8_driftStep_54 (by rw [zup_k (by decide), zup_k (by decide)]; exact hm) ?_
    refine zA_isubB dX8_driftStep_57 ⟨by omega, by omega⟩ ?_
    exact hk2 v1 v2 ((v1 + (v2 + 1)) - (m : Int)) e1 (by unfold eB; rw [← e1, ← e2]; first | rw [if_pos (by omega)] | rw [if_neg (by omega)])
  · refine zA_iload_n dX8_driftStep_41 rfl ?_
    refine zA_iload_n dX8_driftStep_42 rfl ?_
    refine zA_iaddB dX8_driftStep_43 ⟨by omega, by omega⟩ ?_
    refine zA_goto (tgt := 58) dX8_driftStep_44 rfl ?_
    exact hk2 v1 v2 (v1 + (v2 + 1)) e1 (by unfold eB; rw [← e1, ← e2]; first | rw [if_pos (by omega)] | rw [if_neg (by omega)])
theorem l_X8_drift (d : Nat) (μ : zM) (n m t y : Nat) (u : Int) (hH : zHs μ n m t u) (hok : rOk n m (μ 53)) (hoo : rOk n m (μ 2)) (hm2 : 2 ≤ m) (hs : 0 ≤ μ 0 14) (hy : y ≤ 99) : ∀ (t0 k : Nat), y - k = t0 → k ≤ y → ∀ ν : zM, (ν 53 = (eRs u n m (μ 52 1) (μ 1 10) (μ 2) (μ 53) (μ 0 14)) k ∧ ν 0 14 = eSs m (μ 0 14) k ∧ ν 52 2 = eOs m (μ 1 10) (μ 52 2) (μ 0 14) k ∧ ν 52 3 = eTs (μ 52 3) k ∧ (∀ i, i ≠ 2 → i ≠ 3 → ν 52 i = μ 52 i) ∧ (∀ i, i ≠ 14 → ν 0 i = μ 0 i) ∧ ∀ k, k ≠ 0 → k ≠ 52 → k ≠ 53 → k ≠ 5 → k ≠ 6 → k ≠ 7 → ν k = μ k) → zA RX8 cX8_drift 3 (zRm (d + 6) 0) zN0 TF 0 ν 41 [some (zR 0), some (zI (y : Int)), some (zI (k : Int))] [] (zPi (fun v ξ => v = eTs (μ 52 3) y ∧ ξ 53 = (eRs u n m (μ 52 1) (μ 1 10) (μ 2) (μ 53) (μ 0 14)) y ∧ ξ 0 14 = eSs m (μ 0 14) y ∧ ξ 52 2 = eOs m (μ 1 10) (μ 52 2) (μ 0 14) y ∧ ξ 52 3 = eTs (μ 52 3) y ∧ (∀ i, i ≠ 2 → i ≠ 3 → ξ 52 i = μ 52 i) ∧ (∀ i, i ≠ 14 → ξ 0 i = μ 0 i) ∧ ∀ k, k ≠ 0 → k ≠ 52 → k ≠ 53 → k ≠ 5 → k ≠ 6 → k ≠ 7 → ξ k = μ k)) := by
  have hH0 := hH
  obtain ⟨hn, hu, hm, ht, hn5, hm6, ht10, hu1, hdk⟩ := hH0
  intro t0
  induction t0 using Nat.strongRecOn with
  | ind t0 ih =>
    intro k hk hky ν hc
    have hc0 := hc
    obtain ⟨c1, c2, c3, c4, c5, c6, c7⟩ := hc0
    refine zA_iload_n dX8_drift_41 rfl ?_
    refine zA_iload_n dX8_drift_42 rfl ?_
    refine zA_icmp_ge (tgt := 56) dX8_drift_43 rfl (fun h43 => ?_) (fun h43 => ?_)
    · refine zA_aload_n dX8_drift_56 rfl ?_
      refine zA_getR fX8_47 t_0 rfl dX8_drift_57 ?_
      refine zA_getE (w := eTs (μ 52 3) y) fX8_135 t_52 dX8_drift_60 (by rw [c4, show k = y by omega]) ?_
      exact zA_ri dX8_drift_63 ⟨rfl, (show y = k by omega) ▸ hc⟩
    · refine zA_aload_n dX8_drift_46 rfl ?_
      refine zA_cVv (st := []) kX8_200 t_0 rfl rfl (c_X8_driftStep d ν n m t u (hH.keep (c7 1 (by decide) (by decide) (by decide) (by decide) (by decide) (by decide)) (c7 3 (by decide) (by decide) (by decide) (by decide) (by decide) (by decide)) (c7 4 (by decide) (by decide) (by decide) (by decide) (by decide) (by decide))) (by rw [c1]; exact eRs_ok _ hn5 hm2 hu1 hok hoo k) hm2 (by rw [c2]; exact eSs_rg hs k)) rfl rfl rfl dX8_drift_47 (zfit0 (by omega) rfl) (fun μ1 q1 => ?_)
      obtain ⟨s1, s2, s3, s4, s5, s6, s7⟩ := q1
      refine zA_iincB (ls' := [some (zR 0), some (zI (y : Int)), some (zI ((k : Int) + 1))]) dX8_drift_50 rfl rfl ⟨by omega, by omega⟩ rfl ?_
      refine zA_goto (tgt := 41) dX8_drift_53 rfl ?_
      refine ih _ (by omega) (k + 1) rfl (by omega) μ1 ⟨?_, ?_, ?_, ?_, fun i h2 h3 => by rw [s5 i h2 h3, c5 i h2 h3], fun i hi => by rw [s6 i hi, c6 i hi], fun k k1 k2 k3 k4 k5 k6 => by rw [s7 k k1 k2 k3 k4 k5 k6, c7 k k1 k2 k3 k4 k5 k6]⟩
      · rw [s1, c1, c2, c5 1 (by decide) (by decide), c7 1 (by decide) (by decide) (by decide) (by decide) (by decide) (by decide), c7 2 (by decide) (by decide) (by decide) (by decide) (by decide) (by decide)]; rfl
      · rw [s2, c2]; rfl
      · rw [s3, c3, c2, c7 1 (by decide) (by decide) (by decide) (by decide) (by decide) (by decide)]; rfl
      · rw [s4, c4]; rfl
theorem c_X8_driftY (d : Nat) (μ : zM) (n m t x z y : Nat) (u : Int) (hH : zHs μ n m t u) (hok : rOk n m (μ 53)) (hoo : rOk n m (μ 2)) (hm2 : 2 ≤ m) (hs : 0 ≤ μ 0 14) (hy1 : 1 ≤ y) (hy : y ≤ 99) (hx : x < 20) (hz : z ≤ 20) (hx1 : μ 54 1 = x) (hz1 : μ 54 2 = z) : zMet (d + 6) 0 yX8_drift cX8_drift 3 (some .int) TF μ [zR 0, zI (y : Int)] (zPi (fun v ν => ∃ ξ, dC μ ξ x z ∧ (∀ k, k ≠ 54 → ¬ (56 ≤ k ∧ k ≤ 95) → ξ k = μ k) ∧ v = eTs (ξ 52 3) y ∧ ν 53 = (eRs u n m (ξ 52 1) (ξ 1 10) (ξ 2) (ξ 53) (ξ 0 14)) y ∧ ν 0 14 = eSs m (ξ 0 14) y ∧ ν 52 2 = eOs m (ξ 1 10) (ξ 52 2) (ξ 0 14) y ∧ ν 52 3 = eTs (ξ 52 3) y ∧ (∀ i, i ≠ 2 → i ≠ 3 → ν 52 i = ξ 52 i) ∧ (∀ i, i ≠ 14 → ν 0 i = ξ 0 i) ∧ ∀ k, k ≠ 0 → k ≠ 52 → k ≠ 53 → k ≠ 5 → k ≠ 6 → k ≠ 7 → ν k = ξ k)) := by
  have hH0 := hH
  obtain ⟨hn, hu, hm, ht, hn5, hm6, ht10, hu1, hdk⟩ := hH0
  refine zMi_of RX8 rfl (by decide) rfl (ls := [some (zR 0), some (zI (y : Int)), none]) rfl (fun hok0 => ?_)
  refine zA_iload_n dX8_drift_0 rfl ?_
  refine zA_iconst dX8_drift_1 rfl ?_
  refine zA_icmp_lt (tgt := 11) dX8_drift_2 rfl (fun h2 => False.elim (by omega)) fun h2 => ?_
  refine zA_iload_n dX8_drift_5 rfl ?_
  refine zA_bipush dX8_drift_6 rfl ?_
  refine zA_icmp_le (tgt := 14) dX8_drift_8 rfl (fun h8 => ?_) (fun h8 => False.elim (by omega))
  refine zA_aload_n dX8_drift_14 rfl ?_
  refine zA_getR fX8_12 t_0 rfl dX8_drift_15 ?_
  refine zA_getE (w := (m : Int)) fX8_111 t_1 dX8_drift_18 hm ?_
  refine zA_iconst dX8_drift_21 rfl ?_
  refine zA_icmp_ge (tgt := 28) dX8_drift_22 rfl (fun h22 => ?_) (fun h22 => False.elim (by omega))
  refine zA_aload_n dX8_drift_28 rfl ?_
  refine zA_getR fX8_54 t_0 rfl dX8_drift_29 ?_
  refine zA_aload_n dX8_drift_32 rfl ?_
  refine zA_getR fX8_47 t_0 rfl dX8_drift_33 ?_
  refine zA_cVv (st := []) kX8_168 t_54 rfl rfl (c_X1_remember (d + 2) x z μ hx hz hx1 hz1) rfl rfl rfl dX8_drift_36 (zfit0 (by omega) rfl) (fun μ1 q1 => ?_)
  obtain ⟨q1a, q1b⟩ := dC_rem hx q1
  refine zA_iconst dX8_drift_39 rfl ?_
  refine zA_istore_n (ls' := [some (zR 0), some (zI (y : Int)), some (zI 0)]) dX8_drift_40 rfl rfl ?_
  exact zAi_mono (l_X8_drift d μ1 n m t y u (hH.keep (q1b 1 (by decide) (by decide)) (q1b 3 (by decide) (by decide)) (q1b 4 (by decide) (by decide))) (by rw [q1b 53 (by decide) (by decide)]; exact hok) (by rw [q1b 2 (by decide) (by decide)]; exact hoo) hm2 (by rw [q1b 0 (by decide) (by decide)]; exact hs) (by omega) _ 0 rfl (by omega) μ1 ⟨rfl, rfl, rfl, rfl, fun _ _ _ => rfl, fun _ _ => rfl, fun _ _ _ _ _ _ _ => rfl⟩) (fun v ξ h => ⟨μ1, q1a, q1b, h⟩)
theorem c_X8_driftN (d : Nat) (μ : zM) (m : Nat) (y : Int) (hm : μ 1 8 = m) : (¬ (1 ≤ y ∧ y ≤ 99) → zMet (d + 1) 0 yX8_drift cX8_drift 3 (some .int) TF μ [zR 0, zI y] (zPi (fun v ν => v = -1000000002 ∧ μ = ν))) ∧ ((1 ≤ y ∧ y ≤ 99) → m < 2 → zMet (d + 1) 0 yX8_drift cX8_drift 3 (some .int) TF μ [zR 0, zI y] (zPi (fun v ν => v = -1000000003 ∧ μ = ν))) := by
  refine ⟨fun hy => ?_, fun hy hm2 => ?_⟩
  · refine zMi_of RX8 rfl (by decide) rfl (ls := [some (zR 0), some (zI y), none]) rfl (fun hok0 => ?_)
    refine zA_iload_n dX8_drift_0 rfl ?_
    refine zA_iconst dX8_drift_1 rfl ?_
    refine zA_icmp_lt (tgt := 11) dX8_drift_2 rfl (fun h2 => ?_) (fun h2 => ?_)
    · refine zA_ldc cX8_88 dX8_drift_11 rfl ?_
      exact zA_ri dX8_drift_13 ⟨rfl, rfl⟩
    · refine zA_iload_n dX8_drift_5 rfl ?_
      refine zA_bipush dX8_drift_6 rfl ?_
      refine zA_icmp_le (tgt := 14) dX8_drift_8 rfl (fun h8 => False.elim (by omega)) fun h8 => ?_
      refine zA_ldc cX8_88 dX8_drift_11 rfl ?_
      exact zA_ri dX8_drift_13 ⟨rfl, rfl⟩
  · refine zMi_of RX8 rfl (by decide) rfl (ls := [some (zR 0), some (zI y), none]) rfl (fun hok0 => ?_)
    refine zA_iload_n dX8_drift_0 rfl ?_
    refine zA_iconst dX8_drift_1 rfl ?_
    refine zA_icmp_lt (tgt := 11) dX8_drift_2 rfl (fun h2 => False.elim (by omega)) fun h2 => ?_
    refine zA_iload_n dX8_drift_5 rfl ?_
    refine zA_bipush dX8_drift_6 rfl ?_
    refine zA_icmp_le (tgt := 14) dX8_drift_8 rfl (fun h8 => ?_) (fun h8 => False.elim (by omega))
    refine zA_aload_n dX8_drift_14 rfl ?_
    refine zA_getR fX8_12 t_0 rfl dX8_drift_15 ?_
    refine zA_getE (w := (m : Int)) fX8_111 t_1 dX8_drift_18 hm ?_
    refine zA_iconst dX8_drift_21 rfl ?_
    refine zA_icmp_ge (tgt := 28) dX8_drift_22 rfl (fun h22 => False.elim (by omega)) fun h22 => ?_
    refine zA_ldc cX8_192 dX8_drift_25 rfl ?_
    exact zA_ri dX8_drift_27 ⟨rfl, rfl⟩
theorem zMs_up {μ : zM} {n m t : Nat} {u x y : Int} (h : zMs μ n m t u) : zMs (zup (zup μ 110 9 x) 110 9 y) n m t u := h
theorem l_X9_driftB (d : Nat) (ν : zM) (n m t y k : Nat) (u s dg : Int) (ow : Nat → Int) (P : zP) (hH : zMs ν n m t u) (hok : rOk n m (ν 114)) (hm2 : 2 ≤ m) (hsd : ν 110 9 = s) (hs : 0 ≤ s) (hdg : ν 110 4 = dg) (how : ν 111 = ow) (hc : ∀ ν' : zM, (∀ i, i < 30 → ν' 114 i = eR u n m (ν 114 30) dg ow (ν 114) s i) → ν' 114 30 = ν 114 30 → ν' 114 31 = eO m dg (ν 114 31) s → ν' 114 32 = zwi (ν 114 32 + 1) → ν' 110 9 = eS m s → (∀ i, i ≠ 9 → ν' 110 i = ν 110 i) → (∀ k, k ≠ 110 → k ≠ 114 → k ≠ 119 → ν' k = ν k) →  zA RX9 cX9_drift 6 (zRm (d + 4) 0) zN0 TF 0 ν' 126 [some (zR 110), some (zI (y : Int)), some (zI (k : Int)), none, none, none] [] P) : zA RX9 cX9_drift 6 (zRm (d + 4) 0) zN0 TF 0 ν 37 [some (zR 110), some (zI (y : Int)), some (zI (k : Int)), none, none, none] [] P := by
  have hH0 := hH
  obtain ⟨hn, hu, hm, ht, hn5, hm6, ht10, hu1, hdk⟩ := hH0
  have rb := eB_rg s (show (2 : Int) ≤ m by omega)
  have ra := eA_rg s (show (0 : Int) < m by omega)
  refine zA_aload_n dX9_drift_37 rfl ?_
  refine zA_aload_n dX9_drift_38 rfl ?_
  refine zA_getE (w := (m : Int)) fX9_78 t_110 dX9_drift_39 hm ?_
  refine zA_cVi (st := []) kX9_222 t_110 rfl rfl (c_X9_drawE (d + 2) ν (m : Int) (s) (by omega) hsd hs) rfl rfl rfl dX9_drift_42 (zfit0 (by omega) rfl) (fun v1 μ1 q1 => ?_)
  obtain ⟨e1, rfl⟩ := q1
  have re1 := eA_rg (s) (show (0 : Int) < (m : Int) by omega)
  rw [← e1] at re1
  refine zA_istore_n (ls' := [some (zR 110), some (zI (y : Int)), some (zI (k : Int)), some (zI v1), none, none]) dX9_drift_45 rfl rfl ?_
  refine zA_iload_n dX9_drift_46 rfl ?_
  refine zA_iconst dX9_drift_47 rfl ?_
  refine zA_iaddB dX9_drift_48 ⟨by omega, by omega⟩ ?_
  refine zA_aload_n dX9_drift_49 rfl ?_
  refine zA_aload_n dX9_drift_50 rfl ?_
  refine zA_getE (w := (m : Int)) fX9_78 t_110 dX9_drift_51 (by rw [zup_n (by decide)]; exact hm) ?_
  refine zA_iconst dX9_drift_54 rfl ?_
  refine zA_isubB dX9_drift_55 ⟨by omega, by omega⟩ ?_
  refine zA_cVi (st := [zI (v1 + 1)]) kX9_222 t_110 rfl rfl (c_X9_drawE (d + 2) (zup ν 110 9 (dr (s))) ((m : Int) - 1) (dr s) (by omega) zup_s (dr_rg _).1) rfl rfl rfl dX9_drift_56 (zfit0 (by omega) rfl) (fun v2 μ2 q2 => ?_)
  obtain ⟨e2, rfl⟩ := q2
  have re2 := eA_rg (dr s) (show (0 : Int) < ((m : Int) - 1) by omega)
  rw [← e2] at re2
  refine zA_iaddB dX9_drift_59 ⟨by omega, by omega⟩ ?_
  refine zA_aload_n dX9_drift_60 rfl ?_
  refine zA_getE (w := (m : Int)) fX9_78 t_110 dX9_drift_61 (by rw [zup_n (by decide), zup_n (by decide)]; exact hm) ?_
  refine zA_iremE (w := eB (m : Int) s) dX9_drift_64 (by omega) (by omega) (eB_mod (by omega) e1 e2) ?_
  refine zA_istore (ls' := [some (zR 110), some (zI (y : Int)), some (zI (k : Int)), some (zI v1), some (zI (eB (m : Int) s)), none]) dX9_drift_65 rfl rfl ?_
  refine zA_aload_n dX9_drift_67 rfl ?_
  refine zA_aload_n dX9_drift_68 rfl ?_
  refine zA_getR fX9_19 t_110 rfl dX9_drift_69 ?_
  refine zA_iload_n dX9_drift_72 rfl ?_
  refine zA_iload dX9_drift_73 rfl ?_
  refine zA_cVv (st := []) kX9_202 t_110 rfl rfl (c_X9_rubInI d (zup (zup ν 110 9 (dr s)) 110 9 (dr (dr s))) 114 n m t 33 u v1 (eB (m : Int) s) t_114 (by decide) (by decide) (zMs_up hH) (by omega) (by omega) (by omega) hok) rfl rfl rfl dX9_drift_75 (zfit0 (by omega) rfl) (fun μ3 q3 => ?_)
  obtain ⟨qa, qb⟩ := q3
  refine zA_aload_n dX9_drift_78 rfl ?_
  refine zA_getR fX9_19 t_110 rfl dX9_drift_79 ?_
  refine zA_bipush dX9_drift_82 rfl ?_
  refine zA_dup2 dX9_drift_84 rfl rfl ?_
  refine zA_ialE (w := ν 114 32) (j := 32) t_114 (by omega) (by omega) dX9_drift_85 rfl (by rw [qa, xchG_out (by omega) (by omega)]; rfl) ?_
  refine zA_iconst dX9_drift_86 rfl ?_
  refine zA_iadd dX9_drift_87 ?_
  refine zA_iasE (j := 32) t_114 (by omega) (by omega) dX9_drift_88 rfl ?_
  refine zA_aload_n dX9_drift_89 rfl ?_
  refine zA_bipush dX9_drift_90 rfl ?_
  refine zA_cVi (st := []) kX9_222 t_110 rfl rfl (c_X9_drawE (d + 2) (zup μ3 114 32 (zwi ((ν 114 32) + 1))) 9 (dr (dr s)) (by omega) (by rw [zup_k (by decide), qb 110 (by decide) (by decide)]; exact zup_s) (dr_rg _).1) rfl rfl rfl dX9_drift_92 (zfit0 (by omega) rfl) (fun v4 μ4 q4 => ?_)
  obtain ⟨e3, rfl⟩ := q4
  have re3 := eA_rg (dr (dr s)) (show (0 : Int) < 9 by omega)
  rw [← e3] at re3
  refine zA_if_ne (tgt := 126) dX9_drift_95 rfl (fun h95 => ?_) (fun h95 => ?_)
  · refine zA_dr (ls' := [some (zR 110), some (zI (y : Int)), some (zI (k : Int)), none, some (zI (eB (m : Int) s)), none]) 3 rfl ?_
    refine zA_dr (ls' := [some (zR 110), some (zI (y : Int)), some (zI (k : Int)), none, none, none]) 4 rfl ?_
    refine hc _ ?_ ?_ ?_ ?_ ?_ ?_ ?_
    · intro i hi
      rw [eR, if_neg (fun q => h95 (by rw [e3]; exact q.1)), ← e1, zup_k (by decide), zup_n (fun q => by omega), qa]
      rfl
    · rw [zup_k (by decide), zup_n (by decide), qa, xchG_out (by omega) (by omega)]
      rfl
    · rw [zup_k (by decide), zup_n (by decide), qa, xchG_out (by omega) (by omega), eO, if_neg (fun q => h95 (by rw [e3]; exact q.1))]
      rfl
    · rw [zup_k (by decide), zup_s]
    · rw [zup_s, eS, if_neg (fun q => h95 (by rw [e3]; exact q))]
    · intro i hi
      rw [zup_n (fun q => hi q.2), zup_k (by decide), qb 110 (by decide) (by decide), zup_n (fun q => hi q.2), zup_n (fun q => hi q.2)]
    · intro k k1 k2 k3
      funext i
      rw [zup_k k1, zup_k k2, qb k k2 k3, zup_k k1, zup_k k1]
  · refine zA_aload_n dX9_drift_98 rfl ?_
    refine zA_aload_n dX9_drift_99 rfl ?_
    refine zA_getE (w := (m : Int)) fX9_78 t_110 dX9_drift_100 (by rw [zup_n (by decide), zup_k (by decide)]; exact (by rw [qb 110 (by decide) (by decide)]; exact hm)) ?_
    refine zA_cVi (st := []) kX9_222 t_110 rfl rfl (c_X9_drawE (d + 2) (zup (zup μ3 114 32 (zwi ((ν 114 32) + 1))) 110 9 (dr (dr (dr s)))) (m : Int) (dr (dr (dr s))) (by omega) zup_s (dr_rg _).1) rfl rfl rfl dX9_drift_103 (zfit0 (by omega) rfl) (fun v5 μ5 q5 => ?_)
    obtain ⟨e4, rfl⟩ := q5
    have re4 := eA_rg (dr (dr (dr s))) (show (0 : Int) < (m : Int) by omega)
    rw [← e4] at re4
    refine zA_istore (ls' := [some (zR 110), some (zI (y : Int)), some (zI (k : Int)), some (zI v1), some (zI (eB (m : Int) s)), some (zI v5)]) dX9_drift_106 rfl rfl ?_
    refine zA_aload_n dX9_drift_108 rfl ?_
    refine zA_getE (w := dg) fX9_166 t_110 dX9_drift_109 (by rw [zup_n (by decide), zup_n (by decide), zup_k (by decide)]; exact (by rw [qb 110 (by decide) (by decide)]; exact hdg)) ?_
    refine zA_iload dX9_drift_112 rfl ?_
    refine zA_cSb (st := []) kX9_140 (c_X9_has (d + 2) dg v5 (zup (zup (zup μ3 114 32 (zwi ((ν 114 32) + 1))) 110 9 (dr (dr (dr s)))) 110 9 (dr (dr (dr (dr s)))))) rfl rfl rfl dX9_drift_114 (zfit0 (by omega) rfl) (fun v6 μ6 q6 => ?_)
    obtain ⟨b6, rfl⟩ := q6
    refine zA_ifb_ne (tgt := 126) dX9_drift_117 rfl (fun h117 => ?_) (fun h117 => ?_)
    · refine zA_dr (ls' := [some (zR 110), some (zI (y : Int)), some (zI (k : Int)), none, some (zI (eB (m : Int) s)), some (zI v5)]) 3 rfl ?_
      refine zA_dr (ls' := [some (zR 110), some (zI (y : Int)), some (zI (k : Int)), none, none, some (zI v5)]) 4 rfl ?_
      refine zA_dr (ls' := [some (zR 110), some (zI (y : Int)), some (zI (k : Int)), none, none, none]) 5 rfl ?_
      refine hc _ ?_ ?_ ?_ ?_ ?_ ?_ ?_
      · intro i hi
        rw [eR, if_neg (fun q => q.2 (by rw [← e4]; exact b6.mp h117)), ← e1, zup_k (by decide), zup_k (by decide), zup_n (fun q => by omega), qa]
        rfl
      · rw [zup_k (by decide), zup_k (by decide), zup_n (by decide), qa, xchG_out (by omega) (by omega)]
        rfl
      · rw [zup_k (by decide), zup_k (by decide), zup_n (by decide), qa, xchG_out (by omega) (by omega), eO, if_neg (fun q => q.2 (by rw [← e4]; exact b6.mp h117))]
        rfl
      · rw [zup_k (by decide), zup_k (by decide), zup_s]
      · rw [zup_s, eS, if_pos (by rw [← e3]; omega)]
      · intro i hi
        rw [zup_n (fun q => hi q.2), zup_n (fun q => hi q.2), zup_k (by decide), qb 110 (by decide) (by decide), zup_n (fun q => hi q.2), zup_n (fun q => hi q.2)]
      · intro k k1 k2 k3
        funext i
        rw [zup_k k1, zup_k k1, zup_k k2, qb k k2 k3, zup_k k1, zup_k k1]
    · refine zA_aload_n dX9_drift_120 rfl ?_
      refine zA_iload dX9_drift_121 rfl ?_
      refine zA_cVv (st := []) kX9_206 t_110 rfl rfl (c_X9_washNowI (d + 2) (zup (zup (zup μ3 114 32 (zwi ((ν 114 32) + 1))) 110 9 (dr (dr (dr s)))) 110 9 (dr (dr (dr (dr s))))) v5 (by omega)) rfl rfl rfl dX9_drift_123 (zfit0 (by omega) rfl) (fun μ7 q7 => ?_)
      obtain ⟨wa, w30, w31, w32, wd⟩ := q7
      refine zA_dr (ls' := [some (zR 110), some (zI (y : Int)), some (zI (k : Int)), none, some (zI (eB (m : Int) s)), some (zI v5)]) 3 rfl ?_
      refine zA_dr (ls' := [some (zR 110), some (zI (y : Int)), some (zI (k : Int)), none, none, some (zI v5)]) 4 rfl ?_
      refine zA_dr (ls' := [some (zR 110), some (zI (y : Int)), some (zI (k : Int)), none, none, none]) 5 rfl ?_
      have hW : eA 9 (dr (dr s)) = 0 ∧ ¬ zbit dg (eA m (dr (dr (dr s)))) = 1 := ⟨by rw [← e3]; omega, fun q => by rw [← e4] at q; have := b6.mpr q; simp_all⟩
      refine hc _ ?_ ?_ ?_ ?_ ?_ ?_ ?_
      · intro i hi
        rw [eR, if_pos hW, ← e1, ← e4, wa i hi]
        have E2 : μ3 111 = ow := by rw [← how]; exact qb 111 (by decide) (by decide)
        refine wRow_congr (D := fun i => i < 30) (fun i hi => ?_) (fun i hi => ?_) i hi
        · replace hi : i < 30 := hi
          rw [zup_k (by decide), zup_k (by decide), zup_n (fun q => by omega), qa]
          rfl
        · rw [zup_k (by decide), zup_k (by decide), zup_k (by decide), E2]
      · rw [w30, zup_k (by decide), zup_k (by decide), zup_n (by decide), qa, xchG_out (by omega) (by omega)]
        rfl
      · rw [w31, zup_k (by decide), zup_k (by decide), zup_n (by decide), qa, xchG_out (by omega) (by omega), eO, if_pos hW]
        rfl
      · rw [w32, zup_k (by decide), zup_k (by decide), zup_s]
      · rw [wd 110 (by decide), zup_s, eS, if_pos hW.1]
      · intro i hi
        rw [wd 110 (by decide), zup_n (fun q => hi q.2), zup_n (fun q => hi q.2), zup_k (by decide), qb 110 (by decide) (by decide), zup_n (fun q => hi q.2), zup_n (fun q => hi q.2)]
      · intro k k1 k2 k3
        funext i
        rw [wd k k2, zup_k k1, zup_k k1, zup_k k2, qb k k2 k3, zup_k k1, zup_k k1]
theorem l_X9_drift (d : Nat) (μ : zM) (n m t y : Nat) (u : Int) (hH : zMs μ n m t u) (hok : rOk n m (μ 114)) (hoo : rOk n m (μ 111)) (hm2 : 2 ≤ m) (hs : 0 ≤ μ 110 9) (hy : y ≤ 99) : ∀ (t0 k : Nat), y - k = t0 → k ≤ y → ∀ ν : zM, ((∀ i, i < 30 → ν 114 i = (eRs u n m (μ 114 30) (μ 110 4) (μ 111) (μ 114) (μ 110 9)) k i) ∧ ν 114 30 = μ 114 30 ∧ ν 114 31 = eOs m (μ 110 4) (μ 114 31) (μ 110 9) k ∧ ν 114 32 = eTs (μ 114 32) k ∧ ν 110 9 = eSs m (μ 110 9) k ∧ (∀ i, i ≠ 9 → ν 110 i = μ 110 i) ∧ ∀ k, k ≠ 110 → k ≠ 114 → k ≠ 119 → ν k = μ k) → zA RX9 cX9_drift 6 (zRm (d + 4) 0) zN0 TF 0 ν 32 [some (zR 110), some (zI (y : Int)), some (zI (k : Int)), none, none, none] [] (zPi (fun v ξ => v = eTs (μ 114 32) y ∧ (∀ i, i < 30 → ξ 114 i = (eRs u n m (μ 114 30) (μ 110 4) (μ 111) (μ 114) (μ 110 9)) y i) ∧ ξ 114 30 = μ 114 30 ∧ ξ 114 31 = eOs m (μ 110 4) (μ 114 31) (μ 110 9) y ∧ ξ 114 32 = eTs (μ 114 32) y ∧ ξ 110 9 = eSs m (μ 110 9) y ∧ (∀ i, i ≠ 9 → ξ 110 i = μ 110 i) ∧ ∀ k, k ≠ 110 → k ≠ 114 → k ≠ 119 → ξ k = μ k)) := by
  have hH0 := hH
  obtain ⟨hn, hu, hm, ht, hn5, hm6, ht10, hu1, hdk⟩ := hH0
  intro t0
  induction t0 using Nat.strongRecOn with
  | ind t0 ih =>
    intro k hk hky ν hc
    have hc0 := hc
    obtain ⟨c1, c2, c3, c4, c5, c6, c7⟩ := hc0
    refine zA_iload_n dX9_drift_32 rfl ?_
    refine zA_iload_n dX9_drift_33 rfl ?_
    refine zA_icmp_ge (tgt := 132) dX9_drift_34 rfl (fun h34 => ?_) (fun h34 => ?_)
    · refine zA_aload_n dX9_drift_132 rfl ?_
      refine zA_getR fX9_19 t_110 rfl dX9_drift_133 ?_
      refine zA_bipush dX9_drift_136 rfl ?_
      refine zA_ialE (w := eTs (μ 114 32) y) (j := 32) t_114 (by omega) (by omega) dX9_drift_138 rfl (by rw [c4, show k = y by omega]) ?_
      exact zA_ri dX9_drift_139 ⟨rfl, (show y = k by omega) ▸ hc⟩
    · refine l_X9_driftB d ν n m t y k u (eSs m (μ 110 9) k) (μ 110 4) (μ 111) _ (by
        obtain ⟨z1, z2, z3, z4, z5⟩ := hH
        exact ⟨by rw [c6 0 (by decide)]; exact z1, by rw [c6 1 (by decide)]; exact z2, by rw [c6 2 (by decide)]; exact z3, by rw [c6 5 (by decide)]; exact z4, by rw [c7 112 (by decide) (by decide) (by decide), c7 113 (by decide) (by decide) (by decide)]; exact z5⟩) (rOk_congr hn5 hm6 (fun i hi => (c1 i hi).symm) (eRs_ok _ hn5 hm2 hu1 hok hoo k)) hm2 c5 (eSs_rg hs k) (c6 4 (by decide)) (c7 111 (by decide) (by decide) (by decide)) (fun ξ x1 x2 x3 x4 x5 x6 x7 => ?_)
      refine zA_iincB (ls' := [some (zR 110), some (zI (y : Int)), some (zI ((k : Int) + 1)), none, none, none]) dX9_drift_126 rfl rfl ⟨by omega, by omega⟩ rfl ?_
      refine zA_goto (tgt := 32) dX9_drift_129 rfl ?_
      refine ih _ (by omega) (k + 1) rfl (by omega) ξ ⟨fun i hi => ?_, by rw [x2, c2], by rw [x3, c3]; rfl, by rw [x4, c4]; rfl, by rw [x5]; rfl, fun i hi => by rw [x6 i hi, c6 i hi], fun k k1 k2 k3 => by rw [x7 k k1 k2 k3, c7 k k1 k2 k3]⟩
      rw [x1 i hi, c2]
      exact eR_congr _ hn5 hm2 hm6 c1 (fun _ _ => rfl) i hi
theorem c_X9_driftY (d : Nat) (μ : zM) (n m t z y : Nat) (u : Int) (hH : zMs μ n m t u) (hok : rOk n m (μ 114)) (hoo : rOk n m (μ 111)) (hm2 : 2 ≤ m) (hs : 0 ≤ μ 110 9) (hy1 : 1 ≤ y) (hy : y ≤ 99) (hz : z ≤ 20) (hz1 : μ 110 26 = z) : zMet (d + 4) 0 yX9_drift cX9_drift 6 (some .int) TF μ [zR 110, zI (y : Int)] (zPi (fun v ν => ∃ ξ, dM μ ξ z ∧ (∀ i, i ≠ 26 → ξ 110 i = μ 110 i) ∧ (∀ k, k ≠ 110 → k ≠ 120 → ξ k = μ k) ∧ v = eTs (ξ 114 32) y ∧ (∀ i, i < 30 → ν 114 i = (eRs u n m (ξ 114 30) (ξ 110 4) (ξ 111) (ξ 114) (ξ 110 9)) y i) ∧ ν 114 30 = ξ 114 30 ∧ ν 114 31 = eOs m (ξ 110 4) (ξ 114 31) (ξ 110 9) y ∧ ν 114 32 = eTs (ξ 114 32) y ∧ ν 110 9 = eSs m (ξ 110 9) y ∧ (∀ i, i ≠ 9 → ν 110 i = ξ 110 i) ∧ ∀ k, k ≠ 110 → k ≠ 114 → k ≠ 119 → ν k = ξ k)) := by
  have hH0 := hH
  obtain ⟨hn, hu, hm, ht, hn5, hm6, ht10, hu1, hdk⟩ := hH0
  refine zMi_of RX9 rfl (by decide) rfl (ls := [some (zR 110), some (zI (y : Int)), none, none, none, none]) rfl (fun hok0 => ?_)
  refine zA_iload_n dX9_drift_0 rfl ?_
  refine zA_i2l dX9_drift_1 ?_
  refine zA_lconst (v := 1) dX9_drift_2 rfl rfl ?_
  refine zA_ldc2 cX9_220 dX9_drift_3 rfl ?_
  refine zA_cSb (st := []) kX9_81 (c_X9_in (d + 2) (y : Int) 1 99 μ) rfl rfl rfl dX9_drift_6 (zfit0 (by omega) rfl) (fun v1 μ1 q1 => ?_)
  obtain ⟨b1, rfl⟩ := q1
  refine zA_ifb_ne (tgt := 15) dX9_drift_9 rfl (fun h9 => ?_) (fun h9 => False.elim (by have := b1.mpr (by omega); simp_all))
  refine zA_aload_n dX9_drift_15 rfl ?_
  refine zA_getE (w := (m : Int)) fX9_78 t_110 dX9_drift_16 hm ?_
  refine zA_iconst dX9_drift_19 rfl ?_
  refine zA_icmp_ge (tgt := 26) dX9_drift_20 rfl (fun h20 => ?_) (fun h20 => False.elim (by omega))
  refine zA_aload_n dX9_drift_26 rfl ?_
  refine zA_cVv (st := []) kX9_199 t_110 rfl rfl (c_X9_remember (d + 2) z μ hz hz1) rfl rfl rfl dX9_drift_27 (zfit0 (by omega) rfl) (fun μ2 q2 => ?_)
  obtain ⟨q3a, q3b, q3c, q3d, q3e⟩ := q2
  refine zA_iconst dX9_drift_30 rfl ?_
  refine zA_istore_n (ls' := [some (zR 110), some (zI (y : Int)), some (zI 0), none, none, none]) dX9_drift_31 rfl rfl ?_
  exact zAi_mono (l_X9_drift d μ2 n m t y u (hH.keep2 (fun _ _ => rfl) q3b q3c) (by rw [q3c 114 (by decide) (by decide)]; exact hok) (by rw [q3c 111 (by decide) (by decide)]; exact hoo) hm2 (by rw [q3b 9 (by decide)]; exact hs) (by omega) _ 0 rfl (by omega) μ2 ⟨fun _ _ => rfl, rfl, rfl, rfl, rfl, fun _ _ => rfl, fun _ _ _ _ => rfl⟩) (fun v ξ h => ⟨μ2, ⟨q3a, q3d, q3e⟩, q3b, q3c, h⟩)
theorem c_X9_driftN (d : Nat) (μ : zM) (m : Nat) (y : Int) (hm : μ 110 2 = m) : (¬ (1 ≤ y ∧ y ≤ 99) → zMet (d + 2) 0 yX9_drift cX9_drift 6 (some .int) TF μ [zR 110, zI y] (zPi (fun v ν => v = -1000000002 ∧ μ = ν))) ∧ ((1 ≤ y ∧ y ≤ 99) → m < 2 → zMet (d + 2) 0 yX9_drift cX9_drift 6 (some .int) TF μ [zR 110, zI y] (zPi (fun v ν => v = -1000000003 ∧ μ = ν))) := by
  refine ⟨fun hy => ?_, fun hy hm2 => ?_⟩
  · refine zMi_of RX9 rfl (by decide) rfl (ls := [some (zR 110), some (zI y), none, none, none, none]) rfl (fun hok0 => ?_)
    refine zA_iload_n dX9_drift_0 rfl ?_
    refine zA_i2l dX9_drift_1 ?_
    refine zA_lconst (v := 1) dX9_drift_2 rfl rfl ?_
    refine zA_ldc2 cX9_220 dX9_drift_3 rfl ?_
    refine zA_cSb (st := []) kX9_81 (c_X9_in d y 1 99 μ) rfl rfl rfl dX9_drift_6 (zfit0 (by omega) rfl) (fun v1 μ1 q1 => ?_)
    obtain ⟨b1, rfl⟩ := q1
    refine zA_ifb_ne (tgt := 15) dX9_drift_9 rfl (fun h9 => False.elim (hy (b1.mp h9))) fun h9 => ?_
    refine zA_ldc cX9_89 dX9_drift_12 rfl ?_
    exact zA_ri dX9_drift_14 ⟨rfl, rfl⟩
  · refine zMi_of RX9 rfl (by decide) rfl (ls := [some (zR 110), some (zI y), none, none, none, none]) rfl (fun hok0 => ?_)
    refine zA_iload_n dX9_drift_0 rfl ?_
    refine zA_i2l dX9_drift_1 ?_
    refine zA_lconst (v := 1) dX9_drift_2 rfl rfl ?_
    refine zA_ldc2 cX9_220 dX9_drift_3 rfl ?_
    refine zA_cSb (st := []) kX9_81 (c_X9_in d y 1 99 μ) rfl rfl rfl dX9_drift_6 (zfit0 (by omega) rfl) (fun v1 μ1 q1 => ?_)
    obtain ⟨b1, rfl⟩ := q1
    refine zA_ifb_ne (tgt := 15) dX9_drift_9 rfl (fun h9 => ?_) (fun h9 => False.elim (by have := b1.mpr hy; simp_all))
    refine zA_aload_n dX9_drift_15 rfl ?_
    refine zA_getE (w := (m : Int)) fX9_78 t_110 dX9_drift_16 hm ?_
    refine zA_iconst dX9_drift_19 rfl ?_
    refine zA_icmp_ge (tgt := 26) dX9_drift_20 rfl (fun h20 => False.elim (by omega)) fun h20 => ?_
    refine zA_ldc cX9_205 dX9_drift_23 rfl ?_
    exact zA_ri dX9_drift_25 ⟨rfl, rfl⟩
theorem pr_drift (μ : zM) (y : Int) (n m t : Nat) (u : Int) (hI : zInv μ n m t u) : zPair yX8_drift cX8_drift 3 yX9_drift cX9_drift 6 [zI y] μ := by
  have hI0 := hI
  obtain ⟨hh, hst, ht, hmi, h1, h2, h3, ⟨z, x, a1, a2, a3, a4, a5, a6⟩⟩ := hI
  obtain ⟨hn, hu, hm, ht0, hn5, hm6, ht10, hu1, hdk⟩ := hh.1
  have hmM := hh.2.1.2.2.1
  have hdg : μ 1 10 = μ 110 4 := hh.2.2.1
  have hrow : ∀ i, lv n m i → μ 53 i = μ 114 i := fun i hi => by have := hst.1 i hi; rw [Nat.zero_add] at this; exact this
  have hg : μ 52 1 = μ 114 30 := hst.2.2.1
  have hg2 : μ 52 2 = μ 114 31 := hst.2.2.2.1
  have hg3 : μ 52 3 = μ 114 32 := hst.2.2.2.2
  by_cases hy : ¬ (1 ≤ y ∧ y ≤ 99)
  · refine zPair_q hI0 (-1000000002) (zMi_mono ((c_X8_driftN 19 μ m y hm).1 hy) ?_) (fun ν hq hν => zMi_mono ((c_X9_driftN 18 ν m y hν.1.2.1.2.2.1).1 hy) ?_)
    · rintro v ν ⟨rfl, rfl⟩
      exact ⟨rfl, qC.refl _⟩
    · rintro v ξ ⟨rfl, rfl⟩
      exact ⟨rfl, qM.refl _⟩
  replace hy := Decidable.of_not_not hy
  by_cases hm2 : m < 2
  · refine zPair_q hI0 (-1000000003) (zMi_mono ((c_X8_driftN 19 μ m y hm).2 hy hm2) ?_) (fun ν hq hν => zMi_mono ((c_X9_driftN 18 ν m y hν.1.2.1.2.2.1).2 hy hm2) ?_)
    · rintro v ν ⟨rfl, rfl⟩
      exact ⟨rfl, qC.refl _⟩
    · rintro v ξ ⟨rfl, rfl⟩
      exact ⟨rfl, qM.refl _⟩
  obtain ⟨y, rfl⟩ := Int.eq_ofNat_of_zero_le (show 0 ≤ y by omega)
  have hm2' : 2 ≤ m := by omega
  have how : ∀ i, lv n m i → μ 2 i = μ 111 i := hh.2.2.2.1
  have hoo : rOk n m (μ 2) := hh.2.2.2.2.1
  have hsd : μ 0 14 = μ 110 9 := hmi.2.1
  have hok := hst.2.1
  refine zMi_mono (c_X8_driftY 14 μ n m t x z y u hh.1 hok hoo hm2' hmi.2.2 (by omega) (by omega) a2 a1 a5 a3) (fun v ν hv => ?_)
  obtain ⟨ξ, v1, v2, rfl, c1, c2, c3, c4, c5, c6, c7⟩ := hv
  have k1 : ∀ k, 110 < k → ν k = μ k := fun k hk => by rw [c7 k (by omega) (by omega) (by omega) (by omega) (by omega) (by omega), v2 k (by omega) (by omega)]
  have e110 : ν 110 = μ 110 := by rw [c7 110 (by decide) (by decide) (by decide) (by decide) (by decide) (by decide), v2 110 (by decide) (by decide)]
  have e111 := k1 111 (by decide)
  have e112 := k1 112 (by decide)
  have e113 := k1 113 (by decide)
  have e114 := k1 114 (by decide)
  have e120 := k1 120 (by decide)
  refine zMi_mono (c_X9_driftY 16 ν n m t z y u (hh.2.1.keep e110 e112 e113) (by rw [e114]; exact rOk_congrL hn5 hrow hok) (by rw [e111]; exact rOk_congrL hn5 how hoo) hm2' (by rw [e110, ← hsd]; exact hmi.2.2) (by omega) (by omega) a1 (by rw [e110]; exact a4)) (fun w ζ hw => ?_)
  obtain ⟨ρ, w1, w2, w3, rfl, g1, g2, g3, g4, g5, g6, g7⟩ := hw
  have x52 : ξ 52 = μ 52 := v2 52 (by decide) (by decide)
  have x53 : ξ 53 = μ 53 := v2 53 (by decide) (by decide)
  have x0 : ξ 0 = μ 0 := v2 0 (by decide) (by decide)
  have x1 : ξ 1 = μ 1 := v2 1 (by decide) (by decide)
  have x2 : ξ 2 = μ 2 := v2 2 (by decide) (by decide)
  have p114 : ρ 114 = μ 114 := by rw [w3 114 (by decide) (by decide), e114]
  have p111 : ρ 111 = μ 111 := by rw [w3 111 (by decide) (by decide), e111]
  have p110 : ∀ i, i ≠ 26 → ρ 110 i = μ 110 i := fun i hi => by rw [w2 i hi, e110]
  have L : ∀ k, k < 110 → ζ k = ν k := fun k hk => by rw [g7 k (by omega) (by omega) (by omega), w3 k (by omega) (by omega)]
  rw [x52, x53, x0, x1, x2] at c1
  rw [x0] at c2
  rw [x52, x0, x1] at c3
  rw [x52] at c4
  rw [x52] at c5
  rw [x0] at c6
  rw [p114, p111, p110 4 (by decide), p110 9 (by decide)] at g1
  rw [p114] at g2
  rw [p114, p110 4 (by decide), p110 9 (by decide)] at g3
  rw [p114] at g4
  rw [p110 9 (by decide)] at g5
  refine ⟨by rw [x52, p114, hg3], n, m, t, u, zInv_deed hI0 (fun k h1 h2 h3 h4 h5 h6 h7 h8 h9 h10 h11 => ?_) (fun i hi => by rw [L 0 (by decide), c6 i hi]) (fun i h9 h26 => by rw [g6 i h9, p110 i h26]) (by rw [L 0 (by decide), c2, g5, hsd]) (by rw [L 0 (by decide), c2]; exact eSs_rg hmi.2.2 y) ⟨fun i hi => ?_, ?_, ?_, ?_, ?_⟩ ?_⟩
  · unfold cScr at h3
    rw [g7 k h2 h8 h9, w3 k h2 h10, c7 k h1 h4 h5 (by omega) (by omega) (by omega), v2 k h6 h7]
  · rw [Nat.zero_add, L 53 (by decide), c1, g1 i (by omega), ← hdg, ← hg, ← hsd]
    exact eRs_congrL _ hn5 hm2' hrow how y i hi
  · show rOk n m (ζ 53)
    rw [L 53 (by decide), c1]
    exact eRs_ok _ hn5 hm2' hu1 hok hoo y
  · rw [L 52 (by decide), c5 1 (by decide) (by decide), g2, hg]
  · rw [L 52 (by decide), c3, g3, hg2, hdg, hsd]
  · rw [L 52 (by decide), c4, g4, hg3]
  · obtain ⟨d1, d2, d3, d4, d5, d6, d7⟩ := v1
    have Lx : ∀ k, k = 54 ∨ (56 ≤ k ∧ k ≤ 95) → ζ k = ξ k := fun k hk => by rw [L k (by omega), c7 k (by omega) (by omega) (by omega) (by omega) (by omega) (by omega)]
    have q120 : ζ 120 = ρ 120 := g7 120 (by decide) (by decide) (by decide)
    refine iHis_rem a1 a2 a6 hst (fun i hi => by rw [Lx _ (by omega)]; exact d1 i hi) (by rw [Lx _ (by omega)]; exact d2) (by rw [Lx _ (by omega)]; exact d3) (by rw [Lx _ (by omega)]; exact d4) (fun k k1 k2 k3 k4 => by rw [Lx _ (by omega)]; exact d5 k k1 k2 k3 k4) (by rw [Lx _ (by omega)]; exact d6) (by rw [Lx _ (by omega)]; exact d7) (by rw [g6 26 (by decide)]; exact w1.1) ?_ ?_ hn5 hm6
    · intro h
      have := w1.2.1 h
      rw [e120, e114] at this
      rw [q120]
      exact this
    · intro h
      have := w1.2.2 h
      rw [e120, e114] at this
      rw [q120]
      exact this
