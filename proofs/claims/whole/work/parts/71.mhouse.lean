/-! ===== the model's house() ===== -/
def mA (μ ν : zM) (k : Nat) : Prop := (∀ q, q ≠ 110 → q ≠ 111 → q ≠ 112 → q ≠ 113 → q ≠ 114 → ν q = μ q) ∧ (∀ i, 5 < i → ν 110 i = μ 110 i) ∧ (ν 110 0 = μ 110 16 ∧ ν 110 1 = μ 110 17 ∧ ν 110 2 = μ 110 18 ∧ ν 110 4 = μ 110 21 ∧ ν 110 5 = μ 110 22) ∧ (∀ i, i < k → ν 111 i = μ 116 i ∧ ν 114 i = μ 116 i)
def mB (μ ν : zM) (k : Nat) : Prop := mA μ ν 30 ∧ (∀ i, i < k → ν 112 i = μ 117 i ∧ ν 113 i = μ 118 i)
theorem mA.put {μ ν : zM} {k : Nat} {v w : Int} (h : mA μ ν k) (hv : v = μ 116 k) (hw : w = μ 116 k) : mA μ (zup (zup ν 111 k v) 114 k w) (k + 1) := by
  obtain ⟨a1, a2, a3, a4⟩ := h
  refine ⟨fun q h1 h2 h3 h4 h5 => by funext i; rw [zup_k h5, zup_k h2, a1 q h1 h2 h3 h4 h5], fun i hi => a2 i hi, a3, fun i hi => ?_⟩
  by_cases e : i = k
  · subst e
    exact ⟨by rw [zup_k (by decide), zup_s]; exact hv, by rw [zup_s]; exact hw⟩
  · rw [zup_k (by decide), zup_n (fun q => e q.2), zup_n (fun q => e q.2), zup_k (by decide)]
    exact a4 i (by omega)
theorem mB.put {μ ν : zM} {k : Nat} {v w : Int} (h : mB μ ν k) (hv : v = μ 117 k) (hw : w = μ 118 k) : mB μ (zup (zup ν 112 k v) 113 k w) (k + 1) := by
  obtain ⟨⟨a1, a2, a3, a4⟩, a5⟩ := h
  refine ⟨⟨fun q h1 h2 h3 h4 h5 => by funext i; rw [zup_k h4, zup_k h3, a1 q h1 h2 h3 h4 h5], fun i hi => a2 i hi, a3, fun i hi => a4 i hi⟩, fun i hi => ?_⟩
  by_cases e : i = k
  · subst e
    exact ⟨by rw [zup_k (by decide), zup_s]; exact hv, by rw [zup_s]; exact hw⟩
  · rw [zup_k (by decide), zup_n (fun q => e q.2), zup_n (fun q => e q.2), zup_k (by decide)]
    exact a5 i (by omega)
theorem l_X9_takeReadB (d : Nat) (μ : zM) : ∀ (t0 k : Nat), 10 - k = t0 → ∀ ν : zM, k ≤ 10 → mB μ ν k → zA RX9 cX9_takeRead 2 (zRm (d + 1) 0) zN0 TF 0 ν 80 [some (zR 110), some (zI (k : Int))] [] (zPv (fun ν => (∀ k, k ≠ 110 → k ≠ 111 → k ≠ 112 → k ≠ 113 → k ≠ 114 → ν k = μ k) ∧ (∀ i, 5 < i → ν 110 i = μ 110 i) ∧ (ν 110 0 = μ 110 16 ∧ ν 110 1 = μ 110 17 ∧ ν 110 2 = μ 110 18 ∧ ν 110 4 = μ 110 21 ∧ ν 110 5 = μ 110 22) ∧ (∀ i, i < 30 → ν 111 i = μ 116 i ∧ ν 114 i = μ 116 i) ∧ (∀ i, i < 10 → ν 112 i = μ 117 i ∧ ν 113 i = μ 118 i) ∧ ν 114 30 = μ 110 20 ∧ ν 114 31 = 0 ∧ ν 114 32 = 0)) := by
  intro t0
  induction t0 using Nat.strongRecOn with
  | ind t0 ih =>
    intro k hk ν hk10 hB
    refine zA_iload_n dX9_takeRead_80 rfl ?_
    refine zA_bipush dX9_takeRead_81 rfl ?_
    refine zA_icmp_ge (tgt := 116) dX9_takeRead_83 rfl (fun h83 => ?_) (fun h83 => ?_)
    · refine zA_aload_n dX9_takeRead_116 rfl ?_
      refine zA_getR fX9_19 t_110 rfl dX9_takeRead_117 ?_
      refine zA_bipush dX9_takeRead_120 rfl ?_
      refine zA_aload_n dX9_takeRead_122 rfl ?_
      refine zA_getE (w := μ 110 20) fX9_134 t_110 dX9_takeRead_123 (hB.1.2.1 20 (by decide)) ?_
      refine zA_iasE (j := 30) t_114 (by omega) (by omega) dX9_takeRead_126 rfl ?_
      refine zA_aload_n dX9_takeRead_127 rfl ?_
      refine zA_getR fX9_19 t_110 rfl dX9_takeRead_128 ?_
      refine zA_bipush dX9_takeRead_131 rfl ?_
      refine zA_iconst dX9_takeRead_133 rfl ?_
      refine zA_iasE (j := 31) t_114 (by omega) (by omega) dX9_takeRead_134 rfl ?_
      refine zA_aload_n dX9_takeRead_135 rfl ?_
      refine zA_getR fX9_19 t_110 rfl dX9_takeRead_136 ?_
      refine zA_bipush dX9_takeRead_139 rfl ?_
      refine zA_iconst dX9_takeRead_141 rfl ?_
      refine zA_iasE (j := 32) t_114 (by omega) (by omega) dX9_takeRead_142 rfl ?_
      exact zA_rv dX9_takeRead_143 ⟨fun q h1 h2 h3 h4 h5 => (by funext i; rw [zup_k h5, zup_k h5, zup_k h5, hB.1.1 q h1 h2 h3 h4 h5]), fun i hi => hB.1.2.1 i hi, hB.1.2.2.1, fun i hi => ⟨(hB.1.2.2.2 i hi).1, by rw [zup_n (by omega), zup_n (by omega), zup_n (by omega)]; exact (hB.1.2.2.2 i hi).2⟩, fun i hi => hB.2 i (by omega), rfl, rfl, rfl⟩
    · refine zA_aload_n dX9_takeRead_86 rfl ?_
      refine zA_getR fX9_13 t_110 rfl dX9_takeRead_87 ?_
      refine zA_iload_n dX9_takeRead_90 rfl ?_
      refine zA_aload_n dX9_takeRead_91 rfl ?_
      refine zA_getR fX9_32 t_110 rfl dX9_takeRead_92 ?_
      refine zA_iload_n dX9_takeRead_95 rfl ?_
      refine zA_ialE (w := μ 117 k) (j := k) t_117 (by omega) (by omega) dX9_takeRead_96 rfl (by rw [hB.1.1 117 (by decide) (by decide) (by decide) (by decide) (by decide)]) ?_
      refine zA_iasE (j := k) t_112 (by omega) (by omega) dX9_takeRead_97 rfl ?_
      refine zA_aload_n dX9_takeRead_98 rfl ?_
      refine zA_getR fX9_16 t_110 rfl dX9_takeRead_99 ?_
      refine zA_iload_n dX9_takeRead_102 rfl ?_
      refine zA_aload_n dX9_takeRead_103 rfl ?_
      refine zA_getR fX9_35 t_110 rfl dX9_takeRead_104 ?_
      refine zA_iload_n dX9_takeRead_107 rfl ?_
      refine zA_ialE (w := μ 118 k) (j := k) t_118 (by omega) (by omega) dX9_takeRead_108 rfl (by rw [zup_k (by decide)]; exact (by rw [hB.1.1 118 (by decide) (by decide) (by decide) (by decide) (by decide)])) ?_
      refine zA_iasE (j := k) t_113 (by omega) (by omega) dX9_takeRead_109 rfl ?_
      refine zA_iincB (ls' := [some (zR 110), some (zI ((k : Int) + 1))]) dX9_takeRead_110 rfl rfl ⟨by omega, by omega⟩ rfl ?_
      refine zA_goto (tgt := 80) dX9_takeRead_113 rfl ?_
      exact ih _ (by omega) (k + 1) rfl _ (by omega) (hB.put rfl rfl)
theorem l_X9_takeReadA (d : Nat) (μ : zM) : ∀ (t0 k : Nat), 30 - k = t0 → ∀ ν : zM, k ≤ 30 → mA μ ν k → zA RX9 cX9_takeRead 2 (zRm (d + 1) 0) zN0 TF 0 ν 42 [some (zR 110), some (zI (k : Int))] [] (zPv (fun ν => (∀ k, k ≠ 110 → k ≠ 111 → k ≠ 112 → k ≠ 113 → k ≠ 114 → ν k = μ k) ∧ (∀ i, 5 < i → ν 110 i = μ 110 i) ∧ (ν 110 0 = μ 110 16 ∧ ν 110 1 = μ 110 17 ∧ ν 110 2 = μ 110 18 ∧ ν 110 4 = μ 110 21 ∧ ν 110 5 = μ 110 22) ∧ (∀ i, i < 30 → ν 111 i = μ 116 i ∧ ν 114 i = μ 116 i) ∧ (∀ i, i < 10 → ν 112 i = μ 117 i ∧ ν 113 i = μ 118 i) ∧ ν 114 30 = μ 110 20 ∧ ν 114 31 = 0 ∧ ν 114 32 = 0)) := by
  intro t0
  induction t0 using Nat.strongRecOn with
  | ind t0 ih =>
    intro k hk ν hk10 hA
    refine zA_iload_n dX9_takeRead_42 rfl ?_
    refine zA_bipush dX9_takeRead_43 rfl ?_
    refine zA_icmp_ge (tgt := 78) dX9_takeRead_45 rfl (fun h45 => ?_) (fun h45 => ?_)
    · refine zA_iconst dX9_takeRead_78 rfl ?_
      refine zA_istore_n (ls' := [some (zR 110), some (zI 0)]) dX9_takeRead_79 rfl rfl ?_
      exact l_X9_takeReadB d μ _ 0 rfl ν (by decide) ⟨(show k = 30 by omega) ▸ hA, fun i hi => absurd hi (Nat.not_lt_zero _)⟩
    · refine zA_aload_n dX9_takeRead_48 rfl ?_
      refine zA_getR fX9_7 t_110 rfl dX9_takeRead_49 ?_
      refine zA_iload_n dX9_takeRead_52 rfl ?_
      refine zA_aload_n dX9_takeRead_53 rfl ?_
      refine zA_getR fX9_29 t_110 rfl dX9_takeRead_54 ?_
      refine zA_iload_n dX9_takeRead_57 rfl ?_
      refine zA_ialE (w := μ 116 k) (j := k) t_116 (by omega) (by omega) dX9_takeRead_58 rfl (by rw [hA.1 116 (by decide) (by decide) (by decide) (by decide) (by decide)]) ?_
      refine zA_iasE (j := k) t_111 (by omega) (by omega) dX9_takeRead_59 rfl ?_
      refine zA_aload_n dX9_takeRead_60 rfl ?_
      refine zA_getR fX9_19 t_110 rfl dX9_takeRead_61 ?_
      refine zA_iload_n dX9_takeRead_64 rfl ?_
      refine zA_aload_n dX9_takeRead_65 rfl ?_
      refine zA_getR fX9_29 t_110 rfl dX9_takeRead_66 ?_
      refine zA_iload_n dX9_takeRead_69 rfl ?_
      refine zA_ialE (w := μ 116 k) (j := k) t_116 (by omega) (by omega) dX9_takeRead_70 rfl (by rw [zup_k (by decide)]; exact (by rw [hA.1 116 (by decide) (by decide) (by decide) (by decide) (by decide)])) ?_
      refine zA_iasE (j := k) t_114 (by omega) (by omega) dX9_takeRead_71 rfl ?_
      refine zA_iincB (ls' := [some (zR 110), some (zI ((k : Int) + 1))]) dX9_takeRead_72 rfl rfl ⟨by omega, by omega⟩ rfl ?_
      refine zA_goto (tgt := 42) dX9_takeRead_75 rfl ?_
      exact ih _ (by omega) (k + 1) rfl _ (by omega) (hA.put rfl rfl)
theorem c_X9_takeRead (d : Nat) (μ : zM) : zMet (d + 1) 0 yX9_takeRead cX9_takeRead 2 none TF μ [zR 110] (zPv (fun ν => (∀ k, k ≠ 110 → k ≠ 111 → k ≠ 112 → k ≠ 113 → k ≠ 114 → ν k = μ k) ∧ (∀ i, 5 < i → ν 110 i = μ 110 i) ∧ (ν 110 0 = μ 110 16 ∧ ν 110 1 = μ 110 17 ∧ ν 110 2 = μ 110 18 ∧ ν 110 4 = μ 110 21 ∧ ν 110 5 = μ 110 22) ∧ (∀ i, i < 30 → ν 111 i = μ 116 i ∧ ν 114 i = μ 116 i) ∧ (∀ i, i < 10 → ν 112 i = μ 117 i ∧ ν 113 i = μ 118 i) ∧ ν 114 30 = μ 110 20 ∧ ν 114 31 = 0 ∧ ν 114 32 = 0)) := by
  refine zMv_of RX9 rfl (by decide) rfl (ls := [some (zR 110), none]) rfl (fun hok => ?_)
  refine zA_aload_n dX9_takeRead_0 rfl ?_
  refine zA_aload_n dX9_takeRead_1 rfl ?_
  refine zA_getI fX9_118 t_110 dX9_takeRead_2 ?_
  refine zA_putI wX9_75 t_110 dX9_takeRead_5 ?_
  refine zA_aload_n dX9_takeRead_8 rfl ?_
  refine zA_aload_n dX9_takeRead_9 rfl ?_
  refine zA_getE (w := μ 110 17) fX9_121 t_110 dX9_takeRead_10 (by rw [zup_n (by decide)]) ?_
  refine zA_putI wX9_163 t_110 dX9_takeRead_13 ?_
  refine zA_aload_n dX9_takeRead_16 rfl ?_
  refine zA_aload_n dX9_takeRead_17 rfl ?_
  refine zA_getE (w := μ 110 18) fX9_128 t_110 dX9_takeRead_18 (by rw [zup_n (by decide), zup_n (by decide)]) ?_
  refine zA_putI wX9_78 t_110 dX9_takeRead_21 ?_
  refine zA_aload_n dX9_takeRead_24 rfl ?_
  refine zA_aload_n dX9_takeRead_25 rfl ?_
  refine zA_getE (w := μ 110 21) fX9_137 t_110 dX9_takeRead_26 (by rw [zup_n (by decide), zup_n (by decide), zup_n (by decide)]) ?_
  refine zA_putI wX9_166 t_110 dX9_takeRead_29 ?_
  refine zA_aload_n dX9_takeRead_32 rfl ?_
  refine zA_aload_n dX9_takeRead_33 rfl ?_
  refine zA_getE (w := μ 110 22) fX9_144 t_110 dX9_takeRead_34 (by rw [zup_n (by decide), zup_n (by decide), zup_n (by decide), zup_n (by decide)]) ?_
  refine zA_putI wX9_169 t_110 dX9_takeRead_37 ?_
  refine zA_iconst dX9_takeRead_40 rfl ?_
  refine zA_istore_n (ls' := [some (zR 110), some (zI 0)]) dX9_takeRead_41 rfl rfl ?_
  exact l_X9_takeReadA d μ _ 0 rfl _ (by decide) ⟨fun q h1 h2 h3 h4 h5 => (by funext i; rw [zup_k h1, zup_k h1, zup_k h1, zup_k h1, zup_k h1]), fun i hi => (by rw [zup_n (by omega), zup_n (by omega), zup_n (by omega), zup_n (by omega), zup_n (by omega)]), ⟨rfl, rfl, rfl, rfl, rfl⟩, fun i hi => absurd hi (Nat.not_lt_zero _)⟩
def nNew (μ ν : zM) : txT → Prop
  | (_, n, u, m, g, dg, t, ow, fi, se) => (ν 110 0 = n ∧ ν 110 1 = u ∧ ν 110 2 = m ∧ ν 110 4 = dg ∧ ν 110 5 = t) ∧ (∀ i, lv n m i → ν 111 i = ow i ∧ ν 114 i = ow i) ∧ (∀ k, k < t → ν 112 k = fi k ∧ ν 113 k = se k) ∧ (ν 114 30 = g ∧ ν 114 31 = 0 ∧ ν 114 32 = 0) ∧ (ν 110 33 = 0 ∧ ν 110 37 = 0 ∧ ν 110 26 = 0 ∧ ν 110 12 = -1 ∧ ν 110 11 = 0) ∧ (ν 130 0 = 0 ∧ ν 130 1 = 0) ∧ ν 110 9 = μ 110 9 ∧ (∀ k, k < 110 → ν k = μ k)
theorem nNew.m {μ ν : zM} : ∀ {S : txT}, nNew μ ν S → ν 110 2 = (S.2.2.2.1 : Nat)
  | (_, _, _, _, _, _, _, _, _, _), h => h.1.2.2.1
theorem x_X9_house (d : Nat) (μ : zM) (x : Nat → Int) (L : Nat) (ν ν0 : zM) (v : Int) (o : Int × Nat) (hf : hR μ ν) (hv : v ≠ 0) (hrg : oR o) (h' : mO ν0 ν v o) (hR1 : (txR x L (L + 1) tx0).1 = o) : zA RX9 cX9_house 2 (zRm (d + 8) 0) zN0 TF 0 ν 82 [some (zR 110), some (zI v)] [] (zPi (fun v ν => ((txR x L (L + 1) tx0).1.1 ≠ 0 ∧ v = -10 - (txR x L (L + 1) tx0).1.1 ∧ ν 110 12 = (txR x L (L + 1) tx0).1.2 ∧ (∀ k, k ≠ 110 → k ≠ 116 → k ≠ 117 → k ≠ 118 → ν k = μ k) ∧ (∀ i, (i < 11 ∨ i = 19 ∨ 22 < i) → ν 110 i = μ 110 i) ∧ ν 110 11 = 0) ∨ ((txR x L (L + 1) tx0).1.1 = 0 ∧ v = ((txR x L (L + 1) tx0).2.2.2.2.1 : Nat) ∧ nNew μ ν (txR x L (L + 1) tx0).2))) := by
  have hvr : 0 ≤ v ∧ v ≤ 4 := by rw [h'.1]; exact hrg
  refine zA_aload_n dX9_house_82 rfl ?_
  refine zA_iconst dX9_house_83 rfl ?_
  refine zA_putI wX9_90 t_110 dX9_house_84 ?_
  refine zA_iload_n dX9_house_87 rfl ?_
  refine zA_if_le (tgt := 96) dX9_house_88 rfl (fun h88 => False.elim (by omega)) fun h88 => ?_
  refine zA_bipush dX9_house_91 rfl ?_
  refine zA_iload_n dX9_house_93 rfl ?_
  refine zA_isubB dX9_house_94 ⟨by omega, by omega⟩ ?_
  exact zA_ri dX9_house_95 (Or.inl ⟨by rw [hR1]; rw [← h'.1]; exact hv, by rw [hR1, ← h'.1], by rw [hR1]; exact h'.2.2 (mO_1 h' hv), fun k h1 h2 h3 h4 => (by funext i; rw [zup_k h1, hf.1 k h1 h2 h3 h4]), fun i hi => (by rw [zup_n (by omega), hf.2 i (by omega)]), by rw [zup_s]⟩)
theorem y_X9_house (d : Nat) (μ : zM) (x : Nat → Int) (L : Nat) (ν : zM) (S : txT) (hf : hR μ ν) (h12 : ν 110 12 = -1) (hS : mS ν S) (hW : txW L S) (hR0 : (txR x L (L + 1) tx0).1.1 = 0) (hR2 : (txR x L (L + 1) tx0).2 = S) : zA RX9 cX9_house 2 (zRm (d + 8) 0) zN0 TF 0 ν 82 [some (zR 110), some (zI 0)] [] (zPi (fun v ν => ((txR x L (L + 1) tx0).1.1 ≠ 0 ∧ v = -10 - (txR x L (L + 1) tx0).1.1 ∧ ν 110 12 = (txR x L (L + 1) tx0).1.2 ∧ (∀ k, k ≠ 110 → k ≠ 116 → k ≠ 117 → k ≠ 118 → ν k = μ k) ∧ (∀ i, (i < 11 ∨ i = 19 ∨ 22 < i) → ν 110 i = μ 110 i) ∧ ν 110 11 = 0) ∨ ((txR x L (L + 1) tx0).1.1 = 0 ∧ v = ((txR x L (L + 1) tx0).2.2.2.2.1 : Nat) ∧ nNew μ ν (txR x L (L + 1) tx0).2))) := by
  refine zA_aload_n dX9_house_82 rfl ?_
  refine zA_iconst dX9_house_83 rfl ?_
  refine zA_putI wX9_90 t_110 dX9_house_84 ?_
  refine zA_iload_n dX9_house_87 rfl ?_
  refine zA_if_le (tgt := 96) dX9_house_88 rfl (fun h88 => ?_) (fun h88 => False.elim (by omega))
  refine zA_aload_n dX9_house_96 rfl ?_
  refine zA_cVv (st := []) kX9_175 t_110 rfl rfl (c_X9_takeRead (d + 6) (zup ν 110 11 0)) rfl rfl rfl dX9_house_97 (zfit0 (by omega) rfl) (fun μ1 q1 => ?_)
  obtain ⟨p1, p2, ⟨p3, p4, p5, p6, p7⟩, p8, p9, p10, p11, p12⟩ := q1
  refine zA_aload_n dX9_house_100 rfl ?_
  refine zA_iconst dX9_house_101 rfl ?_
  refine zA_putI wX9_178 t_110 dX9_house_102 ?_
  refine zA_aload_n dX9_house_105 rfl ?_
  refine zA_iconst dX9_house_106 rfl ?_
  refine zA_putI wX9_181 t_110 dX9_house_107 ?_
  refine zA_aload_n dX9_house_110 rfl ?_
  refine zA_iconst dX9_house_111 rfl ?_
  refine zA_putI wX9_184 t_110 dX9_house_112 ?_
  refine zA_aload_n dX9_house_115 rfl ?_
  refine zA_getR fX9_71 t_110 rfl dX9_house_116 ?_
  refine zA_iconst dX9_house_119 rfl ?_
  refine zA_iconst dX9_house_120 rfl ?_
  refine zA_zast t_130 (by omega) (by omega) (by decide) dX9_house_121 ?_
  refine zA_aload_n dX9_house_122 rfl ?_
  refine zA_getR fX9_71 t_110 rfl dX9_house_123 ?_
  refine zA_iconst dX9_house_126 rfl ?_
  refine zA_iconst dX9_house_127 rfl ?_
  refine zA_zast t_130 (by omega) (by omega) (by decide) dX9_house_128 ?_
  have hNN : nNew μ (zup (zup (zup (zup (zup μ1 110 33 0) 110 37 0) 110 26 0) 130 0 0) 130 1 0) (txR x L (L + 1) tx0).2 := by
    rw [hR2]
    have hS' := hS
    have hW' := hW
    obtain ⟨a, n, u, m, g, dg, t, ow, fi, se⟩ := S
    obtain ⟨d1, d2, d3, d4, d5, d6, d7, d8⟩ := hS'
    obtain ⟨w1, w2, w3, w4, w5, w6, w7, w8, w9⟩ := hW'
    refine ⟨⟨by show μ1 110 0 = _; rw [p3]; exact d1, by show μ1 110 1 = _; rw [p4]; exact d2, by show μ1 110 2 = _; rw [p5]; exact d3, by show μ1 110 4 = _; rw [p6]; exact d5, by show μ1 110 5 = _; rw [p7]; exact d6⟩, fun i hi => ?_, fun k hk => ?_, ⟨by show μ1 114 30 = _; rw [p10]; exact d4, p11, p12⟩, ⟨rfl, rfl, rfl, by show μ1 110 12 = _; rw [p2 12 (by decide)]; exact h12, by show μ1 110 11 = _; rw [p2 11 (by decide)]; rfl⟩, ⟨rfl, rfl⟩, by show μ1 110 9 = _; rw [p2 9 (by decide), zup_n (by decide)]; exact hf.2 9 (by decide), fun k hk => ?_⟩
    · show μ1 111 i = _ ∧ μ1 114 i = _
      rw [(p8 i (by omega)).1, (p8 i (by omega)).2]
      exact ⟨d7 i hi, d7 i hi⟩
    · show μ1 112 k = _ ∧ μ1 113 k = _
      rw [(p9 k (by omega)).1, (p9 k (by omega)).2]
      exact d8 k hk
    · funext i
      rw [zup_k (by omega), zup_k (by omega), zup_k (by omega), zup_k (by omega), zup_k (by omega), p1 k (by omega) (by omega) (by omega) (by omega) (by omega), zup_k (by omega), hf.1 k (by omega) (by omega) (by omega) (by omega)]
  refine zA_aload_n dX9_house_129 rfl ?_
  refine zA_getE (w := ((txR x L (L + 1) tx0).2.2.2.2.1 : Nat)) fX9_78 t_110 dX9_house_130 (nNew.m hNN) ?_
  exact zA_ri dX9_house_133 (Or.inr ⟨hR0, rfl, hNN⟩)
theorem l_X9_house (d : Nat) (μ : zM) (x : Nat → Int) (L : Nat) : ∀ (k : Nat) (S : txT) (ν : zM), L - S.1 < k → hR μ ν → ν 110 12 = -1 → mT ν x L → ν 110 13 = (S.1 : Nat) → mS ν S → txW L S → txR x L k S = (txR x L (L + 1) tx0) → zA RX9 cX9_house 2 (zRm (d + 8) 0) zN0 TF 0 ν 63 [some (zR 110), some (zI 0)] [] (zPi (fun v ν => ((txR x L (L + 1) tx0).1.1 ≠ 0 ∧ v = -10 - (txR x L (L + 1) tx0).1.1 ∧ ν 110 12 = (txR x L (L + 1) tx0).1.2 ∧ (∀ k, k ≠ 110 → k ≠ 116 → k ≠ 117 → k ≠ 118 → ν k = μ k) ∧ (∀ i, (i < 11 ∨ i = 19 ∨ 22 < i) → ν 110 i = μ 110 i) ∧ ν 110 11 = 0) ∨ ((txR x L (L + 1) tx0).1.1 = 0 ∧ v = ((txR x L (L + 1) tx0).2.2.2.2.1 : Nat) ∧ nNew μ ν (txR x L (L + 1) tx0).2)))
  | 0, S, ν, hk, hf, h12, hT, h5, hS, hW, hR1 => absurd hk (by omega)
  | k + 1, S, ν, hk, hf, h12, hT, h5, hS, hW, hR1 => by
    have ih := l_X9_house d μ x L k
    have hL := hT.2.1
    have haL := txW_L S hW
    have hsL := @txS_L x L S.1 haL
    have hge : -1 ≤ txH x L S.1 := by
      unfold txH
      split
      · next e => have := hT.2.2 _ e; omega
      · omega
    have hS1 : mS (zup ν 110 13 (txS x L S.1 : Int)) (txS x L S.1, S.2) := by
      obtain ⟨a, n, u, m, g, dg, t, ow, fi, se⟩ := S
      exact mD.h8 hS (h8.u (by decide))
    refine zA_iload_n dX9_house_63 rfl ?_
    refine zA_if_ne (tgt := 82) dX9_house_64 rfl (fun h64 => False.elim (by omega)) fun h64 => ?_
    refine zA_aload_n dX9_house_67 rfl ?_
    refine zA_cVi (st := []) kX9_97 t_110 rfl rfl (c_X9_here (d + 6) ν x L S.1 haL hT h5) rfl rfl rfl dX9_house_68 (zfit0 (by omega) rfl) (fun v1 μ1 q1 => ?_)
    obtain ⟨rfl, rfl⟩ := q1
    refine zA_if_lt (tgt := 82) dX9_house_71 rfl (fun h71 => ?_) (fun h71 => ?_)
    · have he : txH x L S.1 = -1 := by omega
      exact y_X9_house d μ x L _ S (hR_u (by decide) hf) h12 (hS.h8 (h8.u (by decide))) hW (by rw [← hR1]; simp only [txR]; rw [if_pos he]) (by rw [← hR1]; simp only [txR]; rw [if_pos he])
    · have hne : ¬ txH x L S.1 = -1 := by omega
      refine zA_aload_n dX9_house_74 rfl ?_
      refine zA_cVi (st := []) kX9_172 t_110 rfl rfl (c_X9_takeClauseS (d + 1) (zup ν 110 13 ((txS x L S.1 : Int))) x L (txS x L S.1, S.2) ((h8.u (by decide)).mt hT) (by rw [zup_s]) hS1 (txW_sk S hW)) rfl rfl rfl dX9_house_75 (zfit0 (by omega) rfl) (fun v2 μ2 q2 => ?_)
      obtain ⟨g2, o2, w2⟩ := q2
      rw [txO_skS] at o2
      rw [txQ_skS] at w2
      have g9 : hR μ μ2 := (hR_u (by decide) hf).trans g2
      by_cases hz : v2 = 0
      · have r1 := mO_0 o2 (txO_rg S) (by omega)
        have hN := txW_next S hW r1.1
        have hQL := txW_L _ hN.1
        subst hz
        refine zA_istore_n (ls' := [some (zR 110), some (zI 0)]) dX9_house_78 rfl rfl ?_
        refine zA_goto (tgt := 63) dX9_house_79 rfl ?_
        exact ih (txQ x L S) μ2 (by omega) g9 (by rw [r1.2.2.2]; exact h12) (((hR_u (by decide) (hR.refl _)).trans g2).mt hT) (by rw [txQ_at S r1.1]; exact r1.2.2.1) (w2 rfl) hN.1 (by rw [← hR1]; simp only [txR]; rw [if_neg hne, if_pos r1.1])
      · skip
        refine zA_istore_n (ls' := [some (zR 110), some (zI v2)]) dX9_house_78 rfl rfl ?_
        refine zA_goto (tgt := 63) dX9_house_79 rfl ?_
        refine zA_iload_n dX9_house_63 rfl ?_
        refine zA_if_ne (tgt := 82) dX9_house_64 rfl (fun h64 => ?_) (fun h64 => False.elim (by omega))
        exact x_X9_house d μ x L μ2 _ v2 _ g9 hz (txO_rg S) o2 (by rw [← hR1]; simp only [txR]; rw [if_neg hne, if_neg (mO_1 o2 hz)])
theorem k_X9_house (d : Nat) (μ : zM) (x : Nat → Int) (L : Nat) (hT : mT μ x L) : ∀ (t0 k : Nat), 30 - k = t0 → ∀ ν : zM, k ≤ 30 → hR μ ν → ν 110 12 = -1 → ν 110 13 = 0 → (ν 110 16 = 0 ∧ ν 110 17 = 0 ∧ ν 110 18 = 0 ∧ ν 110 20 = 0 ∧ ν 110 21 = 0 ∧ ν 110 22 = 0) → zA RX9 cX9_house 2 (zRm (d + 8) 0) zN0 TF 0 ν 42 [some (zR 110), some (zI (k : Int))] [] (zPi (fun v ν => ((txR x L (L + 1) tx0).1.1 ≠ 0 ∧ v = -10 - (txR x L (L + 1) tx0).1.1 ∧ ν 110 12 = (txR x L (L + 1) tx0).1.2 ∧ (∀ k, k ≠ 110 → k ≠ 116 → k ≠ 117 → k ≠ 118 → ν k = μ k) ∧ (∀ i, (i < 11 ∨ i = 19 ∨ 22 < i) → ν 110 i = μ 110 i) ∧ ν 110 11 = 0) ∨ ((txR x L (L + 1) tx0).1.1 = 0 ∧ v = ((txR x L (L + 1) tx0).2.2.2.2.1 : Nat) ∧ nNew μ ν (txR x L (L + 1) tx0).2))) := by
  intro t0
  induction t0 using Nat.strongRecOn with
  | ind t0 ih =>
    intro k hk ν hk30 hf h12 h13 hz
    refine zA_iload_n dX9_house_42 rfl ?_
    refine zA_bipush dX9_house_43 rfl ?_
    refine zA_icmp_ge (tgt := 61) dX9_house_45 rfl (fun h45 => ?_) (fun h45 => ?_)
    · refine zA_iconst dX9_house_61 rfl ?_
      refine zA_istore_n (ls' := [some (zR 110), some (zI 0)]) dX9_house_62 rfl rfl ?_
      exact l_X9_house d μ x L (L + 1) tx0 ν (by show L - 0 < L + 1; omega) hf h12 (hf.mt hT) h13 ⟨hz.1, hz.2.1, hz.2.2.1, hz.2.2.2.1, hz.2.2.2.2.1, hz.2.2.2.2.2, fun i hi => absurd hi.1 (Nat.not_lt_zero _), fun j hj => absurd hj (Nat.not_lt_zero _)⟩ (tx0_W L) rfl
    · refine zA_aload_n dX9_house_48 rfl ?_
      refine zA_getR fX9_29 t_110 rfl dX9_house_49 ?_
      refine zA_iload_n dX9_house_52 rfl ?_
      refine zA_iconst dX9_house_53 rfl ?_
      refine zA_iasE (j := k) t_116 (by omega) (by omega) dX9_house_54 rfl ?_
      refine zA_iincB (ls' := [some (zR 110), some (zI ((k : Int) + 1))]) dX9_house_55 rfl rfl ⟨by omega, by omega⟩ rfl ?_
      refine zA_goto (tgt := 42) dX9_house_58 rfl ?_
      exact ih _ (by omega) (k + 1) rfl _ (by omega) (hR_up (by decide) hf) h12 h13 hz
theorem c_X9_house (d : Nat) (μ : zM) (x : Nat → Int) (L : Nat) (hT : mT μ x L) : zMet (d + 8) 0 yX9_house cX9_house 2 (some .int) TF μ [zR 110] (zPi (fun v ν => ((txR x L (L + 1) tx0).1.1 ≠ 0 ∧ v = -10 - (txR x L (L + 1) tx0).1.1 ∧ ν 110 12 = (txR x L (L + 1) tx0).1.2 ∧ (∀ k, k ≠ 110 → k ≠ 116 → k ≠ 117 → k ≠ 118 → ν k = μ k) ∧ (∀ i, (i < 11 ∨ i = 19 ∨ 22 < i) → ν 110 i = μ 110 i) ∧ ν 110 11 = 0) ∨ ((txR x L (L + 1) tx0).1.1 = 0 ∧ v = ((txR x L (L + 1) tx0).2.2.2.2.1 : Nat) ∧ nNew μ ν (txR x L (L + 1) tx0).2))) := by
  refine zMi_of RX9 rfl (by decide) rfl (ls := [some (zR 110), none]) rfl (fun hok => ?_)
  refine zA_aload_n dX9_house_0 rfl ?_
  refine zA_iconst dX9_house_1 rfl ?_
  refine zA_putI wX9_25 t_110 dX9_house_2 ?_
  refine zA_aload_n dX9_house_5 rfl ?_
  refine zA_iconst dX9_house_6 rfl ?_
  refine zA_putI wX9_94 t_110 dX9_house_7 ?_
  refine zA_aload_n dX9_house_10 rfl ?_
  refine zA_iconst dX9_house_11 rfl ?_
  refine zA_putI wX9_118 t_110 dX9_house_12 ?_
  refine zA_aload_n dX9_house_15 rfl ?_
  refine zA_iconst dX9_house_16 rfl ?_
  refine zA_putI wX9_121 t_110 dX9_house_17 ?_
  refine zA_aload_n dX9_house_20 rfl ?_
  refine zA_iconst dX9_house_21 rfl ?_
  refine zA_putI wX9_128 t_110 dX9_house_22 ?_
  refine zA_aload_n dX9_house_25 rfl ?_
  refine zA_iconst dX9_house_26 rfl ?_
  refine zA_putI wX9_134 t_110 dX9_house_27 ?_
  refine zA_aload_n dX9_house_30 rfl ?_
  refine zA_iconst dX9_house_31 rfl ?_
  refine zA_putI wX9_137 t_110 dX9_house_32 ?_
  refine zA_aload_n dX9_house_35 rfl ?_
  refine zA_iconst dX9_house_36 rfl ?_
  refine zA_putI wX9_144 t_110 dX9_house_37 ?_
  refine zA_iconst dX9_house_40 rfl ?_
  refine zA_istore_n (ls' := [some (zR 110), some (zI 0)]) dX9_house_41 rfl rfl ?_
  exact k_X9_house d μ x L hT _ 0 rfl _ (by decide) (hR_u (by decide) (hR_u (by decide) (hR_u (by decide) (hR_u (by decide) (hR_u (by decide) (hR_u (by decide) (hR_u (by decide) (hR_u (by decide) (hR.refl _))))))))) rfl rfl ⟨rfl, rfl, rfl, rfl, rfl, rfl⟩
