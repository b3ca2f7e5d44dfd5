/-! ===== deeds: glove, wash, day ===== -/
def gl (g a s : Int) : Int := if s = 0 then zand g (zxor (zshl 1 a) (-1)) else zor g (zshl 1 a)
theorem c_X8_glove (d : Nat) (μ : zM) (m x z : Nat) (a s : Int) (hm : μ 1 8 = m) (hx : x < 20) (hz : z ≤ 20) (hx1 : μ 54 1 = x) (hz1 : μ 54 2 = z) : zMet (d + 4) 0 yX8_glove cX8_glove 4 (some .int) TF μ [zR 0, zI a, zI s] (zPi (fun v ν => (¬ (0 ≤ a ∧ a < m) → v = -1000000001 ∧ μ = ν) ∧ ((0 ≤ a ∧ a < m) → (zbit (μ 1 10) a = 1 → v = -1000000003 ∧ μ = ν) ∧ (¬ zbit (μ 1 10) a = 1 → v = zbit (μ 52 1) a ∧ dC μ ν x z ∧ dF μ ν ∧ ν 53 = μ 53 ∧ ν 52 1 = gl (μ 52 1) a s ∧ ν 52 2 = μ 52 2 ∧ ν 52 3 = μ 52 3)))) := by
  refine zMi_of RX8 rfl (by decide) rfl (ls := [some (zR 0), some (zI a), some (zI s), none]) rfl (fun hok0 => ?_)
  refine zA_aload_n dX8_glove_0 rfl ?_
  refine zA_getR fX8_12 t_0 rfl dX8_glove_1 ?_
  refine zA_iload_n dX8_glove_4 rfl ?_
  refine zA_cVb (st := []) kX8_185 t_1 rfl rfl (c_X2_hasCoat (d + 2) a μ) rfl rfl rfl dX8_glove_5 (zfit0 (by omega) rfl) (fun v1 μ1 q1 => ?_)
  obtain ⟨b1, rfl⟩ := q1
  rw [hm] at b1
  refine zA_ifb_ne (tgt := 14) dX8_glove_8 rfl (fun h8 => ?_) (fun h8 => ?_)
  · refine zA_aload_n dX8_glove_14 rfl ?_
    refine zA_getR fX8_12 t_0 rfl dX8_glove_15 ?_
    refine zA_getI fX8_129 t_1 dX8_glove_18 ?_
    refine zA_iload_n dX8_glove_21 rfl ?_
    refine zA_cSb (st := []) kX8_189 (c_X8_isIn (d + 2) (μ 1 10) a μ) rfl rfl rfl dX8_glove_22 (zfit0 (by omega) rfl) (fun v2 μ2 q2 => ?_)
    obtain ⟨b2, rfl⟩ := q2
    refine zA_ifb_eq (tgt := 31) dX8_glove_25 rfl (fun h25 => ?_) (fun h25 => ?_)
    · refine zA_aload_n dX8_glove_31 rfl ?_
      refine zA_getR fX8_54 t_0 rfl dX8_glove_32 ?_
      refine zA_aload_n dX8_glove_35 rfl ?_
      refine zA_getR fX8_47 t_0 rfl dX8_glove_36 ?_
      refine zA_cVv (st := []) kX8_168 t_54 rfl rfl (c_X1_remember d x z μ hx hz hx1 hz1) rfl rfl rfl dX8_glove_39 (zfit0 (by omega) rfl) (fun μ3 q3 => ?_)
      obtain ⟨q3a, q3b⟩ := dC_rem hx q3
      refine zA_aload_n dX8_glove_42 rfl ?_
      refine zA_getR fX8_47 t_0 rfl dX8_glove_43 ?_
      refine zA_getE (w := μ 52 1) fX8_126 t_52 dX8_glove_46 (by rw [q3b 52 (by decide) (by decide)]) ?_
      refine zA_iload_n dX8_glove_49 rfl ?_
      refine zA_cSb (st := []) kX8_189 (c_X8_isIn (d + 2) (μ 52 1) a μ3) rfl rfl rfl dX8_glove_50 (zfit0 (by omega) rfl) (fun v4 μ4 q4 => ?_)
      obtain ⟨b4, rfl⟩ := q4
      refine zA_ifb_eq (tgt := 60) dX8_glove_53 rfl (fun h53 => ?_) (fun h53 => ?_)
      · refine zA_iconst dX8_glove_60 rfl ?_
        refine zA_istore_n (ls' := [some (zR 0), some (zI a), some (zI s), some (zI 0)]) dX8_glove_61 rfl rfl ?_
        refine zA_aload_n dX8_glove_62 rfl ?_
        refine zA_getR fX8_47 t_0 rfl dX8_glove_63 ?_
        refine zA_iload_n dX8_glove_66 rfl ?_
        refine zA_if_eq (tgt := 84) dX8_glove_67 rfl (fun h67 => ?_) (fun h67 => ?_)
        · refine zA_aload_n dX8_glove_84 rfl ?_
          refine zA_getR fX8_47 t_0 rfl dX8_glove_85 ?_
          refine zA_getE (w := μ 52 1) fX8_126 t_52 dX8_glove_88 (by rw [q3b 52 (by decide) (by decide)]) ?_
          refine zA_iconst dX8_glove_91 rfl ?_
          refine zA_iload_n dX8_glove_92 rfl ?_
          refine zA_ishl dX8_glove_93 ?_
          refine zA_iconst dX8_glove_94 rfl ?_
          refine zA_ixor dX8_glove_95 ?_
          refine zA_iand dX8_glove_96 ?_
          refine zA_putI wX8_126 t_52 dX8_glove_97 ?_
          refine zA_iload_n dX8_glove_100 rfl ?_
          refine zA_ri dX8_glove_101 ⟨fun q => absurd (b1.mp h8) q, fun _ => ⟨fun q => False.elim (by have := b2.mpr q; simp_all), fun _ => ?_⟩⟩
          refine ⟨?_, q3a.of hx (fun k hk => by funext i; rw [zup_k (by omega)]), fun k k1 k2 k3 k4 k5 => ?_, ?_, ?_, ?_, ?_⟩
          · rcases zbit_01 (μ 52 1) a with h | h
            · first | (rw [h]; done) | (exfalso; have := b4.mp h53; omega)
            · first | (rw [h]; done) | (exfalso; have := b4.mpr h; simp_all)
          · funext i
            rw [zup_k k2, q3b k k4 k5]
          · rw [← q3b 53 (by decide) (by decide)]
            rfl
          · rw [zup_s]
            unfold gl
            first | (rw [if_pos h67]; done) | (rw [if_neg h67]; done)
          · rw [zup_n (by decide), q3b 52 (by decide) (by decide)]
          · rw [zup_n (by decide), q3b 52 (by decide) (by decide)]
        · refine zA_aload_n dX8_glove_70 rfl ?_
          refine zA_getR fX8_47 t_0 rfl dX8_glove_71 ?_
          refine zA_getE (w := μ 52 1) fX8_126 t_52 dX8_glove_74 (by rw [q3b 52 (by decide) (by decide)]) ?_
          refine zA_iconst dX8_glove_77 rfl ?_
          refine zA_iload_n dX8_glove_78 rfl ?_
          refine zA_ishl dX8_glove_79 ?_
          refine zA_ior dX8_glove_80 ?_
          refine zA_goto (tgt := 97) dX8_glove_81 rfl ?_
          refine zA_putI wX8_126 t_52 dX8_glove_97 ?_
          refine zA_iload_n dX8_glove_100 rfl ?_
          refine zA_ri dX8_glove_101 ⟨fun q => absurd (b1.mp h8) q, fun _ => ⟨fun q => False.elim (by have := b2.mpr q; simp_all), fun _ => ?_⟩⟩
          refine ⟨?_, q3a.of hx (fun k hk => by funext i; rw [zup_k (by omega)]), fun k k1 k2 k3 k4 k5 => ?_, ?_, ?_, ?_, ?_⟩
          · rcases zbit_01 (μ 52 1) a with h | h
            · first | (rw [h]; done) | (exfalso; have := b4.mp h53; omega)
            · first | (rw [h]; done) | (exfalso; have := b4.mpr h; simp_all)
          · funext i
            rw [zup_k k2, q3b k k4 k5]
          · rw [← q3b 53 (by decide) (by decide)]
            rfl
          · rw [zup_s]
            unfold gl
            first | (rw [if_pos h67]; done) | (rw [if_neg h67]; done)
          · rw [zup_n (by decide), q3b 52 (by decide) (by decide)]
          · rw [zup_n (by decide), q3b 52 (by decide) (by decide)]
      · refine zA_iconst dX8_glove_56 rfl ?_
        refine zA_goto (tgt := 61) dX8_glove_57 rfl ?_
        refine zA_istore_n (ls' := [some (zR 0), some (zI a), some (zI s), some (zI 1)]) dX8_glove_61 rfl rfl ?_
        refine zA_aload_n dX8_glove_62 rfl ?_
        refine zA_getR fX8_47 t_0 rfl dX8_glove_63 ?_
        refine zA_iload_n dX8_glove_66 rfl ?_
        refine zA_if_eq (tgt := 84) dX8_glove_67 rfl (fun h67 => ?_) (fun h67 => ?_)
        · refine zA_aload_n dX8_glove_84 rfl ?_
          refine zA_getR fX8_47 t_0 rfl dX8_glove_85 ?_
          refine zA_getE (w := μ 52 1) fX8_126 t_52 dX8_glove_88 (by rw [q3b 52 (by decide) (by decide)]) ?_
          refine zA_iconst dX8_glove_91 rfl ?_
          refine zA_iload_n dX8_glove_92 rfl ?_
          refine zA_ishl dX8_glove_93 ?_
          refine zA_iconst dX8_glove_94 rfl ?_
          refine zA_ixor dX8_glove_95 ?_
          refine zA_iand dX8_glove_96 ?_
          refine zA_putI wX8_126 t_52 dX8_glove_97 ?_
          refine zA_iload_n dX8_glove_100 rfl ?_
          refine zA_ri dX8_glove_101 ⟨fun q => absurd (b1.mp h8) q, fun _ => ⟨fun q => False.elim (by have := b2.mpr q; simp_all), fun _ => ?_⟩⟩
          refine ⟨?_, q3a.of hx (fun k hk => by funext i; rw [zup_k (by omega)]), fun k k1 k2 k3 k4 k5 => ?_, ?_, ?_, ?_, ?_⟩
          · rcases zbit_01 (μ 52 1) a with h | h
            · first | (rw [h]; done) | (exfalso; have := b4.mp h53; omega)
            · first | (rw [h]; done) | (exfalso; have := b4.mpr h; simp_all)
          · funext i
            rw [zup_k k2, q3b k k4 k5]
          · rw [← q3b 53 (by decide) (by decide)]
            rfl
          · rw [zup_s]
            unfold gl
            first | (rw [if_pos h67]; done) | (rw [if_neg h67]; done)
          · rw [zup_n (by decide), q3b 52 (by decide) (by decide)]
          · rw [zup_n (by decide), q3b 52 (by decide) (by decide)]
        · refine zA_aload_n dX8_glove_70 rfl ?_
          refine zA_getR fX8_47 t_0 rfl dX8_glove_71 ?_
          refine zA_getE (w := μ 52 1) fX8_126 t_52 dX8_glove_74 (by rw [q3b 52 (by decide) (by decide)]) ?_
          refine zA_iconst dX8_glove_77 rfl ?_
          refine zA_iload_n dX8_glove_78 rfl ?_
          refine zA_ishl dX8_glove_79 ?_
          refine zA_ior dX8_glove_80 ?_
          refine zA_goto (tgt := 97) dX8_glove_81 rfl ?_
          refine zA_putI wX8_126 t_52 dX8_glove_97 ?_
          refine zA_iload_n dX8_glove_100 rfl ?_
          refine zA_ri dX8_glove_101 ⟨fun q => absurd (b1.mp h8) q, fun _ => ⟨fun q => False.elim (by have := b2.mpr q; simp_all), fun _ => ?_⟩⟩
          refine ⟨?_, q3a.of hx (fun k hk => by funext i; rw [zup_k (by omega)]), fun k k1 k2 k3 k4 k5 => ?_, ?_, ?_, ?_, ?_⟩
          · rcases zbit_01 (μ 52 1) a with h | h
            · first | (rw [h]; done) | (exfalso; have := b4.mp h53; omega)
            · first | (rw [h]; done) | (exfalso; have := b4.mpr h; simp_all)
          · funext i
            rw [zup_k k2, q3b k k4 k5]
          · rw [← q3b 53 (by decide) (by decide)]
            rfl
          · rw [zup_s]
            unfold gl
            first | (rw [if_pos h67]; done) | (rw [if_neg h67]; done)
          · rw [zup_n (by decide), q3b 52 (by decide) (by decide)]
          · rw [zup_n (by decide), q3b 52 (by decide) (by decide)]
    · refine zA_ldc cX8_192 dX8_glove_28 rfl ?_
      exact zA_ri dX8_glove_30 ⟨fun q => absurd (b1.mp h8) q, fun _ => ⟨fun _ => ⟨rfl, rfl⟩, fun q => absurd (b2.mp (by simpa using h25)) q⟩⟩
  · refine zA_ldc cX8_151 dX8_glove_11 rfl ?_
    exact zA_ri dX8_glove_13 ⟨fun _ => ⟨rfl, rfl⟩, fun q => False.elim (by have := b1.mpr q; simp_all)⟩
theorem c_X9_glove (d : Nat) (μ : zM) (m z : Nat) (a s : Int) (hm : μ 110 2 = m) (hz : z ≤ 20) (hz1 : μ 110 26 = z) : zMet (d + 3) 0 yX9_glove cX9_glove 4 (some .int) TF μ [zR 110, zI a, zI s] (zPi (fun v ν => (¬ (0 ≤ a ∧ a < m) → v = -1000000001 ∧ μ = ν) ∧ ((0 ≤ a ∧ a < m) → (zbit (μ 110 4) a = 1 → v = -1000000003 ∧ μ = ν) ∧ (¬ zbit (μ 110 4) a = 1 → v = zbit (μ 114 30) a ∧ dM μ ν z ∧ dG μ ν ∧ (∀ i, i < 30 → ν 114 i = μ 114 i) ∧ ν 114 30 = gl (μ 114 30) a s ∧ ν 114 31 = μ 114 31 ∧ ν 114 32 = μ 114 32)))) := by
  refine zMi_of RX9 rfl (by decide) rfl (ls := [some (zR 110), some (zI a), some (zI s), none]) rfl (fun hok0 => ?_)
  refine zA_aload_n dX9_glove_0 rfl ?_
  refine zA_iload_n dX9_glove_1 rfl ?_
  refine zA_cVb (st := []) kX9_187 t_110 rfl rfl (c_X9_isCoat d a μ (by omega)) rfl rfl rfl dX9_glove_2 (zfit0 (by omega) rfl) (fun v1 μ1 q1 => ?_)
  obtain ⟨b1, rfl⟩ := q1
  rw [hm] at b1
  refine zA_ifb_ne (tgt := 11) dX9_glove_5 rfl (fun h5 => ?_) (fun h5 => ?_)
  · refine zA_aload_n dX9_glove_11 rfl ?_
    refine zA_getI fX9_166 t_110 dX9_glove_12 ?_
    refine zA_iload_n dX9_glove_15 rfl ?_
    refine zA_cSb (st := []) kX9_140 (c_X9_has (d + 1) (μ 110 4) a μ) rfl rfl rfl dX9_glove_16 (zfit0 (by omega) rfl) (fun v2 μ2 q2 => ?_)
    obtain ⟨b2, rfl⟩ := q2
    refine zA_ifb_eq (tgt := 25) dX9_glove_19 rfl (fun h19 => ?_) (fun h19 => ?_)
    · refine zA_aload_n dX9_glove_25 rfl ?_
      refine zA_cVv (st := []) kX9_199 t_110 rfl rfl (c_X9_remember (d + 1) z μ hz hz1) rfl rfl rfl dX9_glove_26 (zfit0 (by omega) rfl) (fun μ3 q3 => ?_)
      obtain ⟨q3a, q3b, q3c, q3d, q3e⟩ := q3
      refine zA_aload_n dX9_glove_29 rfl ?_
      refine zA_getR fX9_19 t_110 rfl dX9_glove_30 ?_
      refine zA_bipush dX9_glove_33 rfl ?_
      refine zA_ialE (w := μ 114 30) (j := 30) t_114 (by omega) (by omega) dX9_glove_35 rfl (by rw [q3c 114 (by decide) (by decide)]) ?_
      refine zA_iload_n dX9_glove_36 rfl ?_
      refine zA_ishr dX9_glove_37 ?_
      refine zA_iconst dX9_glove_38 rfl ?_
      refine zA_iand dX9_glove_39 ?_
      refine zA_istore_n (ls' := [some (zR 110), some (zI a), some (zI s), some (zI (zand (zshr (μ 114 30) a) 1))]) dX9_glove_40 rfl rfl ?_
      refine zA_aload_n dX9_glove_41 rfl ?_
      refine zA_getR fX9_19 t_110 rfl dX9_glove_42 ?_
      refine zA_bipush dX9_glove_45 rfl ?_
      refine zA_iload_n dX9_glove_47 rfl ?_
      refine zA_if_eq (tgt := 65) dX9_glove_48 rfl (fun h48 => ?_) (fun h48 => ?_)
      · refine zA_aload_n dX9_glove_65 rfl ?_
        refine zA_getR fX9_19 t_110 rfl dX9_glove_66 ?_
        refine zA_bipush dX9_glove_69 rfl ?_
        refine zA_ialE (w := μ 114 30) (j := 30) t_114 (by omega) (by omega) dX9_glove_71 rfl (by rw [q3c 114 (by decide) (by decide)]) ?_
        refine zA_iconst dX9_glove_72 rfl ?_
        refine zA_iload_n dX9_glove_73 rfl ?_
        refine zA_ishl dX9_glove_74 ?_
        refine zA_iconst dX9_glove_75 rfl ?_
        refine zA_ixor dX9_glove_76 ?_
        refine zA_iand dX9_glove_77 ?_
        refine zA_iasE (j := 30) t_114 (by omega) (by omega) dX9_glove_78 rfl ?_
        refine zA_iload_n dX9_glove_79 rfl ?_
        refine zA_ri dX9_glove_80 ⟨fun q => absurd (b1.mp h5) q, fun _ => ⟨fun q => False.elim (by have := b2.mpr q; simp_all), fun _ => ?_⟩⟩
        refine ⟨rfl, ⟨q3a, q3d, q3e⟩, ⟨fun i hi => q3b i hi, fun k k1 k2 k3 k4 k5 => ?_⟩, fun i hi => ?_, ?_, ?_, ?_⟩
        · funext i
          rw [zup_k k2, q3c k k1 k4]
        · rw [zup_n (fun q => by omega), q3c 114 (by decide) (by decide)]
        · rw [zup_s]
          unfold gl
          first | (rw [if_pos h48]; done) | (rw [if_neg h48]; done)
        · rw [zup_n (by decide), q3c 114 (by decide) (by decide)]
        · rw [zup_n (by decide), q3c 114 (by decide) (by decide)]
      · refine zA_aload_n dX9_glove_51 rfl ?_
        refine zA_getR fX9_19 t_110 rfl dX9_glove_52 ?_
        refine zA_bipush dX9_glove_55 rfl ?_
        refine zA_ialE (w := μ 114 30) (j := 30) t_114 (by omega) (by omega) dX9_glove_57 rfl (by rw [q3c 114 (by decide) (by decide)]) ?_
        refine zA_iconst dX9_glove_58 rfl ?_
        refine zA_iload_n dX9_glove_59 rfl ?_
        refine zA_ishl dX9_glove_60 ?_
        refine zA_ior dX9_glove_61 ?_
        refine zA_goto (tgt := 78) dX9_glove_62 rfl ?_
        refine zA_iasE (j := 30) t_114 (by omega) (by omega) dX9_glove_78 rfl ?_
        refine zA_iload_n dX9_glove_79 rfl ?_
        refine zA_ri dX9_glove_80 ⟨fun q => absurd (b1.mp h5) q, fun _ => ⟨fun q => False.elim (by have := b2.mpr q; simp_all), fun _ => ?_⟩⟩
        refine ⟨rfl, ⟨q3a, q3d, q3e⟩, ⟨fun i hi => q3b i hi, fun k k1 k2 k3 k4 k5 => ?_⟩, fun i hi => ?_, ?_, ?_, ?_⟩
        · funext i
          rw [zup_k k2, q3c k k1 k4]
        · rw [zup_n (fun q => by omega), q3c 114 (by decide) (by decide)]
        · rw [zup_s]
          unfold gl
          first | (rw [if_pos h48]; done) | (rw [if_neg h48]; done)
        · rw [zup_n (by decide), q3c 114 (by decide) (by decide)]
        · rw [zup_n (by decide), q3c 114 (by decide) (by decide)]
    · refine zA_ldc cX9_205 dX9_glove_22 rfl ?_
      exact zA_ri dX9_glove_24 ⟨fun q => absurd (b1.mp h5) q, fun _ => ⟨fun _ => ⟨rfl, rfl⟩, fun q => absurd (b2.mp (by simpa using h19)) q⟩⟩
  · refine zA_ldc cX9_194 dX9_glove_8 rfl ?_
    exact zA_ri dX9_glove_10 ⟨fun _ => ⟨rfl, rfl⟩, fun q => False.elim (by have := b1.mpr q; simp_all)⟩
theorem pr_glove (μ : zM) (a s : Int) (n m t : Nat) (u : Int) (hI : zInv μ n m t u) : zPair yX8_glove cX8_glove 4 yX9_glove cX9_glove 4 [zI a, zI s] μ := by
  have hI0 := hI
  obtain ⟨hh, hst, ht, hmi, h1, h2, h3, ⟨z, x, a1, a2, a3, a4, a5, a6⟩⟩ := hI
  obtain ⟨hn, hu, hm, ht0, hn5, hm6, ht10, hu1, hdk⟩ := hh.1
  have hmM := hh.2.1.2.2.1
  have hdg : μ 1 10 = μ 110 4 := hh.2.2.1
  have hrow : ∀ i, lv n m i → μ 53 i = μ 114 i := fun i hi => by have := hst.1 i hi; rw [Nat.zero_add] at this; exact this
  have hg : μ 52 1 = μ 114 30 := hst.2.2.1
  have hg2 : μ 52 2 = μ 114 31 := hst.2.2.2.1
  have hg3 : μ 52 3 = μ 114 32 := hst.2.2.2.2
  refine zMi_mono (c_X8_glove 16 μ m x z a s hm a2 a1 a5 a3) (fun v ν hv => ?_)
  by_cases hc : (0 ≤ a ∧ a < m)
  · by_cases hd : zbit (μ 1 10) a = 1
    · obtain ⟨rfl, rfl⟩ := (hv.2 hc).1 hd
      refine zMi_mono (c_X9_glove 17 μ m z a s hmM a1 a4) (fun w ξ hw => ?_)
      obtain ⟨rfl, rfl⟩ := (hw.2 hc).1 (by rw [← hdg]; exact hd)
      exact ⟨rfl, n, m, t, u, hI0⟩
    · obtain ⟨rfl, v1, v2, v3, v4, v5, v6⟩ := (hv.2 hc).2 hd
      have v2' : ∀ k, ¬ cScr k → k ≠ 52 → k ≠ 53 → k ≠ 54 → ¬ (56 ≤ k ∧ k ≤ 95) → ν k = μ k := v2
      unfold cScr at v2'
      have e110 : ν 110 = μ 110 := v2' 110 (by omega) (by omega) (by omega) (by omega) (by omega)
      have e111 : ν 111 = μ 111 := v2' 111 (by omega) (by omega) (by omega) (by omega) (by omega)
      have e112 : ν 112 = μ 112 := v2' 112 (by omega) (by omega) (by omega) (by omega) (by omega)
      have e113 : ν 113 = μ 113 := v2' 113 (by omega) (by omega) (by omega) (by omega) (by omega)
      have e114 : ν 114 = μ 114 := v2' 114 (by omega) (by omega) (by omega) (by omega) (by omega)
      refine zMi_mono (c_X9_glove 17 ν m z a s (by rw [e110]; exact hmM) a1 (by rw [e110]; exact a4)) (fun w ξ hw => ?_)
      obtain ⟨rfl, w1, w2, w3, w4, w5, w6⟩ := (hw.2 hc).2 (by rw [e110, ← hdg]; exact hd)
      exact ⟨by rw [e114, hg], n, m, t, u, zInv_deed2 hI0 a2 a1 a6 v1 v2 w1 w2 (fun i hi => by rw [v3, w3 i (by omega), e114]; exact hrow i hi) (by rw [v3]; exact hst.2.1) (by rw [v4, w4, e114, hg]) (by rw [v5, w5, e114, hg2]) (by rw [v6, w6, e114, hg3])⟩
  · obtain ⟨rfl, rfl⟩ := hv.1 hc
    refine zMi_mono (c_X9_glove 17 μ m z a s hmM a1 a4) (fun w ξ hw => ?_)
    obtain ⟨rfl, rfl⟩ := hw.1 hc
    exact ⟨rfl, n, m, t, u, hI0⟩
theorem c_X8_wash (d : Nat) (μ : zM) (m x z : Nat) (a : Int) (hm : μ 1 8 = m) (hm6 : m ≤ 6) (hx : x < 20) (hz : z ≤ 20) (hx1 : μ 54 1 = x) (hz1 : μ 54 2 = z) : zMet (d + 4) 0 yX8_wash cX8_wash 2 (some .int) TF μ [zR 0, zI a] (zPi (fun v ν => (¬ (0 ≤ a ∧ a < m) → v = -1000000001 ∧ μ = ν) ∧ ((0 ≤ a ∧ a < m) → (zbit (μ 1 10) a = 1 → v = -1000000003 ∧ μ = ν) ∧ (¬ zbit (μ 1 10) a = 1 → v = zwi (μ 52 2 + 1) ∧ dC μ ν x z ∧ dF μ ν ∧ ν 53 = wRow (μ 53) (μ 2) a.toNat ∧ ν 52 1 = μ 52 1 ∧ ν 52 2 = zwi (μ 52 2 + 1) ∧ ν 52 3 = μ 52 3)))) := by
  refine zMi_of RX8 rfl (by decide) rfl (ls := [some (zR 0), some (zI a)]) rfl (fun hok0 => ?_)
  refine zA_aload_n dX8_wash_0 rfl ?_
  refine zA_getR fX8_12 t_0 rfl dX8_wash_1 ?_
  refine zA_iload_n dX8_wash_4 rfl ?_
  refine zA_cVb (st := []) kX8_185 t_1 rfl rfl (c_X2_hasCoat (d + 2) a μ) rfl rfl rfl dX8_wash_5 (zfit0 (by omega) rfl) (fun v1 μ1 q1 => ?_)
  obtain ⟨b1, rfl⟩ := q1
  rw [hm] at b1
  refine zA_ifb_ne (tgt := 14) dX8_wash_8 rfl (fun h8 => ?_) (fun h8 => ?_)
  · refine zA_aload_n dX8_wash_14 rfl ?_
    refine zA_getR fX8_12 t_0 rfl dX8_wash_15 ?_
    refine zA_getI fX8_129 t_1 dX8_wash_18 ?_
    refine zA_iload_n dX8_wash_21 rfl ?_
    refine zA_cSb (st := []) kX8_189 (c_X8_isIn (d + 2) (μ 1 10) a μ) rfl rfl rfl dX8_wash_22 (zfit0 (by omega) rfl) (fun v2 μ2 q2 => ?_)
    obtain ⟨b2, rfl⟩ := q2
    refine zA_ifb_eq (tgt := 31) dX8_wash_25 rfl (fun h25 => ?_) (fun h25 => ?_)
    · refine zA_aload_n dX8_wash_31 rfl ?_
      refine zA_getR fX8_54 t_0 rfl dX8_wash_32 ?_
      refine zA_aload_n dX8_wash_35 rfl ?_
      refine zA_getR fX8_47 t_0 rfl dX8_wash_36 ?_
      refine zA_cVv (st := []) kX8_168 t_54 rfl rfl (c_X1_remember d x z μ hx hz hx1 hz1) rfl rfl rfl dX8_wash_39 (zfit0 (by omega) rfl) (fun μ3 q3 => ?_)
      obtain ⟨q3a, q3b⟩ := dC_rem hx q3
      have hca := b1.mp h8
      refine zA_aload_n dX8_wash_42 rfl ?_
      refine zA_iload_n dX8_wash_43 rfl ?_
      refine zA_cVv (st := []) kX8_193 t_0 rfl rfl (c_X8_washNow (d + 1) μ3 a (by omega)) rfl rfl rfl dX8_wash_44 (zfit0 (by omega) rfl) (fun μ4 q4 => ?_)
      obtain ⟨q4a, q4b, q4c, q4d⟩ := q4
      refine zA_aload_n dX8_wash_47 rfl ?_
      refine zA_getR fX8_47 t_0 rfl dX8_wash_48 ?_
      refine zA_getE (w := zwi (μ 52 2 + 1)) fX8_132 t_52 dX8_wash_51 (by rw [q4b, q3b 52 (by decide) (by decide)]) ?_
      refine zA_ri dX8_wash_54 ⟨fun q => absurd (b1.mp h8) q, fun _ => ⟨fun q => False.elim (by have := b2.mpr q; simp_all), fun _ => ?_⟩⟩
      have e52 := q3b 52 (by decide) (by decide)
      refine ⟨rfl, q3a.of hx (fun k hk => q4d k (by omega) (by omega)), fun k k1 k2 k3 k4 k5 => ?_, ?_, ?_, ?_, ?_⟩
      · rw [q4d k k2 k3, q3b k k4 k5]
      · rw [q4a, q3b 53 (by decide) (by decide), q3b 2 (by decide) (by decide)]
      · rw [q4c 1 (by decide), e52]
      · rw [q4b, e52]
      · rw [q4c 3 (by decide), e52]
    · refine zA_ldc cX8_192 dX8_wash_28 rfl ?_
      exact zA_ri dX8_wash_30 ⟨fun q => absurd (b1.mp h8) q, fun _ => ⟨fun _ => ⟨rfl, rfl⟩, fun q => absurd (b2.mp (by simpa using h25)) q⟩⟩
  · refine zA_ldc cX8_151 dX8_wash_11 rfl ?_
    exact zA_ri dX8_wash_13 ⟨fun _ => ⟨rfl, rfl⟩, fun q => False.elim (by have := b1.mpr q; simp_all)⟩
theorem c_X9_wash (d : Nat) (μ : zM) (m z : Nat) (a : Int) (hm : μ 110 2 = m) (hm6 : m ≤ 6) (hz : z ≤ 20) (hz1 : μ 110 26 = z) : zMet (d + 3) 0 yX9_wash cX9_wash 2 (some .int) TF μ [zR 110, zI a] (zPi (fun v ν => (¬ (0 ≤ a ∧ a < m) → v = -1000000001 ∧ μ = ν) ∧ ((0 ≤ a ∧ a < m) → (zbit (μ 110 4) a = 1 → v = -1000000003 ∧ μ = ν) ∧ (¬ zbit (μ 110 4) a = 1 → v = zwi (μ 114 31 + 1) ∧ dM μ ν z ∧ dG μ ν ∧ (∀ i, i < 30 → ν 114 i = wRow (μ 114) (μ 111) a.toNat i) ∧ ν 114 30 = μ 114 30 ∧ ν 114 31 = zwi (μ 114 31 + 1) ∧ ν 114 32 = μ 114 32)))) := by
  refine zMi_of RX9 rfl (by decide) rfl (ls := [some (zR 110), some (zI a)]) rfl (fun hok0 => ?_)
  refine zA_aload_n dX9_wash_0 rfl ?_
  refine zA_iload_n dX9_wash_1 rfl ?_
  refine zA_cVb (st := []) kX9_187 t_110 rfl rfl (c_X9_isCoat d a μ (by omega)) rfl rfl rfl dX9_wash_2 (zfit0 (by omega) rfl) (fun v1 μ1 q1 => ?_)
  obtain ⟨b1, rfl⟩ := q1
  rw [hm] at b1
  refine zA_ifb_ne (tgt := 11) dX9_wash_5 rfl (fun h5 => ?_) (fun h5 => ?_)
  · refine zA_aload_n dX9_wash_11 rfl ?_
    refine zA_getI fX9_166 t_110 dX9_wash_12 ?_
    refine zA_iload_n dX9_wash_15 rfl ?_
    refine zA_cSb (st := []) kX9_140 (c_X9_has (d + 1) (μ 110 4) a μ) rfl rfl rfl dX9_wash_16 (zfit0 (by omega) rfl) (fun v2 μ2 q2 => ?_)
    obtain ⟨b2, rfl⟩ := q2
    refine zA_ifb_eq (tgt := 25) dX9_wash_19 rfl (fun h19 => ?_) (fun h19 => ?_)
    · refine zA_aload_n dX9_wash_25 rfl ?_
      refine zA_cVv (st := []) kX9_199 t_110 rfl rfl (c_X9_remember (d + 1) z μ hz hz1) rfl rfl rfl dX9_wash_26 (zfit0 (by omega) rfl) (fun μ3 q3 => ?_)
      obtain ⟨q3a, q3b, q3c, q3d, q3e⟩ := q3
      have hca := b1.mp h5
      refine zA_aload_n dX9_wash_29 rfl ?_
      refine zA_iload_n dX9_wash_30 rfl ?_
      refine zA_cVv (st := []) kX9_206 t_110 rfl rfl (c_X9_washNowI (d + 1) μ3 a (by omega)) rfl rfl rfl dX9_wash_31 (zfit0 (by omega) rfl) (fun μ4 q4 => ?_)
      obtain ⟨q4a, q4b, q4c, q4d, q4e⟩ := q4
      refine zA_aload_n dX9_wash_34 rfl ?_
      refine zA_getR fX9_19 t_110 rfl dX9_wash_35 ?_
      refine zA_bipush dX9_wash_38 rfl ?_
      refine zA_ialE (w := zwi (μ 114 31 + 1)) (j := 31) t_114 (by omega) (by omega) dX9_wash_40 rfl (by rw [q4c, q3c 114 (by decide) (by decide)]) ?_
      refine zA_ri dX9_wash_41 ⟨fun q => absurd (b1.mp h5) q, fun _ => ⟨fun q => False.elim (by have := b2.mpr q; simp_all), fun _ => ?_⟩⟩
      have e114 := q3c 114 (by decide) (by decide)
      have e110 := q4e 110 (by decide)
      have e120 := q4e 120 (by decide)
      refine ⟨rfl, ⟨by rw [e110]; exact q3a, by rw [e120]; exact q3d, by rw [e120]; exact q3e⟩, ⟨fun i hi => by rw [e110]; exact q3b i hi, fun k k1 k2 k3 k4 k5 => by rw [q4e k k2, q3c k k1 k4]⟩, fun i hi => ?_, by rw [q4b, e114], by rw [q4c, e114], by rw [q4d, e114]⟩
      rw [q4a i hi, e114, q3c 111 (by decide) (by decide)]
    · refine zA_ldc cX9_205 dX9_wash_22 rfl ?_
      exact zA_ri dX9_wash_24 ⟨fun q => absurd (b1.mp h5) q, fun _ => ⟨fun _ => ⟨rfl, rfl⟩, fun q => absurd (b2.mp (by simpa using h19)) q⟩⟩
  · refine zA_ldc cX9_194 dX9_wash_8 rfl ?_
    exact zA_ri dX9_wash_10 ⟨fun _ => ⟨rfl, rfl⟩, fun q => False.elim (by have := b1.mpr q; simp_all)⟩
theorem pr_wash (μ : zM) (a : Int) (n m t : Nat) (u : Int) (hI : zInv μ n m t u) : zPair yX8_wash cX8_wash 2 yX9_wash cX9_wash 2 [zI a] μ := by
  have hI0 := hI
  obtain ⟨hh, hst, ht, hmi, h1, h2, h3, ⟨z, x, a1, a2, a3, a4, a5, a6⟩⟩ := hI
  obtain ⟨hn, hu, hm, ht0, hn5, hm6, ht10, hu1, hdk⟩ := hh.1
  have hmM := hh.2.1.2.2.1
  have hdg : μ 1 10 = μ 110 4 := hh.2.2.1
  have hrow : ∀ i, lv n m i → μ 53 i = μ 114 i := fun i hi => by have := hst.1 i hi; rw [Nat.zero_add] at this; exact this
  have hg : μ 52 1 = μ 114 30 := hst.2.2.1
  have hg2 : μ 52 2 = μ 114 31 := hst.2.2.2.1
  have hg3 : μ 52 3 = μ 114 32 := hst.2.2.2.2
  refine zMi_mono (c_X8_wash 16 μ m x z a hm hm6 a2 a1 a5 a3) (fun v ν hv => ?_)
  by_cases hc : (0 ≤ a ∧ a < m)
  · by_cases hd : zbit (μ 1 10) a = 1
    · obtain ⟨rfl, rfl⟩ := (hv.2 hc).1 hd
      refine zMi_mono (c_X9_wash 17 μ m z a hmM hm6 a1 a4) (fun w ξ hw => ?_)
      obtain ⟨rfl, rfl⟩ := (hw.2 hc).1 (by rw [← hdg]; exact hd)
      exact ⟨rfl, n, m, t, u, hI0⟩
    · obtain ⟨rfl, v1, v2, v3, v4, v5, v6⟩ := (hv.2 hc).2 hd
      have v2' : ∀ k, ¬ cScr k → k ≠ 52 → k ≠ 53 → k ≠ 54 → ¬ (56 ≤ k ∧ k ≤ 95) → ν k = μ k := v2
      unfold cScr at v2'
      have e110 : ν 110 = μ 110 := v2' 110 (by omega) (by omega) (by omega) (by omega) (by omega)
      have e111 : ν 111 = μ 111 := v2' 111 (by omega) (by omega) (by omega) (by omega) (by omega)
      have e112 : ν 112 = μ 112 := v2' 112 (by omega) (by omega) (by omega) (by omega) (by omega)
      have e113 : ν 113 = μ 113 := v2' 113 (by omega) (by omega) (by omega) (by omega) (by omega)
      have e114 : ν 114 = μ 114 := v2' 114 (by omega) (by omega) (by omega) (by omega) (by omega)
      refine zMi_mono (c_X9_wash 17 ν m z a (by rw [e110]; exact hmM) hm6 a1 (by rw [e110]; exact a4)) (fun w ξ hw => ?_)
      obtain ⟨rfl, w1, w2, w3, w4, w5, w6⟩ := (hw.2 hc).2 (by rw [e110, ← hdg]; exact hd)
      exact ⟨by rw [e114, hg2], n, m, t, u, zInv_deed2 hI0 a2 a1 a6 v1 v2 w1 w2 (fun i hi => by rw [v3, w3 i (by omega), e114, e111]; exact wRow_congr hrow hh.2.2.2.1 i hi) (by rw [v3]; exact wRow_ok hn5 hst.2.1 hh.2.2.2.2.1) (by rw [v4, w4, e114, hg]) (by rw [v5, w5, e114, hg2]) (by rw [v6, w6, e114, hg3])⟩
  · obtain ⟨rfl, rfl⟩ := hv.1 hc
    refine zMi_mono (c_X9_wash 17 μ m z a hmM hm6 a1 a4) (fun w ξ hw => ?_)
    obtain ⟨rfl, rfl⟩ := hw.1 hc
    exact ⟨rfl, n, m, t, u, hI0⟩
theorem c_X8_day (d : Nat) (μ : zM) (n m t x z : Nat) (u : Int) (hH : zHs μ n m t u) (hok : rOk n m (μ 53)) (hx : x < 20) (hz : z ≤ 20) (hx1 : μ 54 1 = x) (hz1 : μ 54 2 = z) : zMet (d + 6) 0 yX8_day cX8_day 1 (some .int) TF μ [zR 0] (zPi (fun v ν => (t = 0 → v = -1000000003 ∧ μ = ν) ∧ (0 < t → v = zwi (μ 52 3 + t) ∧ dC μ ν x z ∧ dF μ ν ∧ ν 53 = dRow u n (μ 52 1) (μ 3) (μ 4) 0 (μ 53) t ∧ ν 52 1 = μ 52 1 ∧ ν 52 2 = μ 52 2 ∧ ν 52 3 = zwi (μ 52 3 + t)))) := by
  have hH0 := hH
  obtain ⟨hn, hu, hm, ht, hn5, hm6, ht10, hu1, hdk⟩ := hH0
  refine zMi_of RX8 rfl (by decide) rfl (ls := [some (zR 0)]) rfl (fun hok0 => ?_)
  refine zA_aload_n dX8_day_0 rfl ?_
  refine zA_getR fX8_12 t_0 rfl dX8_day_1 ?_
  refine zA_getE (w := (t : Int)) fX8_120 t_1 dX8_day_4 ht ?_
  refine zA_if_ne (tgt := 13) dX8_day_7 rfl (fun h7 => ?_) (fun h7 => ?_)
  · refine zA_aload_n dX8_day_13 rfl ?_
    refine zA_getR fX8_54 t_0 rfl dX8_day_14 ?_
    refine zA_aload_n dX8_day_17 rfl ?_
    refine zA_getR fX8_47 t_0 rfl dX8_day_18 ?_
    refine zA_cVv (st := []) kX8_168 t_54 rfl rfl (c_X1_remember (d + 2) x z μ hx hz hx1 hz1) rfl rfl rfl dX8_day_21 (zfit0 (by omega) rfl) (fun μ1 q1 => ?_)
    obtain ⟨q1a, q1b⟩ := dC_rem hx q1
    refine zA_aload_n dX8_day_24 rfl ?_
    refine zA_getR fX8_12 t_0 rfl dX8_day_25 ?_
    refine zA_aload_n dX8_day_28 rfl ?_
    refine zA_getR fX8_47 t_0 rfl dX8_day_29 ?_
    refine zA_getR fX8_144 t_52 rfl dX8_day_32 ?_
    refine zA_aload_n dX8_day_35 rfl ?_
    refine zA_getR fX8_47 t_0 rfl dX8_day_36 ?_
    refine zA_getE (w := μ 52 1) fX8_126 t_52 dX8_day_39 (by rw [q1b 52 (by decide) (by decide)]) ?_
    refine zA_iconst dX8_day_42 rfl ?_
    refine zA_cVv (st := []) kX8_196 t_1 rfl rfl (c_X2_goThroughDay d μ1 53 n m t u (μ 52 1) 0 t_53 (hH.keep (q1b 1 (by decide) (by decide)) (q1b 3 (by decide) (by decide)) (q1b 4 (by decide) (by decide))) (by rw [q1b 53 (by decide) (by decide)]; exact hok)) rfl rfl rfl dX8_day_43 (zfit0 (by omega) rfl) (fun μ2 q2 => ?_)
    obtain ⟨q2a, q2b⟩ := q2
    refine zA_aload_n dX8_day_46 rfl ?_
    refine zA_getR fX8_47 t_0 rfl dX8_day_47 ?_
    refine zA_dup dX8_day_50 rfl ?_
    refine zA_getE (w := μ 52 3) fX8_135 t_52 dX8_day_51 (by rw [q2b 52 (by decide) (by decide) (by decide) (by decide), q1b 52 (by decide) (by decide)]) ?_
    refine zA_aload_n dX8_day_54 rfl ?_
    refine zA_getR fX8_12 t_0 rfl dX8_day_55 ?_
    refine zA_getE (w := (t : Int)) fX8_120 t_1 dX8_day_58 (by rw [q2b 1 (by decide) (by decide) (by decide) (by decide), q1b 1 (by decide) (by decide)]; exact ht) ?_
    refine zA_iadd dX8_day_61 ?_
    refine zA_putI wX8_135 t_52 dX8_day_62 ?_
    refine zA_aload_n dX8_day_65 rfl ?_
    refine zA_getR fX8_47 t_0 rfl dX8_day_66 ?_
    refine zA_getE (w := zwi ((μ 52 3) + (t : Int))) fX8_135 t_52 dX8_day_69 (by rw [zup_s]) ?_
    refine zA_ri dX8_day_72 ⟨fun q => False.elim (by omega), fun _ => ?_⟩
    have e52 : μ2 52 = μ 52 := by rw [q2b 52 (by decide) (by decide) (by decide) (by decide), q1b 52 (by decide) (by decide)]
    refine ⟨rfl, q1a.of hx (fun k hk => by funext i; rw [zup_k (by omega), q2b k (by omega) (by omega) (by omega) (by omega)]), fun k k1 k2 k3 k4 k5 => ?_, ?_, ?_, ?_, ?_⟩
    · unfold cScr at k1
      funext i
      rw [zup_k k2, q2b k k3 (by omega) (by omega) (by omega), q1b k k4 k5]
    · rw [← q1b 53 (by decide) (by decide), ← q1b 3 (by decide) (by decide), ← q1b 4 (by decide) (by decide), ← q2a]
      rfl
    · rw [zup_n (by decide), e52]
    · rw [zup_n (by decide), e52]
    · rw [zup_s]
  · refine zA_ldc cX8_192 dX8_day_10 rfl ?_
    exact zA_ri dX8_day_12 ⟨fun _ => ⟨rfl, rfl⟩, fun q => False.elim (by omega)⟩
theorem dRow_out {u : Int} {n m t : Nat} {g : Int} {f s : Nat → Int} {wo : Int} {row : Nat → Int} (hm : m ≤ 6) (hd : dOk m t f s) {i : Nat} (hi : 30 ≤ i) : ∀ k, k ≤ t → dRow u n g f s wo row k i = row i
  | 0, _ => rfl
  | k + 1, hk => by
    have ih := dRow_out (u := u) (n := n) (g := g) (wo := wo) (row := row) hm hd hi k (by omega)
    obtain ⟨h1, h2, h3, h4, h5⟩ := hd k (by omega)
    simp only [dRow]
    split
    · exact ih
    · rw [xchG_out (by omega) (by omega)]
      exact ih
theorem l_X9_day (d : Nat) (ξ : zM) (n m t : Nat) (u : Int) (P : zP) (hH : zMs ξ n m t u) (hok : rOk n m (ξ 114)) (hx : ∀ ν : zM, ν 114 = dRow u n (ξ 114 30) (ξ 112) (ξ 113) 0 (ξ 114) t → (∀ k, k ≠ 114 → k ≠ 119 → ν k = ξ k) → zA RX9 cX9_day 2 (zRm (d + 4) 0) zN0 TF 0 ν 50 [some (zR 110), none] [] P) : ∀ (t0 k : Nat), t - k = t0 → k ≤ t → ∀ ν : zM, ν 114 = dRow u n (ξ 114 30) (ξ 112) (ξ 113) 0 (ξ 114) k → (∀ k, k ≠ 114 → k ≠ 119 → ν k = ξ k) → zA RX9 cX9_day 2 (zRm (d + 4) 0) zN0 TF 0 ν 16 [some (zR 110), some (zI (k : Int))] [] P := by
  have hH0 := hH
  obtain ⟨hn, hu, hm, ht, hn5, hm6, ht10, hu1, hdk⟩ := hH0
  intro t0
  induction t0 using Nat.strongRecOn with
  | ind t0 ih =>
    intro k hk hkt ν hpv hfr
    have e110 := hfr 110 (by decide) (by decide)
    have e112 := hfr 112 (by decide) (by decide)
    have e113 := hfr 113 (by decide) (by decide)
    have ht2 : ν 110 5 = t := by rw [e110]; exact ht
    refine zA_iload_n dX9_day_16 rfl ?_
    refine zA_aload_n dX9_day_17 rfl ?_
    refine zA_getE (w := (t : Int)) fX9_169 t_110 dX9_day_18 ht2 ?_
    refine zA_icmp_ge (tgt := 50) dX9_day_21 rfl (fun h21 => ?_) (fun h21 => ?_)
    · refine zA_dr (ls' := [some (zR 110), none]) 1 rfl ?_
      exact hx ν (by rw [hpv, show k = t by omega]) hfr
    · refine zA_aload_n dX9_day_24 rfl ?_
      refine zA_aload_n dX9_day_25 rfl ?_
      refine zA_getR fX9_19 t_110 rfl dX9_day_26 ?_
      refine zA_aload_n dX9_day_29 rfl ?_
      refine zA_getR fX9_13 t_110 rfl dX9_day_30 ?_
      refine zA_iload_n dX9_day_33 rfl ?_
      refine zA_ialE (w := ν 112 k) (j := k) t_112 (by omega) (by omega) dX9_day_34 rfl rfl ?_
      refine zA_aload_n dX9_day_35 rfl ?_
      refine zA_getR fX9_16 t_110 rfl dX9_day_36 ?_
      refine zA_iload_n dX9_day_39 rfl ?_
      refine zA_ialE (w := ν 113 k) (j := k) t_113 (by omega) (by omega) dX9_day_40 rfl rfl ?_
      refine zA_cVv (st := []) kX9_202 t_110 rfl rfl (c_X9_rubInI d ν 114 n m t 33 u (ν 112 k) (ν 113 k) t_114 (by decide) (by decide) (hH.keep e110 e112 e113) (by rw [e112]; exact ⟨(hdk _ (by omega)).1, (hdk _ (by omega)).2.1⟩) (by rw [e113]; exact ⟨(hdk _ (by omega)).2.2.1, (hdk _ (by omega)).2.2.2.1⟩) (by rw [e112, e113]; exact (hdk _ (by omega)).2.2.2.2) (by rw [hpv]; exact dRow_ok hn5 hu1 hdk hok k (by omega))) rfl rfl rfl dX9_day_41 (zfit0 (by omega) rfl) (fun μ1 q1 => ?_)
      obtain ⟨q1a, q1b⟩ := q1
      refine zA_iincB (ls' := [some (zR 110), some (zI ((k : Int) + 1))]) dX9_day_44 rfl rfl ⟨by omega, by omega⟩ rfl ?_
      refine zA_goto (tgt := 16) dX9_day_47 rfl ?_
      refine ih _ (by omega) (k + 1) rfl (by omega) μ1 ?_ (fun k' h1 h2 => by rw [q1b k' h1 h2, hfr k' h1 h2])
      rw [q1a, hpv, e112, e113]
      simp only [dRow]
      rw [if_neg (by rw [zbit_z k (by omega)]; decide), dRow_out hm6 hdk (by decide) k (by omega)]
theorem c_X9_day (d : Nat) (μ : zM) (n m t z : Nat) (u : Int) (hH : zMs μ n m t u) (hok : rOk n m (μ 114)) (hz : z ≤ 20) (hz1 : μ 110 26 = z) : zMet (d + 4) 0 yX9_day cX9_day 2 (some .int) TF μ [zR 110] (zPi (fun v ν => (t = 0 → v = -1000000003 ∧ μ = ν) ∧ (0 < t → v = zwi (μ 114 32 + t) ∧ dM μ ν z ∧ dG μ ν ∧ (∀ i, i < 30 → ν 114 i = (dRow u n (μ 114 30) (μ 112) (μ 113) 0 (μ 114) t) i) ∧ ν 114 30 = μ 114 30 ∧ ν 114 31 = μ 114 31 ∧ ν 114 32 = zwi (μ 114 32 + t)))) := by
  have hH0 := hH
  obtain ⟨hn, hu, hm, ht, hn5, hm6, ht10, hu1, hdk⟩ := hH0
  refine zMi_of RX9 rfl (by decide) rfl (ls := [some (zR 110), none]) rfl (fun hok0 => ?_)
  refine zA_aload_n dX9_day_0 rfl ?_
  refine zA_getE (w := (t : Int)) fX9_169 t_110 dX9_day_1 ht ?_
  refine zA_if_ne (tgt := 10) dX9_day_4 rfl (fun h4 => ?_) (fun h4 => ?_)
  · refine zA_aload_n dX9_day_10 rfl ?_
    refine zA_cVv (st := []) kX9_199 t_110 rfl rfl (c_X9_remember (d + 2) z μ hz hz1) rfl rfl rfl dX9_day_11 (zfit0 (by omega) rfl) (fun μ1 q1 => ?_)
    obtain ⟨q3a, q3b, q3c, q3d, q3e⟩ := q1
    refine zA_iconst dX9_day_14 rfl ?_
    refine zA_istore_n (ls' := [some (zR 110), some (zI 0)]) dX9_day_15 rfl rfl ?_
    refine l_X9_day d μ1 n m t u _ (hH.keep2 (fun _ _ => rfl) q3b q3c) (by rw [q3c 114 (by decide) (by decide)]; exact hok) (fun ν hv hfr => ?_) _ 0 rfl (by omega) μ1 rfl (fun _ _ _ => rfl)
    have E : ν 114 = dRow u n (μ 114 30) (μ 112) (μ 113) 0 (μ 114) t := by rw [hv, q3c 114 (by decide) (by decide), q3c 112 (by decide) (by decide), q3c 113 (by decide) (by decide)]
    refine zA_aload_n dX9_day_50 rfl ?_
    refine zA_getR fX9_19 t_110 rfl dX9_day_51 ?_
    refine zA_bipush dX9_day_54 rfl ?_
    refine zA_dup2 dX9_day_56 rfl rfl ?_
    refine zA_ialE (w := μ 114 32) (j := 32) t_114 (by omega) (by omega) dX9_day_57 rfl (by rw [E]; exact dRow_out hm6 hdk (by decide) t (Nat.le_refl _)) ?_
    refine zA_aload_n dX9_day_58 rfl ?_
    refine zA_getE (w := (t : Int)) fX9_169 t_110 dX9_day_59 (by rw [hfr 110 (by decide) (by decide), q3b 5 (by decide)]; exact ht) ?_
    refine zA_iadd dX9_day_62 ?_
    refine zA_iasE (j := 32) t_114 (by omega) (by omega) dX9_day_63 rfl ?_
    refine zA_aload_n dX9_day_64 rfl ?_
    refine zA_getR fX9_19 t_110 rfl dX9_day_65 ?_
    refine zA_bipush dX9_day_68 rfl ?_
    refine zA_ialE (w := zwi ((μ 114 32) + (t : Int))) (j := 32) t_114 (by omega) (by omega) dX9_day_70 rfl (by rw [zup_s]) ?_
    refine zA_ri dX9_day_71 ⟨fun q => False.elim (by omega), fun _ => ?_⟩
    have f := fun i (hi : 30 ≤ i) => dRow_out (u := u) (n := n) (g := μ 114 30) (wo := 0) (row := μ 114) hm6 hdk hi t (Nat.le_refl _)
    refine ⟨rfl, ⟨?_, fun q => ?_, fun q => ?_⟩, ⟨fun i hi => ?_, fun k k1 k2 k3 k4 k5 => ?_⟩, fun i hi => ?_, ?_, ?_, ?_⟩
    · rw [zup_k (by decide), hfr 110 (by decide) (by decide)]; exact q3a
    · rw [show zup ν 114 32 (zwi (μ 114 32 + ↑t)) 120 = ν 120 from rfl, hfr 120 (by decide) (by decide)]; exact q3d q
    · rw [show zup ν 114 32 (zwi (μ 114 32 + ↑t)) 120 = ν 120 from rfl, hfr 120 (by decide) (by decide)]; exact q3e q
    · rw [zup_k (by decide), hfr 110 (by decide) (by decide)]; exact q3b i hi
    · funext i
      rw [zup_k k2, hfr k k2 k3, q3c k k1 k4]
    · rw [zup_n (fun q => by omega), E]
    · rw [zup_n (by decide), E, f 30 (by decide)]
    · rw [zup_n (by decide), E, f 31 (by decide)]
    · rw [zup_s]
  · refine zA_ldc cX9_205 dX9_day_7 rfl ?_
    exact zA_ri dX9_day_9 ⟨fun _ => ⟨rfl, rfl⟩, fun q => False.elim (by omega)⟩
theorem pr_day (μ : zM)  (n m t : Nat) (u : Int) (hI : zInv μ n m t u) : zPair yX8_day cX8_day 1 yX9_day cX9_day 2 [] μ := by
  have hI0 := hI
  obtain ⟨hh, hst, ht, hmi, h1, h2, h3, ⟨z, x, a1, a2, a3, a4, a5, a6⟩⟩ := hI
  obtain ⟨hn, hu, hm, ht0, hn5, hm6, ht10, hu1, hdk⟩ := hh.1
  have hmM := hh.2.1.2.2.1
  have hdg : μ 1 10 = μ 110 4 := hh.2.2.1
  have hrow : ∀ i, lv n m i → μ 53 i = μ 114 i := fun i hi => by have := hst.1 i hi; rw [Nat.zero_add] at this; exact this
  have hg : μ 52 1 = μ 114 30 := hst.2.2.1
  have hg2 : μ 52 2 = μ 114 31 := hst.2.2.2.1
  have hg3 : μ 52 3 = μ 114 32 := hst.2.2.2.2
  refine zMi_mono (c_X8_day 14 μ n m t x z u hh.1 hst.2.1 a2 a1 a5 a3) (fun v ν hv => ?_)
  by_cases hc : t = 0
  · obtain ⟨rfl, rfl⟩ := hv.1 hc
    refine zMi_mono (c_X9_day 16 μ n m t z u hh.2.1 (rOk_congrL hn5 hrow hst.2.1) a1 a4) (fun w ξ hw => ?_)
    obtain ⟨rfl, rfl⟩ := hw.1 hc
    exact ⟨rfl, n, m, t, u, hI0⟩
  · obtain ⟨rfl, v1, v2, v3, v4, v5, v6⟩ := hv.2 (by omega)
    have v2' : ∀ k, ¬ cScr k → k ≠ 52 → k ≠ 53 → k ≠ 54 → ¬ (56 ≤ k ∧ k ≤ 95) → ν k = μ k := v2
    unfold cScr at v2'
    have e110 : ν 110 = μ 110 := v2' 110 (by omega) (by omega) (by omega) (by omega) (by omega)
    have e111 : ν 111 = μ 111 := v2' 111 (by omega) (by omega) (by omega) (by omega) (by omega)
    have e112 : ν 112 = μ 112 := v2' 112 (by omega) (by omega) (by omega) (by omega) (by omega)
    have e113 : ν 113 = μ 113 := v2' 113 (by omega) (by omega) (by omega) (by omega) (by omega)
    have e114 : ν 114 = μ 114 := v2' 114 (by omega) (by omega) (by omega) (by omega) (by omega)
    refine zMi_mono (c_X9_day 16 ν n m t z u (hh.2.1.keep e110 e112 e113) (by rw [e114]; exact rOk_congrL hn5 hrow hst.2.1) a1 (by rw [e110]; exact a4)) (fun w ξ hw => ?_)
    obtain ⟨rfl, w1, w2, w3, w4, w5, w6⟩ := hw.2 (by omega)
    refine ⟨by rw [e114, hg3], n, m, t, u, zInv_deed2 hI0 a2 a1 a6 v1 v2 w1 w2 (fun i hi => ?_) (by rw [v3]; exact dRow_ok hn5 hu1 hdk hst.2.1 t (Nat.le_refl _)) (by rw [v4, w4, e114, hg]) (by rw [v5, w5, e114, hg2]) (by rw [v6, w6, e114, hg3])⟩
    rw [v3, w3 i (by omega), e114, e112, e113, hg]
    exact dRow_congrL hn5 hdk (fun k hk => (hh.2.2.2.2.2.1 k hk).1) (fun k hk => (hh.2.2.2.2.2.1 k hk).2) hrow t (Nat.le_refl _) i hi
