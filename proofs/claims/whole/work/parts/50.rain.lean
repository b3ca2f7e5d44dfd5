/-! ===== rain, blend, washes ===== -/
section ZL
variable {own : String} {cc : ByteArray} {nL : Nat} {R : Room} {X : zX} {T : zT} {cs : Nat} {μ : zM} {pc : Nat} {ls : List (Option zV)} {st : List zV} {P : zP}
theorem zA_laddE {a b w : Int} (hd : decode cc pc = .ok (.ladd, 1)) (hw : zwl (a + b) = w) (kk : zA own cc nL R X T cs μ (pc + 1) ls (zL w :: st) P) : zA own cc nL R X T cs μ pc ls (zL b :: zL a :: st) P := by
  subst hw
  exact zA_ladd hd kk
theorem zA_lmulE {a b w : Int} (hd : decode cc pc = .ok (.lmul, 1)) (hw : zwl (a * b) = w) (kk : zA own cc nL R X T cs μ (pc + 1) ls (zL w :: st) P) : zA own cc nL R X T cs μ pc ls (zL b :: zL a :: st) P := by
  subst hw
  exact zA_lmul hd kk
theorem zA_ldivE {a b w : Int} (hd : decode cc pc = .ok (.ldiv, 1)) (hb : b ≠ 0) (hw : zwl (a.tdiv b) = w) (kk : zA own cc nL R X T cs μ (pc + 1) ls (zL w :: st) P) : zA own cc nL R X T cs μ pc ls (zL b :: zL a :: st) P := by
  subst hw
  exact zA_ldiv hd hb kk
theorem zA_l2iE {a w : Int} (hd : decode cc pc = .ok (.l2i, 1)) (hw : zwi a = w) (kk : zA own cc nL R X T cs μ (pc + 1) ls (zI w :: st) P) : zA own cc nL R X T cs μ pc ls (zL a :: st) P := by
  subst hw
  exact zA_l2i hd kk
end ZL
def rnS (row : Nat → Int) (dg : Int) (c v q : Int) : Nat → Int
  | 0 => 1000000000
  | a + 1 => if v < row (a * 5 + c.toNat) ∧ ¬ zbit dg (a : Int) = 1 then rnS row dg c v q a * q / 100 else rnS row dg c v q a
theorem rnS_rg {row : Nat → Int} {dg c v q : Int} (hq : 0 ≤ q ∧ q ≤ 100) : ∀ a, 0 ≤ rnS row dg c v q a ∧ rnS row dg c v q a ≤ 1000000000
  | 0 => by simp [rnS]
  | a + 1 => by
    have ih := rnS_rg (row := row) (dg := dg) (c := c) (v := v) hq a
    simp only [rnS]
    split
    · have h1 : rnS row dg c v q a * q ≤ rnS row dg c v q a * 100 := Int.mul_le_mul_of_nonneg_left hq.2 ih.1
      have h2 : 0 ≤ rnS row dg c v q a * q := Int.mul_nonneg ih.1 hq.1
      omega
    · exact ih
theorem rnS_congr {n m : Nat} {row row' : Nat → Int} {dg c v q : Int} (hc : 0 ≤ c ∧ c < n ∧ c < 5) (h : ∀ i, lv n m i → row i = row' i) : ∀ a, a ≤ m → rnS row dg c v q a = rnS row' dg c v q a
  | 0, _ => rfl
  | a + 1, ha => by
    simp only [rnS]
    rw [rnS_congr hc h a (by omega), h _ (by omega)]
theorem l_X8_rain (d : Nat) (μ : zM) (m : Nat) (c v q : Int) (hm : μ 1 8 = m) (hm6 : m ≤ 6) (hc : 0 ≤ c ∧ c < 5) (hq : 0 ≤ q ∧ q ≤ 100) : ∀ (t0 a : Nat), m - a = t0 → a ≤ m → zA RX8 cX8_rain 7 (zRm (d + 2) 0) zN0 TF 0 μ 42 [some (zR 0), some (zI c), some (zI v), some (zI q), some (zL (rnS (μ 53) (μ 1 10) c v q a)), none, some (zI (a : Int))] [] (zPi (fun w ξ => w = rnS (μ 53) (μ 1 10) c v q m ∧ μ = ξ)) := by
  intro t0
  induction t0 using Nat.strongRecOn with
  | ind t0 ih =>
    intro a hk ham
    refine zA_iload dX8_rain_42 rfl ?_
    refine zA_aload_n dX8_rain_44 rfl ?_
    refine zA_getR fX8_12 t_0 rfl dX8_rain_45 ?_
    refine zA_getE (w := (m : Int)) fX8_111 t_1 dX8_rain_48 hm ?_
    refine zA_icmp_ge (tgt := 104) dX8_rain_51 rfl (fun h51 => ?_) (fun h51 => ?_)
    · refine zA_lload dX8_rain_104 rfl ?_
      refine zA_l2iE (w := rnS (μ 53) (μ 1 10) c v q m) dX8_rain_106 (by have hS := rnS_rg (row := μ 53) (dg := μ 1 10) (c := c) (v := v) hq a; rw [show m = a by omega]; exact zwi_id ⟨by omega, by omega⟩) ?_
      exact zA_ri dX8_rain_107 ⟨rfl, rfl⟩
    · have hS := rnS_rg (row := μ 53) (dg := μ 1 10) (c := c) (v := v) hq a
      have hq1 : rnS (μ 53) (μ 1 10) c v q a * q ≤ rnS (μ 53) (μ 1 10) c v q a * 100 := Int.mul_le_mul_of_nonneg_left hq.2 hS.1
      have hq2 : 0 ≤ rnS (μ 53) (μ 1 10) c v q a * q := Int.mul_nonneg hS.1 hq.1
      refine zA_aload_n dX8_rain_54 rfl ?_
      refine zA_getR fX8_47 t_0 rfl dX8_rain_55 ?_
      refine zA_getR fX8_144 t_52 rfl dX8_rain_58 ?_
      refine zA_iload dX8_rain_61 rfl ?_
      refine zA_iload_n dX8_rain_63 rfl ?_
      refine zA_cSi (st := [zR 53]) kX8_147 (c_X8_cell d (a : Int) c μ (by omega) (by omega)) rfl rfl rfl dX8_rain_64 (zfit0 (by omega) rfl) (fun v1 μ1 q1 => ?_)
      obtain ⟨rfl, rfl⟩ := q1
      refine zA_ialE (w := μ 53 (a * 5 + c.toNat)) (j := ((a : Int) * 5 + c).toNat) t_53 (by omega) (by omega) dX8_rain_67 rfl (by rw [show ((a : Int) * 5 + c).toNat = a * 5 + c.toNat by omega]) ?_
      refine zA_iload_n dX8_rain_68 rfl ?_
      refine zA_icmp_le (tgt := 98) dX8_rain_69 rfl (fun h69 => ?_) (fun h69 => ?_)
      · refine zA_iincB (ls' := [some (zR 0), some (zI c), some (zI v), some (zI q), some (zL (rnS (μ 53) (μ 1 10) c v q a)), none, some (zI ((a : Int) + 1))]) dX8_rain_98 rfl rfl ⟨by omega, by omega⟩ rfl ?_
        refine zA_goto (tgt := 42) dX8_rain_101 rfl ?_
        refine zA_leq (ls' := [some (zR 0), some (zI c), some (zI v), some (zI q), some (zL (rnS (μ 53) (μ 1 10) c v q (a + 1))), none, some (zI ((a : Int) + 1))]) (by simp only [rnS]; rw [if_neg (by intro q; omega)]) ?_
        exact ih _ (by omega) (a + 1) rfl (by omega)
      · refine zA_aload_n dX8_rain_72 rfl ?_
        refine zA_getR fX8_12 t_0 rfl dX8_rain_73 ?_
        refine zA_getI fX8_129 t_1 dX8_rain_76 ?_
        refine zA_iload dX8_rain_79 rfl ?_
        refine zA_cSb (st := []) kX8_189 (c_X8_isIn d (μ 1 10) (a : Int) μ) rfl rfl rfl dX8_rain_81 (zfit0 (by omega) rfl) (fun v2 μ2 q2 => ?_)
        obtain ⟨b2, rfl⟩ := q2
        refine zA_ifb_ne (tgt := 98) dX8_rain_84 rfl (fun h84 => ?_) (fun h84 => ?_)
        · refine zA_iincB (ls' := [some (zR 0), some (zI c), some (zI v), some (zI q), some (zL (rnS (μ 53) (μ 1 10) c v q a)), none, some (zI ((a : Int) + 1))]) dX8_rain_98 rfl rfl ⟨by omega, by omega⟩ rfl ?_
          refine zA_goto (tgt := 42) dX8_rain_101 rfl ?_
          refine zA_leq (ls' := [some (zR 0), some (zI c), some (zI v), some (zI q), some (zL (rnS (μ 53) (μ 1 10) c v q (a + 1))), none, some (zI ((a : Int) + 1))]) (by simp only [rnS]; rw [if_neg (by first | (intro q; omega) | (intro q; have := b2.mp (by simpa using h84); exact q.2 this))]) ?_
          exact ih _ (by omega) (a + 1) rfl (by omega)
        · refine zA_lload dX8_rain_87 rfl ?_
          refine zA_iload_n dX8_rain_89 rfl ?_
          refine zA_i2l dX8_rain_90 ?_
          refine zA_lmulE (w := rnS (μ 53) (μ 1 10) c v q a * q) dX8_rain_91 (zwl_id ⟨by omega, by omega⟩) ?_
          refine zA_ldc2 cX8_255 dX8_rain_92 rfl ?_
          refine zA_ldivE (w := rnS (μ 53) (μ 1 10) c v q a * q / 100) dX8_rain_95 (by decide) (by rw [Int.tdiv_eq_ediv_of_nonneg hq2]; exact zwl_id ⟨by omega, by omega⟩) ?_
          refine zA_lstore (ls' := [some (zR 0), some (zI c), some (zI v), some (zI q), some (zL (rnS (μ 53) (μ 1 10) c v q a * q / 100)), none, some (zI (a : Int))]) dX8_rain_96 rfl rfl ?_
          refine zA_iincB (ls' := [some (zR 0), some (zI c), some (zI v), some (zI q), some (zL (rnS (μ 53) (μ 1 10) c v q a * q / 100)), none, some (zI ((a : Int) + 1))]) dX8_rain_98 rfl rfl ⟨by omega, by omega⟩ rfl ?_
          refine zA_goto (tgt := 42) dX8_rain_101 rfl ?_
          refine zA_leq (ls' := [some (zR 0), some (zI c), some (zI v), some (zI q), some (zL (rnS (μ 53) (μ 1 10) c v q (a + 1))), none, some (zI ((a : Int) + 1))]) (by simp only [rnS]; rw [if_pos ⟨by omega, fun q => by have := b2.mpr q; simp_all⟩]) ?_
          exact ih _ (by omega) (a + 1) rfl (by omega)
theorem c_X8_rain (d : Nat) (μ : zM) (n m t : Nat) (u c v q : Int) (hH : zHs μ n m t u) : zMet (d + 2) 0 yX8_rain cX8_rain 7 (some .int) TF μ [zR 0, zI c, zI v, zI q] (zPi (fun w ξ => (¬ (0 ≤ c ∧ c < n) → w = -1000000001 ∧ μ = ξ) ∧ ((0 ≤ c ∧ c < n) → (¬ ((0 ≤ v ∧ v ≤ 60) ∧ (0 ≤ q ∧ q ≤ 100)) → w = -1000000002 ∧ μ = ξ) ∧ (((0 ≤ v ∧ v ≤ 60) ∧ (0 ≤ q ∧ q ≤ 100)) → w = rnS (μ 53) (μ 1 10) c v q m ∧ μ = ξ)))) := by
  obtain ⟨hn, hu, hm, ht, hn5, hm6, ht10, hu1, hdk⟩ := hH
  refine zMi_of RX8 rfl (by decide) rfl (ls := [some (zR 0), some (zI c), some (zI v), some (zI q), none, none, none]) rfl (fun hok0 => ?_)
  refine zA_aload_n dX8_rain_0 rfl ?_
  refine zA_getR fX8_12 t_0 rfl dX8_rain_1 ?_
  refine zA_iload_n dX8_rain_4 rfl ?_
  refine zA_cVb (st := []) kX8_215 t_1 rfl rfl (c_X2_hasColour d c μ) rfl rfl rfl dX8_rain_5 (zfit0 (by omega) rfl) (fun v1 μ1 q1 => ?_)
  obtain ⟨b1, rfl⟩ := q1
  rw [hn] at b1
  refine zA_ifb_ne (tgt := 14) dX8_rain_8 rfl (fun h8 => ?_) (fun h8 => ?_)
  · refine zA_iload_n dX8_rain_14 rfl ?_
    refine zA_cSb (st := []) kX8_218 (c_X8_isAmount d v μ) rfl rfl rfl dX8_rain_15 (zfit0 (by omega) rfl) (fun v2 μ2 q2 => ?_)
    obtain ⟨b2, rfl⟩ := q2
    refine zA_ifb_eq (tgt := 31) dX8_rain_18 rfl (fun h18 => ?_) (fun h18 => ?_)
    · refine zA_ldc cX8_88 dX8_rain_31 rfl ?_
      exact zA_ri dX8_rain_33 ⟨fun q => absurd (b1.mp h8) q, fun _ => ⟨fun _ => ⟨rfl, rfl⟩, fun q => False.elim (by first | (have := b2.mpr q.1; simp_all; done) | omega)⟩⟩
    · refine zA_iload_n dX8_rain_21 rfl ?_
      refine zA_if_lt (tgt := 31) dX8_rain_22 rfl (fun h22 => ?_) (fun h22 => ?_)
      · refine zA_ldc cX8_88 dX8_rain_31 rfl ?_
        exact zA_ri dX8_rain_33 ⟨fun q => absurd (b1.mp h8) q, fun _ => ⟨fun _ => ⟨rfl, rfl⟩, fun q => False.elim (by first | (have := b2.mpr q.1; simp_all; done) | omega)⟩⟩
      · refine zA_iload_n dX8_rain_25 rfl ?_
        refine zA_bipush dX8_rain_26 rfl ?_
        refine zA_icmp_le (tgt := 34) dX8_rain_28 rfl (fun h28 => ?_) (fun h28 => ?_)
        · refine zA_ldc2 cX8_253 dX8_rain_34 rfl ?_
          refine zA_lstore (ls' := [some (zR 0), some (zI c), some (zI v), some (zI q), some (zL 1000000000), none, none]) dX8_rain_37 rfl rfl ?_
          refine zA_iconst dX8_rain_39 rfl ?_
          refine zA_istore (ls' := [some (zR 0), some (zI c), some (zI v), some (zI q), some (zL 1000000000), none, some (zI 0)]) dX8_rain_40 rfl rfl ?_
          have hc1 := b1.mp h8
          have hv1 := b2.mp (by simpa using h18)
          have hq1 : 0 ≤ q ∧ q ≤ 100 := by omega
          exact zAi_mono (l_X8_rain d μ m c v q hm hm6 (by omega) hq1 _ 0 rfl (by omega)) (fun w ξ h => ⟨fun q => absurd hc1 q, fun _ => ⟨fun q => absurd ⟨hv1, hq1⟩ q, fun _ => h⟩⟩)
        · refine zA_ldc cX8_88 dX8_rain_31 rfl ?_
          exact zA_ri dX8_rain_33 ⟨fun q => absurd (b1.mp h8) q, fun _ => ⟨fun _ => ⟨rfl, rfl⟩, fun q => False.elim (by first | (have := b2.mpr q.1; simp_all; done) | omega)⟩⟩
  · refine zA_ldc cX8_151 dX8_rain_11 rfl ?_
    exact zA_ri dX8_rain_13 ⟨fun _ => ⟨rfl, rfl⟩, fun q => False.elim (by have := b1.mpr q; simp_all)⟩
theorem l_X9_rain (d : Nat) (μ : zM) (m : Nat) (c v q : Int) (hm : μ 110 2 = m) (hm6 : m ≤ 6) (hc : 0 ≤ c ∧ c < 5) (hq : 0 ≤ q ∧ q ≤ 100) : ∀ (t0 a : Nat), m - a = t0 → a ≤ m → zA RX9 cX9_rain 7 (zRm (d + 2) 0) zN0 TF 0 μ 41 [some (zR 110), some (zI c), some (zI v), some (zI q), some (zL (rnS (μ 114) (μ 110 4) c v q a)), none, some (zI (a : Int))] [] (zPi (fun w ξ => w = rnS (μ 114) (μ 110 4) c v q m ∧ μ = ξ)) := by
  intro t0
  induction t0 using Nat.strongRecOn with
  | ind t0 ih =>
    intro a hk ham
    refine zA_iload dX9_rain_41 rfl ?_
    refine zA_aload_n dX9_rain_43 rfl ?_
    refine zA_getE (w := (m : Int)) fX9_78 t_110 dX9_rain_44 hm ?_
    refine zA_icmp_ge (tgt := 99) dX9_rain_47 rfl (fun h47 => ?_) (fun h47 => ?_)
    · refine zA_lload dX9_rain_99 rfl ?_
      refine zA_l2iE (w := rnS (μ 114) (μ 110 4) c v q m) dX9_rain_101 (by have hS := rnS_rg (row := μ 114) (dg := μ 110 4) (c := c) (v := v) hq a; rw [show m = a by omega]; exact zwi_id ⟨by omega, by omega⟩) ?_
      exact zA_ri dX9_rain_102 ⟨rfl, rfl⟩
    · have hS := rnS_rg (row := μ 114) (dg := μ 110 4) (c := c) (v := v) hq a
      have hq1 : rnS (μ 114) (μ 110 4) c v q a * q ≤ rnS (μ 114) (μ 110 4) c v q a * 100 := Int.mul_le_mul_of_nonneg_left hq.2 hS.1
      have hq2 : 0 ≤ rnS (μ 114) (μ 110 4) c v q a * q := Int.mul_nonneg hS.1 hq.1
      refine zA_aload_n dX9_rain_50 rfl ?_
      refine zA_getR fX9_19 t_110 rfl dX9_rain_51 ?_
      refine zA_iconst dX9_rain_54 rfl ?_
      refine zA_iload dX9_rain_55 rfl ?_
      refine zA_imulB dX9_rain_57 ⟨by omega, by omega⟩ ?_
      refine zA_iload_n dX9_rain_58 rfl ?_
      refine zA_iaddB dX9_rain_59 ⟨by omega, by omega⟩ ?_
      refine zA_ialE (w := μ 114 (a * 5 + c.toNat)) (j := ((5 * (a : Int)) + c).toNat) t_114 (by omega) (by omega) dX9_rain_60 rfl (by rw [show (5 * (a : Int) + c).toNat = a * 5 + c.toNat by omega]) ?_
      refine zA_iload_n dX9_rain_61 rfl ?_
      refine zA_icmp_le (tgt := 89) dX9_rain_62 rfl (fun h62 => ?_) (fun h62 => ?_)
      · refine zA_lload dX9_rain_89 rfl ?_
        refine zA_lstore (ls' := [some (zR 110), some (zI c), some (zI v), some (zI q), some (zL (rnS (μ 114) (μ 110 4) c v q a)), none, some (zI (a : Int))]) dX9_rain_91 rfl rfl ?_
        refine zA_iincB (ls' := [some (zR 110), some (zI c), some (zI v), some (zI q), some (zL (rnS (μ 114) (μ 110 4) c v q a)), none, some (zI ((a : Int) + 1))]) dX9_rain_93 rfl rfl ⟨by omega, by omega⟩ rfl ?_
        refine zA_goto (tgt := 41) dX9_rain_96 rfl ?_
        refine zA_leq (ls' := [some (zR 110), some (zI c), some (zI v), some (zI q), some (zL (rnS (μ 114) (μ 110 4) c v q (a + 1))), none, some (zI ((a : Int) + 1))]) (by simp only [rnS]; rw [if_neg (by intro q; omega)]) ?_
        exact ih _ (by omega) (a + 1) rfl (by omega)
      · refine zA_aload_n dX9_rain_65 rfl ?_
        refine zA_getI fX9_166 t_110 dX9_rain_66 ?_
        refine zA_iload dX9_rain_69 rfl ?_
        refine zA_cSb (st := []) kX9_140 (c_X9_has d (μ 110 4) (a : Int) μ) rfl rfl rfl dX9_rain_71 (zfit0 (by omega) rfl) (fun v1 μ1 q1 => ?_)
        obtain ⟨b1, rfl⟩ := q1
        refine zA_ifb_ne (tgt := 89) dX9_rain_74 rfl (fun h74 => ?_) (fun h74 => ?_)
        · refine zA_lload dX9_rain_89 rfl ?_
          refine zA_lstore (ls' := [some (zR 110), some (zI c), some (zI v), some (zI q), some (zL (rnS (μ 114) (μ 110 4) c v q a)), none, some (zI (a : Int))]) dX9_rain_91 rfl rfl ?_
          refine zA_iincB (ls' := [some (zR 110), some (zI c), some (zI v), some (zI q), some (zL (rnS (μ 114) (μ 110 4) c v q a)), none, some (zI ((a : Int) + 1))]) dX9_rain_93 rfl rfl ⟨by omega, by omega⟩ rfl ?_
          refine zA_goto (tgt := 41) dX9_rain_96 rfl ?_
          refine zA_leq (ls' := [some (zR 110), some (zI c), some (zI v), some (zI q), some (zL (rnS (μ 114) (μ 110 4) c v q (a + 1))), none, some (zI ((a : Int) + 1))]) (by simp only [rnS]; rw [if_neg (by first | (intro q; omega) | (intro q; have := b1.mp (by simpa using h74); exact q.2 this))]) ?_
          exact ih _ (by omega) (a + 1) rfl (by omega)
        · refine zA_lload dX9_rain_77 rfl ?_
          refine zA_iload_n dX9_rain_79 rfl ?_
          refine zA_i2l dX9_rain_80 ?_
          refine zA_lmulE (w := rnS (μ 114) (μ 110 4) c v q a * q) dX9_rain_81 (zwl_id ⟨by omega, by omega⟩) ?_
          refine zA_ldc2 cX9_262 dX9_rain_82 rfl ?_
          refine zA_ldivE (w := rnS (μ 114) (μ 110 4) c v q a * q / 100) dX9_rain_85 (by decide) (by rw [Int.tdiv_eq_ediv_of_nonneg hq2]; exact zwl_id ⟨by omega, by omega⟩) ?_
          refine zA_goto (tgt := 91) dX9_rain_86 rfl ?_
          refine zA_lstore (ls' := [some (zR 110), some (zI c), some (zI v), some (zI q), some (zL (rnS (μ 114) (μ 110 4) c v q a * q / 100)), none, some (zI (a : Int))]) dX9_rain_91 rfl rfl ?_
          refine zA_iincB (ls' := [some (zR 110), some (zI c), some (zI v), some (zI q), some (zL (rnS (μ 114) (μ 110 4) c v q a * q / 100)), none, some (zI ((a : Int) + 1))]) dX9_rain_93 rfl rfl ⟨by omega, by omega⟩ rfl ?_
          refine zA_goto (tgt := 41) dX9_rain_96 rfl ?_
          refine zA_leq (ls' := [some (zR 110), some (zI c), some (zI v), some (zI q), some (zL (rnS (μ 114) (μ 110 4) c v q (a + 1))), none, some (zI ((a : Int) + 1))]) (by simp only [rnS]; rw [if_pos ⟨by omega, fun q => by have := b1.mpr q; simp_all⟩]) ?_
          exact ih _ (by omega) (a + 1) rfl (by omega)
theorem c_X9_rain (d : Nat) (μ : zM) (n m t : Nat) (u c v q : Int) (hH : zMs μ n m t u) : zMet (d + 3) 0 yX9_rain cX9_rain 7 (some .int) TF μ [zR 110, zI c, zI v, zI q] (zPi (fun w ξ => (¬ (0 ≤ c ∧ c < n) → w = -1000000001 ∧ μ = ξ) ∧ ((0 ≤ c ∧ c < n) → (¬ ((0 ≤ v ∧ v ≤ 60) ∧ (0 ≤ q ∧ q ≤ 100)) → w = -1000000002 ∧ μ = ξ) ∧ (((0 ≤ v ∧ v ≤ 60) ∧ (0 ≤ q ∧ q ≤ 100)) → w = rnS (μ 114) (μ 110 4) c v q m ∧ μ = ξ)))) := by
  obtain ⟨hn, hu, hm, ht, hn5, hm6, ht10, hu1, hdk⟩ := hH
  refine zMi_of RX9 rfl (by decide) rfl (ls := [some (zR 110), some (zI c), some (zI v), some (zI q), none, none, none]) rfl (fun hok0 => ?_)
  refine zA_aload_n dX9_rain_0 rfl ?_
  refine zA_iload_n dX9_rain_1 rfl ?_
  refine zA_cVb (st := []) kX9_191 t_110 rfl rfl (c_X9_isColour d c μ (by omega)) rfl rfl rfl dX9_rain_2 (zfit0 (by omega) rfl) (fun v1 μ1 q1 => ?_)
  obtain ⟨b1, rfl⟩ := q1
  rw [hn] at b1
  refine zA_ifb_ne (tgt := 11) dX9_rain_5 rfl (fun h5 => ?_) (fun h5 => ?_)
  · refine zA_iload_n dX9_rain_11 rfl ?_
    refine zA_cSb (st := []) kX9_249 (c_X9_isParts d v μ) rfl rfl rfl dX9_rain_12 (zfit0 (by omega) rfl) (fun v2 μ2 q2 => ?_)
    obtain ⟨b2, rfl⟩ := q2
    refine zA_ifb_eq (tgt := 30) dX9_rain_15 rfl (fun h15 => ?_) (fun h15 => ?_)
    · refine zA_ldc cX9_89 dX9_rain_30 rfl ?_
      exact zA_ri dX9_rain_32 ⟨fun q => absurd (b1.mp h5) q, fun _ => ⟨fun _ => ⟨rfl, rfl⟩, fun q => False.elim (by first | (have := b2.mpr q.1; simp_all; done) | (have := b3.mpr q.2; simp_all; done))⟩⟩
    · refine zA_iload_n dX9_rain_18 rfl ?_
      refine zA_i2l dX9_rain_19 ?_
      refine zA_lconst (v := 0) dX9_rain_20 rfl rfl ?_
      refine zA_ldc2 cX9_262 dX9_rain_21 rfl ?_
      refine zA_cSb (st := []) kX9_81 (c_X9_in (d + 1) (q) (0) (100) μ) rfl rfl rfl dX9_rain_24 (zfit0 (by omega) rfl) (fun v3 μ3 q3 => ?_)
      obtain ⟨b3, rfl⟩ := q3
      refine zA_ifb_ne (tgt := 33) dX9_rain_27 rfl (fun h27 => ?_) (fun h27 => ?_)
      · refine zA_ldc2 cX9_264 dX9_rain_33 rfl ?_
        refine zA_lstore (ls' := [some (zR 110), some (zI c), some (zI v), some (zI q), some (zL 1000000000), none, none]) dX9_rain_36 rfl rfl ?_
        refine zA_iconst dX9_rain_38 rfl ?_
        refine zA_istore (ls' := [some (zR 110), some (zI c), some (zI v), some (zI q), some (zL 1000000000), none, some (zI 0)]) dX9_rain_39 rfl rfl ?_
        have hc1 := b1.mp h5
        have hv1 := b2.mp (by simpa using h15)
        have hq1 : 0 ≤ q ∧ q ≤ 100 := b3.mp h27
        exact zAi_mono (l_X9_rain (d + 1) μ m c v q hm hm6 (by omega) hq1 _ 0 rfl (by omega)) (fun w ξ h => ⟨fun q => absurd hc1 q, fun _ => ⟨fun q => absurd ⟨hv1, hq1⟩ q, fun _ => h⟩⟩)
      · refine zA_ldc cX9_89 dX9_rain_30 rfl ?_
        exact zA_ri dX9_rain_32 ⟨fun q => absurd (b1.mp h5) q, fun _ => ⟨fun _ => ⟨rfl, rfl⟩, fun q => False.elim (by first | (have := b2.mpr q.1; simp_all; done) | (have := b3.mpr q.2; simp_all; done))⟩⟩
  · refine zA_ldc cX9_194 dX9_rain_8 rfl ?_
    exact zA_ri dX9_rain_10 ⟨fun _ => ⟨rfl, rfl⟩, fun q => False.elim (by have := b1.mpr q; simp_all)⟩
theorem pr_rain (μ : zM) (c v q : Int) (n m t : Nat) (u : Int) (hI : zInv μ n m t u) : zPair yX8_rain cX8_rain 7 yX9_rain cX9_rain 7 [zI c, zI v, zI q] μ := by
  obtain ⟨hn, hu, hm, ht0, hn5, hm6, ht10, hu1, hdk⟩ := hI.1.1
  have hdg : μ 1 10 = μ 110 4 := hI.1.2.2.1
  refine zPair_q hI (if (0 ≤ c ∧ c < n) then (if (0 ≤ v ∧ v ≤ 60) ∧ (0 ≤ q ∧ q ≤ 100) then rnS (μ 114) (μ 110 4) c v q m else -1000000002) else -1000000001) (zMi_mono (c_X8_rain 18 μ n m t u c v q hI.1.1) ?_) (fun ν hq hν => zMi_mono (c_X9_rain 17 ν n m t u c v q hν.1.2.1) ?_)
  · intro w ν h
    by_cases h1 : 0 ≤ c ∧ c < n
    · by_cases h2 : (0 ≤ v ∧ v ≤ 60) ∧ (0 ≤ q ∧ q ≤ 100)
      · obtain ⟨rfl, rfl⟩ := (h.2 h1).2 h2
        rw [if_pos h1, if_pos h2, hdg]
        exact ⟨rnS_congr (n := n) (m := m) (by omega) hI.row m (Nat.le_refl _), qC.refl _⟩
      · obtain ⟨rfl, rfl⟩ := (h.2 h1).1 h2
        rw [if_pos h1, if_neg h2]
        exact ⟨rfl, qC.refl _⟩
    · obtain ⟨rfl, rfl⟩ := h.1 h1
      rw [if_neg h1]
      exact ⟨rfl, qC.refl _⟩
  · intro w ξ h
    have e114 : ν 114 = μ 114 := hq 114 (by unfold cScr; omega)
    have e110 : ν 110 = μ 110 := hq 110 (by unfold cScr; omega)
    by_cases h1 : 0 ≤ c ∧ c < n
    · by_cases h2 : (0 ≤ v ∧ v ≤ 60) ∧ (0 ≤ q ∧ q ≤ 100)
      · obtain ⟨rfl, rfl⟩ := (h.2 h1).2 h2
        rw [if_pos h1, if_pos h2, e114, e110]
        exact ⟨rfl, qM.refl _⟩
      · obtain ⟨rfl, rfl⟩ := (h.2 h1).1 h2
        rw [if_pos h1, if_neg h2]
        exact ⟨rfl, qM.refl _⟩
    · obtain ⟨rfl, rfl⟩ := h.1 h1
      rw [if_neg h1]
      exact ⟨rfl, qM.refl _⟩
