/-! ===== washes, blend ===== -/
def wsh (row ow : Nat → Int) (dg c v : Int) : Nat → Option Nat
  | 0 => some 0
  | a + 1 => match wsh row ow dg c v a with
    | none => none
    | some s => if v < row (a * 5 + c.toNat) then (if zbit dg (a : Int) = 1 ∨ v < ow (a * 5 + c.toNat) then none else some (s ||| 2 ^ a)) else some s
theorem wsh_lt {row ow : Nat → Int} {dg c v : Int} : ∀ {a s : Nat}, wsh row ow dg c v a = some s → s < 2 ^ a
  | 0, s, h => by simp [wsh] at h; omega
  | a + 1, s, h => by
    simp only [wsh] at h
    cases hs : wsh row ow dg c v a with
    | none => rw [hs] at h; cases h
    | some s' =>
      have ih := wsh_lt hs
      have h2 : 2 ^ a < 2 ^ (a + 1) := Nat.pow_lt_pow_right (by decide) (by omega)
      rw [hs] at h
      simp only at h
      split at h
      · split at h
        · cases h
        · cases h
          exact Nat.or_lt_two_pow (by omega) h2
      · cases h
        omega
theorem wsh_none {row ow : Nat → Int} {dg c v : Int} {a : Nat} (h : wsh row ow dg c v a = none) : ∀ b, a ≤ b → wsh row ow dg c v b = none
  | 0, hb => by rw [← h, show a = 0 by omega]
  | b + 1, hb => by
    by_cases e : a = b + 1
    · rw [← e]; exact h
    · simp only [wsh]
      rw [wsh_none h b (by omega)]
theorem wsh_congr {row row' ow ow' : Nat → Int} {dg c v : Int} (hc : 0 ≤ c ∧ c < 5) (h : ∀ i, i < 30 → row i = row' i) (h2 : ∀ i, i < 30 → ow i = ow' i) : ∀ a, a ≤ 6 → wsh row ow dg c v a = wsh row' ow' dg c v a
  | 0, _ => rfl
  | a + 1, ha => by
    simp only [wsh]
    rw [wsh_congr hc h h2 a (by omega), h _ (by omega), h2 _ (by omega)]
theorem wsh_congrL {n m : Nat} {row row' ow ow' : Nat → Int} {dg c v : Int} (hc : 0 ≤ c ∧ c < n ∧ c < 5) (h : ∀ i, lv n m i → row i = row' i) (h2 : ∀ i, lv n m i → ow i = ow' i) : ∀ a, a ≤ m → wsh row ow dg c v a = wsh row' ow' dg c v a
  | 0, _ => rfl
  | a + 1, ha => by
    simp only [wsh]
    rw [wsh_congrL hc h h2 a (by omega), h _ (by omega), h2 _ (by omega)]
theorem pow6 {a : Nat} (h : a ≤ 6) : 2 ^ a ≤ 64 := Nat.pow_le_pow_right (n := 2) (by decide) h
theorem l_X8_washes (d : Nat) (ν : zM) (m : Nat) (c v : Int) (hm : ν 1 8 = m) (hm6 : m ≤ 6) (hc : 0 ≤ c ∧ c < 5) : ∀ (t0 a s : Nat), m - a = t0 → a ≤ m → wsh (ν 104) (ν 2) (ν 1 10) c v a = some s → zA RX8 cX8_washes 5 (zRm (d + 2) 0) zN0 TF 0 ν 62 [some (zR 0), some (zI c), some (zI v), some (zI (s : Int)), some (zI (a : Int))] [] (zPi (fun w ξ => w = gOb (wsh (ν 104) (ν 2) (ν 1 10) c v m) ∧ ν = ξ)) := by
  intro t0
  induction t0 using Nat.strongRecOn with
  | ind t0 ih =>
    intro a s hk ham hs
    refine zA_iload dX8_washes_62 rfl ?_
    refine zA_aload_n dX8_washes_64 rfl ?_
    refine zA_getR fX8_12 t_0 rfl dX8_washes_65 ?_
    refine zA_getE (w := (m : Int)) fX8_111 t_1 dX8_washes_68 hm ?_
    refine zA_icmp_ge (tgt := 137) dX8_washes_71 rfl (fun h71 => ?_) (fun h71 => ?_)
    · refine zA_iload_n dX8_washes_137 rfl ?_
      exact zA_ri dX8_washes_138 ⟨by rw [show m = a by omega, hs]; rfl, rfl⟩
    · have hlt := wsh_lt hs
      have hp6 := pow6 (show a ≤ 6 by omega)
      have h2 : 2 ^ a < 2 ^ 31 := Nat.pow_lt_pow_right (by decide) (by omega)
      refine zA_aload_n dX8_washes_74 rfl ?_
      refine zA_getR fX8_78 t_0 rfl dX8_washes_75 ?_
      refine zA_iload dX8_washes_78 rfl ?_
      refine zA_iload_n dX8_washes_80 rfl ?_
      refine zA_cSi (st := [zR 104]) kX8_147 (c_X8_cell d (a : Int) c ν (by omega) (by omega)) rfl rfl rfl dX8_washes_81 (zfit0 (by omega) rfl) (fun v1 μ1 q1 => ?_)
      obtain ⟨rfl, rfl⟩ := q1
      refine zA_ialE (w := ν 104 (a * 5 + c.toNat)) (j := ((a : Int) * 5 + c).toNat) t_104 (by omega) (by omega) dX8_washes_84 rfl (by rw [show ((a : Int) * 5 + c).toNat = a * 5 + c.toNat by omega]) ?_
      refine zA_iload_n dX8_washes_85 rfl ?_
      refine zA_icmp_le (tgt := 131) dX8_washes_86 rfl (fun h86 => ?_) (fun h86 => ?_)
      · refine zA_iincB (ls' := [some (zR 0), some (zI c), some (zI v), some (zI (s : Int)), some (zI ((a : Int) + 1))]) dX8_washes_131 rfl rfl ⟨by omega, by omega⟩ rfl ?_
        refine zA_goto (tgt := 62) dX8_washes_134 rfl ?_
        exact ih _ (by omega) (a + 1) s rfl (by omega) (by simp only [wsh]; rw [hs]; simp only; rw [if_neg (by omega)])
      · refine zA_aload_n dX8_washes_89 rfl ?_
        refine zA_getR fX8_12 t_0 rfl dX8_washes_90 ?_
        refine zA_getI fX8_129 t_1 dX8_washes_93 ?_
        refine zA_iload dX8_washes_96 rfl ?_
        refine zA_cSb (st := []) kX8_189 (c_X8_isIn d (ν 1 10) (a : Int) ν) rfl rfl rfl dX8_washes_98 (zfit0 (by omega) rfl) (fun v2 μ2 q2 => ?_)
        obtain ⟨b2, rfl⟩ := q2
        refine zA_ifb_ne (tgt := 122) dX8_washes_101 rfl (fun h101 => ?_) (fun h101 => ?_)
        · refine zA_iconst dX8_washes_122 rfl ?_
          refine zA_ri dX8_washes_123 ⟨?_, rfl⟩
          have hyes : zbit (ν 1 10) (a : Int) = 1 ∨ v < ν 2 (a * 5 + c.toNat) := by
            first | exact Or.inr (by omega) | exact Or.inl (b2.mp (by simpa using h101)) | exact Or.inl (b1.mp (by simpa using h101))
          have hno : wsh (ν 104) (ν 2) (ν 1 10) c v (a + 1) = none := by
            simp only [wsh]
            rw [hs]
            simp only
            rw [if_pos (by omega), if_pos hyes]
          rw [wsh_none hno m (by omega)]
          rfl
        · refine zA_aload_n dX8_washes_104 rfl ?_
          refine zA_getR fX8_12 t_0 rfl dX8_washes_105 ?_
          refine zA_getR fX8_152 t_1 rfl dX8_washes_108 ?_
          refine zA_iload dX8_washes_111 rfl ?_
          refine zA_iload_n dX8_washes_113 rfl ?_
          refine zA_cSi (st := [zR 2]) kX8_147 (c_X8_cell d (a : Int) c ν (by omega) (by omega)) rfl rfl rfl dX8_washes_114 (zfit0 (by omega) rfl) (fun v3 μ3 q3 => ?_)
          obtain ⟨rfl, rfl⟩ := q3
          refine zA_ialE (w := ν 2 (a * 5 + c.toNat)) (j := ((a : Int) * 5 + c).toNat) t_2 (by omega) (by omega) dX8_washes_117 rfl (by rw [show ((a : Int) * 5 + c).toNat = a * 5 + c.toNat by omega]) ?_
          refine zA_iload_n dX8_washes_118 rfl ?_
          refine zA_icmp_le (tgt := 124) dX8_washes_119 rfl (fun h119 => ?_) (fun h119 => ?_)
          · refine zA_iload_n dX8_washes_124 rfl ?_
            refine zA_iconst dX8_washes_125 rfl ?_
            refine zA_iload dX8_washes_126 rfl ?_
            refine zA_ishl dX8_washes_128 ?_
            refine zA_iorE (w := ((s ||| 2 ^ a : Nat) : Int)) dX8_washes_129 (by rw [zshl_1 a (by omega), zor_nat (by omega) h2]) ?_
            refine zA_istore_n (ls' := [some (zR 0), some (zI c), some (zI v), some (zI (((s ||| 2 ^ a : Nat) : Int))), some (zI (a : Int))]) dX8_washes_130 rfl rfl ?_
            refine zA_iincB (ls' := [some (zR 0), some (zI c), some (zI v), some (zI (((s ||| 2 ^ a : Nat) : Int))), some (zI ((a : Int) + 1))]) dX8_washes_131 rfl rfl ⟨by omega, by omega⟩ rfl ?_
            refine zA_goto (tgt := 62) dX8_washes_134 rfl ?_
            refine ih _ (by omega) (a + 1) (s ||| 2 ^ a) rfl (by omega) ?_
            have hno : ¬ (zbit (ν 1 10) (a : Int) = 1 ∨ v < ν 2 (a * 5 + c.toNat)) := by
              rintro (q | q)
              · have := b2.mpr q; simp_all
              · omega
            simp only [wsh]
            rw [hs]
            simp only
            rw [if_pos (by omega), if_neg hno]
          · refine zA_iconst dX8_washes_122 rfl ?_
            refine zA_ri dX8_washes_123 ⟨?_, rfl⟩
            have hyes : zbit (ν 1 10) (a : Int) = 1 ∨ v < ν 2 (a * 5 + c.toNat) := by
              first | exact Or.inr (by omega) | exact Or.inl (b2.mp (by simpa using h101)) | exact Or.inl (b1.mp (by simpa using h101))
            have hno : wsh (ν 104) (ν 2) (ν 1 10) c v (a + 1) = none := by
              simp only [wsh]
              rw [hs]
              simp only
              rw [if_pos (by omega), if_pos hyes]
            rw [wsh_none hno m (by omega)]
            rfl
theorem l_X9_washes (d : Nat) (ν : zM) (m : Nat) (c v : Int) (hm : ν 110 2 = m) (hm6 : m ≤ 6) (hc : 0 ≤ c ∧ c < 5) : ∀ (t0 a s : Nat), m - a = t0 → a ≤ m → wsh (ν 122) (ν 111) (ν 110 4) c v a = some s → zA RX9 cX9_washes 5 (zRm (d + 2) 0) zN0 TF 0 ν 40 [some (zR 110), some (zI c), some (zI v), some (zI (s : Int)), some (zI (a : Int))] [] (zPi (fun w ξ => w = gOb (wsh (ν 122) (ν 111) (ν 110 4) c v m) ∧ ν = ξ)) := by
  intro t0
  induction t0 using Nat.strongRecOn with
  | ind t0 ih =>
    intro a s hk ham hs
    refine zA_iload dX9_washes_40 rfl ?_
    refine zA_aload_n dX9_washes_42 rfl ?_
    refine zA_getE (w := (m : Int)) fX9_78 t_110 dX9_washes_43 hm ?_
    refine zA_icmp_ge (tgt := 106) dX9_washes_46 rfl (fun h46 => ?_) (fun h46 => ?_)
    · refine zA_iload_n dX9_washes_106 rfl ?_
      exact zA_ri dX9_washes_107 ⟨by rw [show m = a by omega, hs]; rfl, rfl⟩
    · have hlt := wsh_lt hs
      have hp6 := pow6 (show a ≤ 6 by omega)
      have h2 : 2 ^ a < 2 ^ 31 := Nat.pow_lt_pow_right (by decide) (by omega)
      refine zA_aload_n dX9_washes_49 rfl ?_
      refine zA_getR fX9_47 t_110 rfl dX9_washes_50 ?_
      refine zA_iconst dX9_washes_53 rfl ?_
      refine zA_iload dX9_washes_54 rfl ?_
      refine zA_imulB dX9_washes_56 ⟨by omega, by omega⟩ ?_
      refine zA_iload_n dX9_washes_57 rfl ?_
      refine zA_iaddB dX9_washes_58 ⟨by omega, by omega⟩ ?_
      refine zA_ialE (w := ν 122 (a * 5 + c.toNat)) (j := ((5 * (a : Int)) + c).toNat) t_122 (by omega) (by omega) dX9_washes_59 rfl (by rw [show (5 * (a : Int) + c).toNat = a * 5 + c.toNat by omega]) ?_
      refine zA_iload_n dX9_washes_60 rfl ?_
      refine zA_icmp_le (tgt := 100) dX9_washes_61 rfl (fun h61 => ?_) (fun h61 => ?_)
      · refine zA_iincB (ls' := [some (zR 110), some (zI c), some (zI v), some (zI (s : Int)), some (zI ((a : Int) + 1))]) dX9_washes_100 rfl rfl ⟨by omega, by omega⟩ rfl ?_
        refine zA_goto (tgt := 40) dX9_washes_103 rfl ?_
        exact ih _ (by omega) (a + 1) s rfl (by omega) (by simp only [wsh]; rw [hs]; simp only; rw [if_neg (by omega)])
      · refine zA_aload_n dX9_washes_64 rfl ?_
        refine zA_getI fX9_166 t_110 dX9_washes_65 ?_
        refine zA_iload dX9_washes_68 rfl ?_
        refine zA_cSb (st := []) kX9_140 (c_X9_has d (ν 110 4) (a : Int) ν) rfl rfl rfl dX9_washes_70 (zfit0 (by omega) rfl) (fun v1 μ1 q1 => ?_)
        obtain ⟨b1, rfl⟩ := q1
        refine zA_ifb_ne (tgt := 91) dX9_washes_73 rfl (fun h73 => ?_) (fun h73 => ?_)
        · refine zA_iconst dX9_washes_91 rfl ?_
          refine zA_ri dX9_washes_92 ⟨?_, rfl⟩
          have hyes : zbit (ν 110 4) (a : Int) = 1 ∨ v < ν 111 (a * 5 + c.toNat) := by
            first | exact Or.inr (by omega) | exact Or.inl (b2.mp (by simpa using h73)) | exact Or.inl (b1.mp (by simpa using h73))
          have hno : wsh (ν 122) (ν 111) (ν 110 4) c v (a + 1) = none := by
            simp only [wsh]
            rw [hs]
            simp only
            rw [if_pos (by omega), if_pos hyes]
          rw [wsh_none hno m (by omega)]
          rfl
        · refine zA_aload_n dX9_washes_76 rfl ?_
          refine zA_getR fX9_7 t_110 rfl dX9_washes_77 ?_
          refine zA_iconst dX9_washes_80 rfl ?_
          refine zA_iload dX9_washes_81 rfl ?_
          refine zA_imulB dX9_washes_83 ⟨by omega, by omega⟩ ?_
          refine zA_iload_n dX9_washes_84 rfl ?_
          refine zA_iaddB dX9_washes_85 ⟨by omega, by omega⟩ ?_
          refine zA_ialE (w := ν 111 (a * 5 + c.toNat)) (j := ((5 * (a : Int)) + c).toNat) t_111 (by omega) (by omega) dX9_washes_86 rfl (by rw [show (5 * (a : Int) + c).toNat = a * 5 + c.toNat by omega]) ?_
          refine zA_iload_n dX9_washes_87 rfl ?_
          refine zA_icmp_le (tgt := 93) dX9_washes_88 rfl (fun h88 => ?_) (fun h88 => ?_)
          · refine zA_iload_n dX9_washes_93 rfl ?_
            refine zA_iconst dX9_washes_94 rfl ?_
            refine zA_iload dX9_washes_95 rfl ?_
            refine zA_ishl dX9_washes_97 ?_
            refine zA_iorE (w := ((s ||| 2 ^ a : Nat) : Int)) dX9_washes_98 (by rw [zshl_1 a (by omega), zor_nat (by omega) h2]) ?_
            refine zA_istore_n (ls' := [some (zR 110), some (zI c), some (zI v), some (zI (((s ||| 2 ^ a : Nat) : Int))), some (zI (a : Int))]) dX9_washes_99 rfl rfl ?_
            refine zA_iincB (ls' := [some (zR 110), some (zI c), some (zI v), some (zI (((s ||| 2 ^ a : Nat) : Int))), some (zI ((a : Int) + 1))]) dX9_washes_100 rfl rfl ⟨by omega, by omega⟩ rfl ?_
            refine zA_goto (tgt := 40) dX9_washes_103 rfl ?_
            refine ih _ (by omega) (a + 1) (s ||| 2 ^ a) rfl (by omega) ?_
            have hno : ¬ (zbit (ν 110 4) (a : Int) = 1 ∨ v < ν 111 (a * 5 + c.toNat)) := by
              rintro (q | q)
              · have := b1.mpr q; simp_all
              · omega
            simp only [wsh]
            rw [hs]
            simp only
            rw [if_pos (by omega), if_neg hno]
          · refine zA_iconst dX9_washes_91 rfl ?_
            refine zA_ri dX9_washes_92 ⟨?_, rfl⟩
            have hyes : zbit (ν 110 4) (a : Int) = 1 ∨ v < ν 111 (a * 5 + c.toNat) := by
              first | exact Or.inr (by omega) | exact Or.inl (b2.mp (by simpa using h73)) | exact Or.inl (b1.mp (by simpa using h73))
            have hno : wsh (ν 122) (ν 111) (ν 110 4) c v (a + 1) = none := by
              simp only [wsh]
              rw [hs]
              simp only
              rw [if_pos (by omega), if_pos hyes]
            rw [wsh_none hno m (by omega)]
            rfl
theorem c_X8_washes (d : Nat) (μ : zM) (n m t : Nat) (u c v : Int) (hH : zHs μ n m t u) (hok : rOk n m (μ 53)) : zMet (d + 6) 0 yX8_washes cX8_washes 5 (some .int) TF μ [zR 0, zI c, zI v] (zPi (fun w ξ => qC μ ξ ∧ ((¬ (0 ≤ c ∧ c < n) ∧ w = -1000000001) ∨ ((0 ≤ c ∧ c < n) ∧ ¬ (0 ≤ v ∧ v ≤ 60) ∧ w = -1000000002) ∨ ((0 ≤ c ∧ c < n) ∧ (0 ≤ v ∧ v ≤ 60) ∧ ∃ R, (∀ i, i < 30 → R i = μ 53 i) ∧ w = gOb (wsh (dRow u n (μ 52 1) (μ 3) (μ 4) 0 R t) (μ 2) (μ 1 10) c v m))))) := by
  have hH0 := hH
  obtain ⟨hn, hu, hm, ht, hn5, hm6, ht10, hu1, hdk⟩ := hH0
  refine zMi_of RX8 rfl (by decide) rfl (ls := [some (zR 0), some (zI c), some (zI v), none, none]) rfl (fun hok0 => ?_)
  refine zA_aload_n dX8_washes_0 rfl ?_
  refine zA_getR fX8_12 t_0 rfl dX8_washes_1 ?_
  refine zA_iload_n dX8_washes_4 rfl ?_
  refine zA_cVb (st := []) kX8_215 t_1 rfl rfl (c_X2_hasColour (d + 4) c μ) rfl rfl rfl dX8_washes_5 (zfit0 (by omega) rfl) (fun v1 μ1 q1 => ?_)
  obtain ⟨b1, rfl⟩ := q1
  rw [hn] at b1
  refine zA_ifb_ne (tgt := 14) dX8_washes_8 rfl (fun h8 => ?_) (fun h8 => ?_)
  · have hb := b1.mp h8
    refine zA_iload_n dX8_washes_14 rfl ?_
    refine zA_cSb (st := []) kX8_218 (c_X8_isAmount (d + 4) v μ) rfl rfl rfl dX8_washes_15 (zfit0 (by omega) rfl) (fun v2 μ2 q2 => ?_)
    obtain ⟨b2, rfl⟩ := q2
    refine zA_ifb_ne (tgt := 24) dX8_washes_18 rfl (fun h18 => ?_) (fun h18 => ?_)
    · have hv1 := b2.mp h18
      refine zA_aload_n dX8_washes_24 rfl ?_
      refine zA_getR fX8_47 t_0 rfl dX8_washes_25 ?_
      refine zA_getR fX8_144 t_52 rfl dX8_washes_28 ?_
      refine zA_aload_n dX8_washes_31 rfl ?_
      refine zA_getR fX8_78 t_0 rfl dX8_washes_32 ?_
      refine zA_cSv (st := []) kX8_172 (c_X8_copyPartsR (d + 4) 53 104 μ t_53 t_104) rfl rfl rfl dX8_washes_35 (zfit0 (by omega) rfl) (fun μ3 q3 => ?_)
      obtain ⟨q3a, q3b⟩ := q3
      refine zA_aload_n dX8_washes_38 rfl ?_
      refine zA_getR fX8_12 t_0 rfl dX8_washes_39 ?_
      refine zA_aload_n dX8_washes_42 rfl ?_
      refine zA_getR fX8_78 t_0 rfl dX8_washes_43 ?_
      refine zA_aload_n dX8_washes_46 rfl ?_
      refine zA_getR fX8_47 t_0 rfl dX8_washes_47 ?_
      refine zA_getE (w := μ 52 1) fX8_126 t_52 dX8_washes_50 (by rw [q3b 52 (by decide)]) ?_
      refine zA_iconst dX8_washes_53 rfl ?_
      refine zA_cVv (st := []) kX8_196 t_1 rfl rfl (c_X2_goThroughDay d μ3 104 n m t u (μ 52 1) 0 t_104 (hH.keep (q3b 1 (by decide)) (q3b 3 (by decide)) (q3b 4 (by decide))) (rOk_congr hn5 hm6 (fun i hi => (q3a i hi).symm) hok)) rfl rfl rfl dX8_washes_54 (zfit0 (by omega) rfl) (fun μ4 q4 => ?_)
      obtain ⟨q4a, q4b⟩ := q4
      have E := q4a
      rw [q3b 3 (by decide), q3b 4 (by decide)] at E
      have F : ∀ k, k ≠ 104 → k ≠ 5 → k ≠ 6 → k ≠ 7 → μ4 k = μ k := fun k h1 h2 h3 h4 => by rw [q4b k h1 h2 h3 h4, q3b k h1]
      refine zA_iconst dX8_washes_57 rfl ?_
      refine zA_istore_n (ls' := [some (zR 0), some (zI c), some (zI v), some (zI 0), none]) dX8_washes_58 rfl rfl ?_
      refine zA_iconst dX8_washes_59 rfl ?_
      refine zA_istore (ls' := [some (zR 0), some (zI c), some (zI v), some (zI 0), some (zI 0)]) dX8_washes_60 rfl rfl ?_
      have hl := l_X8_washes (d + 4) μ4 m c v (by rw [F 1 (by decide) (by decide) (by decide) (by decide)]; exact hm) hm6 (by omega) _ 0 0 rfl (by omega) rfl
      rw [E, F 2 (by decide) (by decide) (by decide) (by decide), F 1 (by decide) (by decide) (by decide) (by decide)] at hl
      exact zAi_mono hl (fun w ξ h => by
        obtain ⟨rfl, rfl⟩ := h
        exact ⟨fun k hk => F k (fun e => hk (by unfold cScr; omega)) (fun e => hk (by unfold cScr; omega)) (fun e => hk (by unfold cScr; omega)) (fun e => hk (by unfold cScr; omega)), Or.inr (Or.inr ⟨hb, hv1, μ3 104, q3a, rfl⟩)⟩)
    · refine zA_ldc cX8_88 dX8_washes_21 rfl ?_
      exact zA_ri dX8_washes_23 ⟨qC.refl _, Or.inr (Or.inl ⟨hb, fun q => by have := b2.mpr q; simp_all, rfl⟩)⟩
  · refine zA_ldc cX8_151 dX8_washes_11 rfl ?_
    exact zA_ri dX8_washes_13 ⟨qC.refl _, Or.inl ⟨fun q => by have := b1.mpr q; simp_all, rfl⟩⟩
theorem c_X9_washes (d : Nat) (μ : zM) (n m t : Nat) (u c v : Int) (hH : zMs μ n m t u) (hok : rOk n m (μ 114)) : zMet (d + 5) 0 yX9_washes cX9_washes 5 (some .int) TF μ [zR 110, zI c, zI v] (zPi (fun w ξ => qM μ ξ ∧ ((¬ (0 ≤ c ∧ c < n) ∧ w = -1000000001) ∨ ((0 ≤ c ∧ c < n) ∧ ¬ (0 ≤ v ∧ v ≤ 60) ∧ w = -1000000002) ∨ ((0 ≤ c ∧ c < n) ∧ (0 ≤ v ∧ v ≤ 60) ∧ ∃ R, (∀ i, i < 30 → R i = μ 114 i) ∧ w = gOb (wsh (dRow u n (μ 114 30) (μ 112) (μ 113) 0 R t) (μ 111) (μ 110 4) c v m))))) := by
  have hH0 := hH
  obtain ⟨hn, hu, hm, ht, hn5, hm6, ht10, hu1, hdk⟩ := hH0
  refine zMi_of RX9 rfl (by decide) rfl (ls := [some (zR 110), some (zI c), some (zI v), none, none]) rfl (fun hok0 => ?_)
  refine zA_aload_n dX9_washes_0 rfl ?_
  refine zA_iload_n dX9_washes_1 rfl ?_
  refine zA_cVb (st := []) kX9_191 t_110 rfl rfl (c_X9_isColour (d + 2) c μ (by omega)) rfl rfl rfl dX9_washes_2 (zfit0 (by omega) rfl) (fun v1 μ1 q1 => ?_)
  obtain ⟨b1, rfl⟩ := q1
  rw [hn] at b1
  refine zA_ifb_ne (tgt := 11) dX9_washes_5 rfl (fun h5 => ?_) (fun h5 => ?_)
  · have hb := b1.mp h5
    refine zA_iload_n dX9_washes_11 rfl ?_
    refine zA_cSb (st := []) kX9_249 (c_X9_isParts (d + 2) v μ) rfl rfl rfl dX9_washes_12 (zfit0 (by omega) rfl) (fun v2 μ2 q2 => ?_)
    obtain ⟨b2, rfl⟩ := q2
    refine zA_ifb_ne (tgt := 21) dX9_washes_15 rfl (fun h15 => ?_) (fun h15 => ?_)
    · have hv1 := b2.mp h15
      refine zA_aload_n dX9_washes_21 rfl ?_
      refine zA_cVv (st := []) kX9_225 t_110 rfl rfl (c_X9_begin (d + 3) μ) rfl rfl rfl dX9_washes_22 (zfit0 (by omega) rfl) (fun μ3 q3 => ?_)
      obtain ⟨q3a, q3b⟩ := q3
      refine zA_aload_n dX9_washes_25 rfl ?_
      refine zA_iconst dX9_washes_26 rfl ?_
      refine zA_aload_n dX9_washes_27 rfl ?_
      refine zA_getE (w := (t : Int)) fX9_169 t_110 dX9_washes_28 (by rw [q3b 110 (by decide)]; exact ht) ?_
      refine zA_iconst dX9_washes_31 rfl ?_
      refine zA_cVv (st := []) kX9_228 t_110 rfl rfl (c_X9_goOn0 d μ3 n m t t u 0 (hH.keep (q3b 110 (by decide)) (q3b 112 (by decide)) (q3b 113 (by decide))) (by omega) (rOk_congr hn5 hm6 (fun i hi => (q3a i hi).symm) hok)) rfl rfl rfl dX9_washes_32 (zfit0 (by omega) rfl) (fun μ4 q4 => ?_)
      obtain ⟨q4a, q4b⟩ := q4
      have E := q4a
      rw [q3b 114 (by decide), q3b 112 (by decide), q3b 113 (by decide)] at E
      have F : ∀ k, k ≠ 122 → k ≠ 119 → μ4 k = μ k := fun k h1 h2 => by rw [q4b k h1 h2, q3b k h1]
      refine zA_iconst dX9_washes_35 rfl ?_
      refine zA_istore_n (ls' := [some (zR 110), some (zI c), some (zI v), some (zI 0), none]) dX9_washes_36 rfl rfl ?_
      refine zA_iconst dX9_washes_37 rfl ?_
      refine zA_istore (ls' := [some (zR 110), some (zI c), some (zI v), some (zI 0), some (zI 0)]) dX9_washes_38 rfl rfl ?_
      have hl := l_X9_washes (d + 3) μ4 m c v (by rw [F 110 (by decide) (by decide)]; exact hm) hm6 (by omega) _ 0 0 rfl (by omega) rfl
      rw [E, F 111 (by decide) (by decide), F 110 (by decide) (by decide)] at hl
      exact zAi_mono hl (fun w ξ h => by
        obtain ⟨rfl, rfl⟩ := h
        exact ⟨⟨fun k _ h2 _ h4 _ _ => F k h4 h2, fun i _ _ => by rw [F 110 (by decide) (by decide)]⟩, Or.inr (Or.inr ⟨hb, hv1, μ3 122, q3a, rfl⟩)⟩)
    · refine zA_ldc cX9_89 dX9_washes_18 rfl ?_
      exact zA_ri dX9_washes_20 ⟨qM.refl _, Or.inr (Or.inl ⟨hb, fun q => by have := b2.mpr q; simp_all, rfl⟩)⟩
  · refine zA_ldc cX9_194 dX9_washes_8 rfl ?_
    exact zA_ri dX9_washes_10 ⟨qM.refl _, Or.inl ⟨fun q => by have := b1.mpr q; simp_all, rfl⟩⟩
theorem pr_washes (μ : zM) (c v : Int) (n m t : Nat) (u : Int) (hI : zInv μ n m t u) : zPair yX8_washes cX8_washes 5 yX9_washes cX9_washes 5 [zI c, zI v] μ := by
  obtain ⟨hn, hu, hm, ht0, hn5, hm6, ht10, hu1, hdk⟩ := hI.1.1
  have hdg : μ 1 10 = μ 110 4 := hI.1.2.2.1
  refine zPair_q hI (if (0 ≤ c ∧ c < n) then (if 0 ≤ v ∧ v ≤ 60 then gOb (wsh (dRow u n (μ 114 30) (μ 112) (μ 113) 0 (μ 114) t) (μ 111) (μ 110 4) c v m) else -1000000002) else -1000000001) (zMi_mono (c_X8_washes 14 μ n m t u c v hI.1.1 hI.2.1.2.1) ?_) (fun ν hq hν => zMi_mono (c_X9_washes 15 ν n m t u c v hν.1.2.1 hν.mrow) ?_)
  · rintro w ν ⟨hq, h⟩
    refine ⟨?_, hq⟩
    rcases h with ⟨h1, rfl⟩ | ⟨h1, h2, rfl⟩ | ⟨h1, h2, R, hR, rfl⟩
    · rw [if_neg h1]
    · rw [if_pos h1, if_neg h2]
    · rw [if_pos h1, if_pos h2, hdg]
      have hR' : ∀ i, lv n m i → R i = μ 114 i := fun i hi => by rw [hR i (by omega)]; exact hI.row i hi
      rw [wsh_congrL (n := n) (m := m) (by omega) (tr_eq hI hR' (Nat.le_refl _)) hI.1.2.2.2.1 m (Nat.le_refl _)]
  · rintro w ξ ⟨hx, h⟩
    refine ⟨?_, hx⟩
    have e114 : ν 114 = μ 114 := hq 114 (by unfold cScr; omega)
    have e112 : ν 112 = μ 112 := hq 112 (by unfold cScr; omega)
    have e113 : ν 113 = μ 113 := hq 113 (by unfold cScr; omega)
    have e111 : ν 111 = μ 111 := hq 111 (by unfold cScr; omega)
    have e110 : ν 110 = μ 110 := hq 110 (by unfold cScr; omega)
    have hdm := hν.1.2.1.2.2.2.2.2.2.2.2
    rcases h with ⟨h1, rfl⟩ | ⟨h1, h2, rfl⟩ | ⟨h1, h2, R, hR, rfl⟩
    · rw [if_neg h1]
    · rw [if_pos h1, if_neg h2]
    · rw [if_pos h1, if_pos h2, ← e114, ← e112, ← e113, ← e111, ← e110]
      rw [wsh_congr (by omega) (dRow_congrR hn5 hm6 hdm hR (Nat.le_refl _)) (fun _ _ => rfl) m hm6]
