/-! ===== trail ===== -/
theorem l_X8_firstGain (d : Nat) (μ : zM) (n m t : Nat) (u : Int) (R : Nat → Int) (hH : zHs μ n m t u) (hR : rOk n m R) (a c : Nat) (ha : a < m) (hc : c < n) : ∀ (t0 k : Nat), t - k = t0 → k ≤ t → ∀ ν : zM, cTr μ ν n u R k → fB (fun k => decide ((dRow u n (μ 52 1) (μ 3) (μ 4) 0 R k) (a * 5 + c) < (dRow u n (μ 52 1) (μ 3) (μ 4) 0 R (k + 1)) (a * 5 + c))) k = none → zA RX8 cX8_firstGain 5 (zRm (d + 5) 0) zN0 TF 0 ν 16 [some (zR 0), some (zI (a : Int)), some (zI (c : Int)), some (zI (k : Int)), none] [] (zPi (fun v ξ => v = gOb (fB (fun k => decide ((dRow u n (μ 52 1) (μ 3) (μ 4) 0 R k) (a * 5 + c) < (dRow u n (μ 52 1) (μ 3) (μ 4) 0 R (k + 1)) (a * 5 + c))) t) ∧ qC μ ξ)) := by
  have hH0 := hH
  obtain ⟨hn, hu, hm, ht, hn5, hm6, ht10, hu1, hdk⟩ := hH0
  intro t0
  induction t0 using Nat.strongRecOn with
  | ind t0 ih =>
    intro k hk hkt ν hT hF
    refine zA_iload_n dX8_firstGain_16 rfl ?_
    refine zA_aload_n dX8_firstGain_17 rfl ?_
    refine zA_getR fX8_12 t_0 rfl dX8_firstGain_18 ?_
    refine zA_getE (w := (t : Int)) fX8_120 t_1 dX8_firstGain_21 (by rw [hT.2 1 (by decide) (by decide) (by decide) (by decide) (by decide)]; exact ht) ?_
    refine zA_icmp_ge (tgt := 81) dX8_firstGain_24 rfl (fun h24 => ?_) (fun h24 => ?_)
    · refine zA_iconst dX8_firstGain_81 rfl ?_
      exact zA_ri dX8_firstGain_82 ⟨by rw [show t = k by omega, hF]; rfl, hT.qc⟩
    · refine zA_aload_n dX8_firstGain_27 rfl ?_
      refine zA_getR fX8_78 t_0 rfl dX8_firstGain_28 ?_
      refine zA_iload_n dX8_firstGain_31 rfl ?_
      refine zA_iload_n dX8_firstGain_32 rfl ?_
      refine zA_cSi (st := [zR 104]) kX8_147 (c_X8_cell (d + 3) ((a : Int)) ((c : Int)) ν (by omega) (by omega)) rfl rfl rfl dX8_firstGain_33 (zfit0 (by omega) rfl) (fun v1 μ1 q1 => ?_)
      obtain ⟨rfl, rfl⟩ := q1
      refine zA_ialE (w := (dRow u n (μ 52 1) (μ 3) (μ 4) 0 R k) (a * 5 + c)) (j := a * 5 + c) t_104 (by omega) (by omega) dX8_firstGain_36 rfl (by rw [hT.1]) ?_
      refine zA_istore (ls' := [some (zR 0), some (zI (a : Int)), some (zI (c : Int)), some (zI (k : Int)), some (zI ((dRow u n (μ 52 1) (μ 3) (μ 4) 0 R k) (a * 5 + c)))]) dX8_firstGain_37 rfl rfl ?_
      refine zA_aload_n dX8_firstGain_39 rfl ?_
      refine zA_getR fX8_12 t_0 rfl dX8_firstGain_40 ?_
      refine zA_aload_n dX8_firstGain_43 rfl ?_
      refine zA_getR fX8_78 t_0 rfl dX8_firstGain_44 ?_
      refine zA_aload_n dX8_firstGain_47 rfl ?_
      refine zA_getR fX8_47 t_0 rfl dX8_firstGain_48 ?_
      refine zA_getE (w := μ 52 1) fX8_126 t_52 dX8_firstGain_51 (by rw [hT.2 52 (by decide) (by decide) (by decide) (by decide) (by decide)]) ?_
      refine zA_iload_n dX8_firstGain_54 rfl ?_
      refine zA_cVv (st := []) kX8_206 t_1 rfl rfl (c_X2_goPlanned d ν 104 n m t u (μ 52 1) k t_104 (hT.zHs hH) (by omega) (by rw [hT.1]; exact dRow_ok hn5 hu1 hdk hR k (by omega))) rfl rfl rfl dX8_firstGain_55 (zfit0 (by omega) rfl) (fun μ2 q2 => ?_)
      have hS := hT.step (m := m) (t := t) (by omega) q2
      have hv := congrFun hS.1 (a * 5 + c)
      refine zA_aload_n dX8_firstGain_58 rfl ?_
      refine zA_getR fX8_78 t_0 rfl dX8_firstGain_59 ?_
      refine zA_iload_n dX8_firstGain_62 rfl ?_
      refine zA_iload_n dX8_firstGain_63 rfl ?_
      refine zA_cSi (st := [zR 104]) kX8_147 (c_X8_cell (d + 3) ((a : Int)) ((c : Int)) μ2 (by omega) (by omega)) rfl rfl rfl dX8_firstGain_64 (zfit0 (by omega) rfl) (fun v3 μ3 q3 => ?_)
      obtain ⟨rfl, rfl⟩ := q3
      refine zA_ialE (w := (dRow u n (μ 52 1) (μ 3) (μ 4) 0 R (k + 1)) (a * 5 + c)) (j := a * 5 + c) t_104 (by omega) (by omega) dX8_firstGain_67 rfl hv ?_
      refine zA_iload dX8_firstGain_68 rfl ?_
      refine zA_icmp_le (tgt := 75) dX8_firstGain_70 rfl (fun h70 => ?_) (fun h70 => ?_)
      · refine zA_iincB (ls' := [some (zR 0), some (zI (a : Int)), some (zI (c : Int)), some (zI ((k : Int) + 1)), some (zI ((dRow u n (μ 52 1) (μ 3) (μ 4) 0 R k) (a * 5 + c)))]) dX8_firstGain_75 rfl rfl ⟨by omega, by omega⟩ rfl ?_
        refine zA_goto (tgt := 16) dX8_firstGain_78 rfl ?_
        refine zA_dr (ls' := [some (zR 0), some (zI (a : Int)), some (zI (c : Int)), some (zI ((k : Int) + 1)), none]) 4 rfl ?_
        exact ih _ (by omega) (k + 1) rfl (by omega) μ2 hS (fB_no hF (decide_eq_false (by omega)))
      · refine zA_iload_n dX8_firstGain_73 rfl ?_
        exact zA_ri dX8_firstGain_74 ⟨by rw [fB_yes hF (decide_eq_true (by omega)) t (by omega)]; rfl, hS.qc⟩
theorem c_X8_firstGain (d : Nat) (μ : zM) (n m t a c : Nat) (u : Int) (hH : zHs μ n m t u) (hok : rOk n m (μ 53)) (ha : a < m) (hc : c < n) : zMet (d + 5) 0 yX8_firstGain cX8_firstGain 5 (some .int) TF μ [zR 0, zI (a : Int), zI (c : Int)] (zPi (fun v ξ => (∃ R, (∀ i, i < 30 → R i = μ 53 i) ∧ v = gOb (fB (fun k => decide ((dRow u n (μ 52 1) (μ 3) (μ 4) 0 R k) (a * 5 + c) < (dRow u n (μ 52 1) (μ 3) (μ 4) 0 R (k + 1)) (a * 5 + c))) t)) ∧ qC μ ξ)) := by
  have hH0 := hH
  obtain ⟨hn, hu, hm, ht, hn5, hm6, ht10, hu1, hdk⟩ := hH0
  refine zMi_of RX8 rfl (by decide) rfl (ls := [some (zR 0), some (zI (a : Int)), some (zI (c : Int)), none, none]) rfl (fun hok0 => ?_)
  refine zA_aload_n dX8_firstGain_0 rfl ?_
  refine zA_getR fX8_47 t_0 rfl dX8_firstGain_1 ?_
  refine zA_getR fX8_144 t_52 rfl dX8_firstGain_4 ?_
  refine zA_aload_n dX8_firstGain_7 rfl ?_
  refine zA_getR fX8_78 t_0 rfl dX8_firstGain_8 ?_
  refine zA_cSv (st := []) kX8_172 (c_X8_copyPartsR (d + 3) 53 104 μ t_53 t_104) rfl rfl rfl dX8_firstGain_11 (zfit0 (by omega) rfl) (fun μ1 q1 => ?_)
  obtain ⟨q1a, q1b⟩ := q1
  refine zA_iconst dX8_firstGain_14 rfl ?_
  refine zA_istore_n (ls' := [some (zR 0), some (zI (a : Int)), some (zI (c : Int)), some (zI 0), none]) dX8_firstGain_15 rfl rfl ?_
  have hT0 : cTr μ μ1 n u (μ1 104) 0 := ⟨rfl, fun k h1 _ _ _ _ => q1b k h1⟩
  exact zAi_mono (l_X8_firstGain d μ n m t u (μ1 104) hH (rOk_congr hn5 hm6 (fun i hi => (q1a i hi).symm) hok) a c ha hc _ 0 rfl (by omega) μ1 hT0 rfl) (fun v ξ h => ⟨⟨μ1 104, q1a, h.1⟩, h.2⟩)
theorem c_X8_firstGainI (d : Nat) (μ : zM) (n m t : Nat) (u a c : Int) (hH : zHs μ n m t u) (hok : rOk n m (μ 53)) (ha : 0 ≤ a ∧ a < m) (hc : 0 ≤ c ∧ c < n) : zMet (d + 5) 0 yX8_firstGain cX8_firstGain 5 (some .int) TF μ [zR 0, zI a, zI c] (zPi (fun v ξ => (∃ R, (∀ i, i < 30 → R i = μ 53 i) ∧ v = gOb (fB (fun k => decide ((dRow u n (μ 52 1) (μ 3) (μ 4) 0 R k) (a.toNat * 5 + c.toNat) < (dRow u n (μ 52 1) (μ 3) (μ 4) 0 R (k + 1)) (a.toNat * 5 + c.toNat))) t)) ∧ qC μ ξ)) := by
  obtain ⟨a', rfl⟩ := Int.eq_ofNat_of_zero_le ha.1
  obtain ⟨c', rfl⟩ := Int.eq_ofNat_of_zero_le hc.1
  exact c_X8_firstGain d μ n m t a' c' u hH hok (by omega) (by omega)
def tPr (f s : Nat → Int) (a w v : Int) : Int := if v = -1 ∨ w = 0 then v else if f v.toNat = a then s v.toNat else f v.toNat
theorem tPr_congr {f s f' s' : Nat → Int} {a w : Int} {j : Nat} (h1 : f j = f' j) (h2 : s j = s' j) : tPr f s a w (j : Int) = tPr f' s' a w (j : Int) := by
  unfold tPr
  rw [Int.toNat_natCast, h1, h2]
theorem tPr_m1 {f s : Nat → Int} {a w : Int} : tPr f s a w (-1) = -1 := by
  unfold tPr
  rw [if_pos (Or.inl rfl)]
theorem c_X8_trail (d : Nat) (μ : zM) (n m t : Nat) (u c a w : Int) (hH : zHs μ n m t u) (hok : rOk n m (μ 53)) : zMet (d + 6) 0 yX8_trail cX8_trail 5 (some .int) TF μ [zR 0, zI c, zI a, zI w] (zPi (fun v ν => qC μ ν ∧ ((¬ ((0 ≤ a ∧ a < m) ∧ (0 ≤ c ∧ c < n)) ∧ v = -1000000001) ∨ (((0 ≤ a ∧ a < m) ∧ (0 ≤ c ∧ c < n)) ∧ ¬ (0 ≤ w ∧ w ≤ 1) ∧ v = -1000000002) ∨ (((0 ≤ a ∧ a < m) ∧ (0 ≤ c ∧ c < n)) ∧ (0 ≤ w ∧ w ≤ 1) ∧ ∃ R, (∀ i, i < 30 → R i = μ 53 i) ∧ v = tPr (μ 3) (μ 4) a w (gOb (fB (fun k => decide ((dRow u n (μ 52 1) (μ 3) (μ 4) 0 R k) (a.toNat * 5 + c.toNat) < (dRow u n (μ 52 1) (μ 3) (μ 4) 0 R (k + 1)) (a.toNat * 5 + c.toNat))) t)))))) := by
  have hH0 := hH
  obtain ⟨hn, hu, hm, ht, hn5, hm6, ht10, hu1, hdk⟩ := hH0
  refine zMi_of RX8 rfl (by decide) rfl (ls := [some (zR 0), some (zI c), some (zI a), some (zI w), none]) rfl (fun hok0 => ?_)
  refine zA_aload_n dX8_trail_0 rfl ?_
  refine zA_getR fX8_12 t_0 rfl dX8_trail_1 ?_
  refine zA_iload_n dX8_trail_4 rfl ?_
  refine zA_iload_n dX8_trail_5 rfl ?_
  refine zA_cVb (st := []) kX8_140 t_1 rfl rfl (c_X2_hasCell (d + 3) a c μ) rfl rfl rfl dX8_trail_6 (zfit0 (by omega) rfl) (fun v1 μ1 q1 => ?_)
  obtain ⟨b1, rfl⟩ := q1
  rw [hn, hm] at b1
  refine zA_ifb_ne (tgt := 15) dX8_trail_9 rfl (fun h9 => ?_) (fun h9 => ?_)
  · have hb := b1.mp h9
    refine zA_iload_n dX8_trail_15 rfl ?_
    refine zA_if_lt (tgt := 24) dX8_trail_16 rfl (fun h16 => ?_) (fun h16 => ?_)
    · refine zA_ldc cX8_88 dX8_trail_24 rfl ?_
      exact zA_ri dX8_trail_26 ⟨qC.refl _, Or.inr (Or.inl ⟨hb, by omega, rfl⟩)⟩
    · refine zA_iload_n dX8_trail_19 rfl ?_
      refine zA_iconst dX8_trail_20 rfl ?_
      refine zA_icmp_le (tgt := 27) dX8_trail_21 rfl (fun h21 => ?_) (fun h21 => ?_)
      · refine zA_aload_n dX8_trail_27 rfl ?_
        refine zA_iload_n dX8_trail_28 rfl ?_
        refine zA_iload_n dX8_trail_29 rfl ?_
        refine zA_cVi (st := []) kX8_212 t_0 rfl rfl (c_X8_firstGainI d μ n m t u a c hH hok hb.1 hb.2) rfl rfl rfl dX8_trail_30 (zfit0 (by omega) rfl) (fun v2 μ2 q2 => ?_)
        obtain ⟨⟨R, hR, hv⟩, hq⟩ := q2
        have hlt : v2 < t := by rw [hv]; exact gOb_lt
        have hge : -1 ≤ v2 := by rw [hv]; exact gOb_ge
        refine zA_istore (ls' := [some (zR 0), some (zI c), some (zI a), some (zI w), some (zI v2)]) dX8_trail_33 rfl rfl ?_
        refine zA_iload dX8_trail_35 rfl ?_
        refine zA_iconst dX8_trail_37 rfl ?_
        refine zA_icmp_eq (tgt := 45) dX8_trail_38 rfl (fun h38 => ?_) (fun h38 => ?_)
        · refine zA_iload dX8_trail_45 rfl ?_
          exact zA_ri dX8_trail_47 ⟨hq, Or.inr (Or.inr ⟨hb, by omega, R, hR, by rw [← hv]; unfold tPr; first | (rw [if_pos (by omega)]; done) | (rw [if_neg (by omega), if_pos (by omega)]; done) | (rw [if_neg (by omega), if_neg (by omega)]; done)⟩)⟩
        · refine zA_iload_n dX8_trail_41 rfl ?_
          refine zA_if_ne (tgt := 48) dX8_trail_42 rfl (fun h42 => ?_) (fun h42 => ?_)
          · refine zA_aload_n dX8_trail_48 rfl ?_
            refine zA_getR fX8_12 t_0 rfl dX8_trail_49 ?_
            refine zA_getR fX8_159 t_1 rfl dX8_trail_52 ?_
            refine zA_iload dX8_trail_55 rfl ?_
            refine zA_ialE (w := μ 3 v2.toNat) (j := v2.toNat) t_3 (by omega) (by omega) dX8_trail_57 rfl (by rw [hq 3 (by unfold cScr; omega)]) ?_
            refine zA_iload_n dX8_trail_58 rfl ?_
            refine zA_icmp_ne (tgt := 75) dX8_trail_59 rfl (fun h59 => ?_) (fun h59 => ?_)
            · refine zA_aload_n dX8_trail_75 rfl ?_
              refine zA_getR fX8_12 t_0 rfl dX8_trail_76 ?_
              refine zA_getR fX8_159 t_1 rfl dX8_trail_79 ?_
              refine zA_iload dX8_trail_82 rfl ?_
              refine zA_ialE (w := μ 3 v2.toNat) (j := v2.toNat) t_3 (by omega) (by omega) dX8_trail_84 rfl (by rw [hq 3 (by unfold cScr; omega)]) ?_
              exact zA_ri dX8_trail_85 ⟨hq, Or.inr (Or.inr ⟨hb, by omega, R, hR, by rw [← hv]; unfold tPr; first | (rw [if_pos (by omega)]; done) | (rw [if_neg (by omega), if_pos (by omega)]; done) | (rw [if_neg (by omega), if_neg (by omega)]; done)⟩)⟩
            · refine zA_aload_n dX8_trail_62 rfl ?_
              refine zA_getR fX8_12 t_0 rfl dX8_trail_63 ?_
              refine zA_getR fX8_162 t_1 rfl dX8_trail_66 ?_
              refine zA_iload dX8_trail_69 rfl ?_
              refine zA_ialE (w := μ 4 v2.toNat) (j := v2.toNat) t_4 (by omega) (by omega) dX8_trail_71 rfl (by rw [hq 4 (by unfold cScr; omega)]) ?_
              refine zA_goto (tgt := 85) dX8_trail_72 rfl ?_
              exact zA_ri dX8_trail_85 ⟨hq, Or.inr (Or.inr ⟨hb, by omega, R, hR, by rw [← hv]; unfold tPr; first | (rw [if_pos (by omega)]; done) | (rw [if_neg (by omega), if_pos (by omega)]; done) | (rw [if_neg (by omega), if_neg (by omega)]; done)⟩)⟩
          · refine zA_iload dX8_trail_45 rfl ?_
            exact zA_ri dX8_trail_47 ⟨hq, Or.inr (Or.inr ⟨hb, by omega, R, hR, by rw [← hv]; unfold tPr; first | (rw [if_pos (by omega)]; done) | (rw [if_neg (by omega), if_pos (by omega)]; done) | (rw [if_neg (by omega), if_neg (by omega)]; done)⟩)⟩
      · refine zA_ldc cX8_88 dX8_trail_24 rfl ?_
        exact zA_ri dX8_trail_26 ⟨qC.refl _, Or.inr (Or.inl ⟨hb, by omega, rfl⟩)⟩
  · refine zA_ldc cX8_151 dX8_trail_12 rfl ?_
    exact zA_ri dX8_trail_14 ⟨qC.refl _, Or.inl ⟨fun q => by have := b1.mpr q; simp_all, rfl⟩⟩
theorem l_X9_trail (d : Nat) (μ : zM) (n m t : Nat) (u : Int) (R : Nat → Int) (hH : zMs μ n m t u) (hR : rOk n m R) (a c : Nat) (w : Int) (ha : a < m) (hc : c < n) (hw : 0 ≤ w ∧ w ≤ 1) : ∀ (t0 k : Nat), t - k = t0 → k ≤ t → ∀ ν : zM, mTr μ ν n u R k → fB (fun k => decide ((dRow u n (μ 114 30) (μ 112) (μ 113) 0 R k) (a * 5 + c) < (dRow u n (μ 114 30) (μ 112) (μ 113) 0 R (k + 1)) (a * 5 + c))) k = none → zA RX9 cX9_trail 6 (zRm (d + 5) 0) zN0 TF 0 ν 39 [some (zR 110), some (zI (c : Int)), some (zI (a : Int)), some (zI w), some (zI (k : Int)), none] [] (zPi (fun v ξ => v = tPr (μ 112) (μ 113) (a : Int) w (gOb (fB (fun k => decide ((dRow u n (μ 114 30) (μ 112) (μ 113) 0 R k) (a * 5 + c) < (dRow u n (μ 114 30) (μ 112) (μ 113) 0 R (k + 1)) (a * 5 + c))) t)) ∧ qM μ ξ)) := by
  have hH0 := hH
  obtain ⟨hn, hu, hm, ht, hn5, hm6, ht10, hu1, hdk⟩ := hH0
  intro t0
  induction t0 using Nat.strongRecOn with
  | ind t0 ih =>
    intro k hk hkt ν hT hF
    refine zA_iload dX9_trail_39 rfl ?_
    refine zA_aload_n dX9_trail_41 rfl ?_
    refine zA_getE (w := (t : Int)) fX9_169 t_110 dX9_trail_42 (by rw [hT.2 110 (by decide) (by decide) (by decide)]; exact ht) ?_
    refine zA_icmp_ge (tgt := 130) dX9_trail_45 rfl (fun h45 => ?_) (fun h45 => ?_)
    · refine zA_iconst dX9_trail_130 rfl ?_
      exact zA_ri dX9_trail_131 ⟨by rw [show t = k by omega, hF]; rfl, hT.qm⟩
    · refine zA_aload_n dX9_trail_48 rfl ?_
      refine zA_getR fX9_47 t_110 rfl dX9_trail_49 ?_
      refine zA_iconst dX9_trail_52 rfl ?_
      refine zA_iload_n dX9_trail_53 rfl ?_
      refine zA_imulB dX9_trail_54 ⟨by omega, by omega⟩ ?_
      refine zA_iload_n dX9_trail_55 rfl ?_
      refine zA_iaddB dX9_trail_56 ⟨by omega, by omega⟩ ?_
      refine zA_ialE (w := (dRow u n (μ 114 30) (μ 112) (μ 113) 0 R k) (a * 5 + c)) (j := 5 * a + c) t_122 (by omega) (by omega) dX9_trail_57 rfl (by rw [hT.1, Nat.mul_comm 5 a]) ?_
      refine zA_istore (ls' := [some (zR 110), some (zI (c : Int)), some (zI (a : Int)), some (zI w), some (zI (k : Int)), some (zI ((dRow u n (μ 114 30) (μ 112) (μ 113) 0 R k) (a * 5 + c)))]) dX9_trail_58 rfl rfl ?_
      refine zA_aload_n dX9_trail_60 rfl ?_
      refine zA_iload dX9_trail_61 rfl ?_
      refine zA_iload dX9_trail_63 rfl ?_
      refine zA_iconst dX9_trail_65 rfl ?_
      refine zA_iaddB dX9_trail_66 ⟨by omega, by omega⟩ ?_
      refine zA_iconst dX9_trail_67 rfl ?_
      refine zA_cVv (st := []) kX9_228 t_110 rfl rfl (c_X9_goOn d ν n m t k 1 u 0 (hT.zMs hH) (by omega) (by rw [hT.1]; exact dRow_ok hn5 hu1 hdk hR k (by omega))) rfl rfl rfl dX9_trail_68 (zfit0 (by omega) rfl) (fun μ1 q1 => ?_)
      have hS := hT.step (m := m) (t := t) (by omega) q1
      have hv := congrFun hS.1 (a * 5 + c)
      refine zA_aload_n dX9_trail_71 rfl ?_
      refine zA_getR fX9_47 t_110 rfl dX9_trail_72 ?_
      refine zA_iconst dX9_trail_75 rfl ?_
      refine zA_iload_n dX9_trail_76 rfl ?_
      refine zA_imulB dX9_trail_77 ⟨by omega, by omega⟩ ?_
      refine zA_iload_n dX9_trail_78 rfl ?_
      refine zA_iaddB dX9_trail_79 ⟨by omega, by omega⟩ ?_
      refine zA_ialE (w := (dRow u n (μ 114 30) (μ 112) (μ 113) 0 R (k + 1)) (a * 5 + c)) (j := 5 * a + c) t_122 (by omega) (by omega) dX9_trail_80 rfl (by rw [Nat.mul_comm 5 a]; exact hv) ?_
      refine zA_iload dX9_trail_81 rfl ?_
      refine zA_icmp_le (tgt := 124) dX9_trail_83 rfl (fun h83 => ?_) (fun h83 => ?_)
      · refine zA_iincB (ls' := [some (zR 110), some (zI (c : Int)), some (zI (a : Int)), some (zI w), some (zI ((k : Int) + 1)), some (zI ((dRow u n (μ 114 30) (μ 112) (μ 113) 0 R k) (a * 5 + c)))]) dX9_trail_124 rfl rfl ⟨by omega, by omega⟩ rfl ?_
        refine zA_goto (tgt := 39) dX9_trail_127 rfl ?_
        refine zA_dr (ls' := [some (zR 110), some (zI (c : Int)), some (zI (a : Int)), some (zI w), some (zI ((k : Int) + 1)), none]) 5 rfl ?_
        exact ih _ (by omega) (k + 1) rfl (by omega) μ1 hS (fB_no hF (decide_eq_false (by omega)))
      · refine zA_iload_n dX9_trail_86 rfl ?_
        refine zA_if_ne (tgt := 95) dX9_trail_87 rfl (fun h87 => ?_) (fun h87 => ?_)
        · refine zA_aload_n dX9_trail_95 rfl ?_
          refine zA_getR fX9_13 t_110 rfl dX9_trail_96 ?_
          refine zA_iload dX9_trail_99 rfl ?_
          refine zA_ialE (w := μ 112 k) (j := k) t_112 (by omega) (by omega) dX9_trail_101 rfl (by rw [hS.2 112 (by decide) (by decide) (by decide)]) ?_
          refine zA_iload_n dX9_trail_102 rfl ?_
          refine zA_icmp_ne (tgt := 116) dX9_trail_103 rfl (fun h103 => ?_) (fun h103 => ?_)
          · refine zA_aload_n dX9_trail_116 rfl ?_
            refine zA_getR fX9_13 t_110 rfl dX9_trail_117 ?_
            refine zA_iload dX9_trail_120 rfl ?_
            refine zA_ialE (w := μ 112 k) (j := k) t_112 (by omega) (by omega) dX9_trail_122 rfl (by rw [hS.2 112 (by decide) (by decide) (by decide)]) ?_
            exact zA_ri dX9_trail_123 ⟨by rw [fB_yes hF (decide_eq_true (by omega)) t (by omega)]; show _ = tPr (μ 112) (μ 113) a w (k : Int); unfold tPr; first | (rw [if_pos (by omega)]; done) | (rw [if_neg (by omega), if_pos (by simpa using h103)]; rfl) | (rw [if_neg (by omega), if_neg (by simpa using h103)]; rfl), hS.qm⟩
          · refine zA_aload_n dX9_trail_106 rfl ?_
            refine zA_getR fX9_16 t_110 rfl dX9_trail_107 ?_
            refine zA_iload dX9_trail_110 rfl ?_
            refine zA_ialE (w := μ 113 k) (j := k) t_113 (by omega) (by omega) dX9_trail_112 rfl (by rw [hS.2 113 (by decide) (by decide) (by decide)]) ?_
            refine zA_goto (tgt := 123) dX9_trail_113 rfl ?_
            exact zA_ri dX9_trail_123 ⟨by rw [fB_yes hF (decide_eq_true (by omega)) t (by omega)]; show _ = tPr (μ 112) (μ 113) a w (k : Int); unfold tPr; first | (rw [if_pos (by omega)]; done) | (rw [if_neg (by omega), if_pos (by simpa using h103)]; rfl) | (rw [if_neg (by omega), if_neg (by simpa using h103)]; rfl), hS.qm⟩
        · refine zA_iload dX9_trail_90 rfl ?_
          refine zA_goto (tgt := 123) dX9_trail_92 rfl ?_
          exact zA_ri dX9_trail_123 ⟨by rw [fB_yes hF (decide_eq_true (by omega)) t (by omega)]; show _ = tPr (μ 112) (μ 113) a w (k : Int); unfold tPr; first | (rw [if_pos (by omega)]; done) | (rw [if_neg (by omega), if_pos (by simpa using h103)]; rfl) | (rw [if_neg (by omega), if_neg (by simpa using h103)]; rfl), hS.qm⟩
theorem c_X9_trail (d : Nat) (μ : zM) (n m t : Nat) (u c a w : Int) (hH : zMs μ n m t u) (hok : rOk n m (μ 114)) : zMet (d + 5) 0 yX9_trail cX9_trail 6 (some .int) TF μ [zR 110, zI c, zI a, zI w] (zPi (fun v ν => qM μ ν ∧ ((¬ ((0 ≤ a ∧ a < m) ∧ (0 ≤ c ∧ c < n)) ∧ v = -1000000001) ∨ (((0 ≤ a ∧ a < m) ∧ (0 ≤ c ∧ c < n)) ∧ ¬ (0 ≤ w ∧ w ≤ 1) ∧ v = -1000000002) ∨ (((0 ≤ a ∧ a < m) ∧ (0 ≤ c ∧ c < n)) ∧ (0 ≤ w ∧ w ≤ 1) ∧ ∃ R, (∀ i, i < 30 → R i = μ 114 i) ∧ v = tPr (μ 112) (μ 113) a w (gOb (fB (fun k => decide ((dRow u n (μ 114 30) (μ 112) (μ 113) 0 R k) (a.toNat * 5 + c.toNat) < (dRow u n (μ 114 30) (μ 112) (μ 113) 0 R (k + 1)) (a.toNat * 5 + c.toNat))) t)))))) := by
  have hH0 := hH
  obtain ⟨hn, hu, hm, ht, hn5, hm6, ht10, hu1, hdk⟩ := hH0
  refine zMi_of RX9 rfl (by decide) rfl (ls := [some (zR 110), some (zI c), some (zI a), some (zI w), none, none]) rfl (fun hok0 => ?_)
  refine zA_aload_n dX9_trail_0 rfl ?_
  refine zA_iload_n dX9_trail_1 rfl ?_
  refine zA_cVb (st := []) kX9_191 t_110 rfl rfl (c_X9_isColour (d + 2) c μ (by omega)) rfl rfl rfl dX9_trail_2 (zfit0 (by omega) rfl) (fun v1 μ1 q1 => ?_)
  obtain ⟨b1, rfl⟩ := q1
  rw [hn] at b1
  refine zA_ifb_eq (tgt := 16) dX9_trail_5 rfl (fun h5 => ?_) (fun h5 => ?_)
  · refine zA_ldc cX9_194 dX9_trail_16 rfl ?_
    exact zA_ri dX9_trail_18 ⟨qM.refl _, Or.inl ⟨fun q => by first | (have := b1.mpr q.2; simp_all; done) | (have := b2.mpr q.1; simp_all; done), rfl⟩⟩
  · refine zA_aload_n dX9_trail_8 rfl ?_
    refine zA_iload_n dX9_trail_9 rfl ?_
    refine zA_cVb (st := []) kX9_187 t_110 rfl rfl (c_X9_isCoat (d + 2) a μ (by omega)) rfl rfl rfl dX9_trail_10 (zfit0 (by omega) rfl) (fun v2 μ2 q2 => ?_)
    obtain ⟨b2, rfl⟩ := q2
    rw [hm] at b2
    refine zA_ifb_ne (tgt := 19) dX9_trail_13 rfl (fun h13 => ?_) (fun h13 => ?_)
    · have hb := And.intro (b2.mp (by simpa using h13)) (b1.mp (by simpa using h5))
      refine zA_iload_n dX9_trail_19 rfl ?_
      refine zA_i2l dX9_trail_20 ?_
      refine zA_lconst (v := 0) dX9_trail_21 rfl rfl ?_
      refine zA_lconst (v := 1) dX9_trail_22 rfl rfl ?_
      refine zA_cSb (st := []) kX9_81 (c_X9_in (d + 3) (w) (0) (1) μ) rfl rfl rfl dX9_trail_23 (zfit0 (by omega) rfl) (fun v3 μ3 q3 => ?_)
      obtain ⟨b3, rfl⟩ := q3
      refine zA_ifb_ne (tgt := 32) dX9_trail_26 rfl (fun h26 => ?_) (fun h26 => ?_)
      · refine zA_aload_n dX9_trail_32 rfl ?_
        refine zA_cVv (st := []) kX9_225 t_110 rfl rfl (c_X9_begin (d + 3) μ) rfl rfl rfl dX9_trail_33 (zfit0 (by omega) rfl) (fun μ4 q4 => ?_)
        obtain ⟨q4a, q4b⟩ := q4
        refine zA_iconst dX9_trail_36 rfl ?_
        refine zA_istore (ls' := [some (zR 110), some (zI c), some (zI a), some (zI w), some (zI 0), none]) dX9_trail_37 rfl rfl ?_
        have hT0 : mTr μ μ4 n u (μ4 122) 0 := ⟨rfl, fun k h1 _ _ => q4b k h1⟩
        have hw := b3.mp h26
        obtain ⟨a, rfl⟩ := Int.eq_ofNat_of_zero_le hb.1.1
        obtain ⟨c, rfl⟩ := Int.eq_ofNat_of_zero_le hb.2.1
        exact zAi_mono (l_X9_trail d μ n m t u (μ4 122) hH (rOk_congr hn5 hm6 (fun i hi => (q4a i hi).symm) hok) a c w (by omega) (by omega) hw _ 0 rfl (by omega) μ4 hT0 rfl) (fun v ξ h => ⟨h.2, Or.inr (Or.inr ⟨hb, hw, μ4 122, q4a, h.1⟩)⟩)
      · refine zA_ldc cX9_89 dX9_trail_29 rfl ?_
        exact zA_ri dX9_trail_31 ⟨qM.refl _, Or.inr (Or.inl ⟨hb, fun q => by have := b3.mpr q; simp_all, rfl⟩)⟩
    · refine zA_ldc cX9_194 dX9_trail_16 rfl ?_
      exact zA_ri dX9_trail_18 ⟨qM.refl _, Or.inl ⟨fun q => by first | (have := b1.mpr q.2; simp_all; done) | (have := b2.mpr q.1; simp_all; done), rfl⟩⟩
theorem pr_trail (μ : zM) (c a w : Int) (n m t : Nat) (u : Int) (hI : zInv μ n m t u) : zPair yX8_trail cX8_trail 5 yX9_trail cX9_trail 6 [zI c, zI a, zI w] μ := by
  obtain ⟨hn, hu, hm, ht0, hn5, hm6, ht10, hu1, hdk⟩ := hI.1.1
  refine zPair_q hI (if ((0 ≤ a ∧ a < m) ∧ (0 ≤ c ∧ c < n)) then (if 0 ≤ w ∧ w ≤ 1 then tPr (μ 112) (μ 113) a w (gOb (fB (fun k => decide ((dRow u n (μ 114 30) (μ 112) (μ 113) 0 (μ 114) k) (a.toNat * 5 + c.toNat) < (dRow u n (μ 114 30) (μ 112) (μ 113) 0 (μ 114) (k + 1)) (a.toNat * 5 + c.toNat))) t)) else -1000000002) else -1000000001) (zMi_mono (c_X8_trail 14 μ n m t u c a w hI.1.1 hI.2.1.2.1) ?_) (fun ν hq hν => zMi_mono (c_X9_trail 15 ν n m t u c a w hν.1.2.1 hν.mrow) ?_)
  · rintro v ν ⟨hq, h⟩
    refine ⟨?_, hq⟩
    rcases h with ⟨h1, rfl⟩ | ⟨h1, h2, rfl⟩ | ⟨h1, h2, R, hR, rfl⟩
    · rw [if_neg h1]
    · rw [if_pos h1, if_neg h2]
    · rw [if_pos h1, if_pos h2]
      have hR' : ∀ i, lv n m i → R i = μ 114 i := fun i hi => by rw [hR i (by omega)]; exact hI.row i hi
      have hE : fB (fun k => decide ((dRow u n (μ 52 1) (μ 3) (μ 4) 0 R k) (a.toNat * 5 + c.toNat) < (dRow u n (μ 52 1) (μ 3) (μ 4) 0 R (k + 1)) (a.toNat * 5 + c.toNat))) t = fB (fun k => decide ((dRow u n (μ 114 30) (μ 112) (μ 113) 0 (μ 114) k) (a.toNat * 5 + c.toNat) < (dRow u n (μ 114 30) (μ 112) (μ 113) 0 (μ 114) (k + 1)) (a.toNat * 5 + c.toNat))) t := fB_congr (fun k hk => by
        rw [tr_eq hI hR' (show k ≤ t by omega) _ (by omega), tr_eq hI hR' (show k + 1 ≤ t by omega) _ (by omega)])
      rw [hE]
      cases hx : fB (fun k => decide ((dRow u n (μ 114 30) (μ 112) (μ 113) 0 (μ 114) k) (a.toNat * 5 + c.toNat) < (dRow u n (μ 114 30) (μ 112) (μ 113) 0 (μ 114) (k + 1)) (a.toNat * 5 + c.toNat))) t with
      | none =>
        show tPr (μ 3) (μ 4) a w (-1) = tPr (μ 112) (μ 113) a w (-1)
        rw [tPr_m1, tPr_m1]
      | some j =>
        have hj := (fB_lt hx).1
        exact tPr_congr (hI.1.2.2.2.2.2.1 j hj).1 (hI.1.2.2.2.2.2.1 j hj).2
  · rintro v ξ ⟨hx, h⟩
    refine ⟨?_, hx⟩
    have e114 : ν 114 = μ 114 := hq 114 (by unfold cScr; omega)
    have e112 : ν 112 = μ 112 := hq 112 (by unfold cScr; omega)
    have e113 : ν 113 = μ 113 := hq 113 (by unfold cScr; omega)
    have hdm := hν.1.2.1.2.2.2.2.2.2.2.2
    rcases h with ⟨h1, rfl⟩ | ⟨h1, h2, rfl⟩ | ⟨h1, h2, R, hR, rfl⟩
    · rw [if_neg h1]
    · rw [if_pos h1, if_neg h2]
    · rw [if_pos h1, if_pos h2, ← e114, ← e112, ← e113]
      rw [fB_congr (fun k hk => ?_)]
      rw [dRow_congrR hn5 hm6 hdm hR (show k ≤ t by omega) _ (by omega), dRow_congrR hn5 hm6 hdm hR (show k + 1 ≤ t by omega) _ (by omega)]
