/-! ===== the model reads: clauses ===== -/
def mD (ν : zM) (n : Nat) (u : Int) (m : Nat) (g dg : Int) (t : Nat) (ow fi se : Nat → Int) : Prop := ν 110 16 = n ∧ ν 110 17 = u ∧ ν 110 18 = m ∧ ν 110 20 = g ∧ ν 110 21 = dg ∧ ν 110 22 = t ∧ (∀ i, lv n m i → ν 116 i = ow i) ∧ (∀ k, k < t → ν 117 k = fi k ∧ ν 118 k = se k)
theorem mD.h8 {μ ν : zM} {n m t : Nat} {u g dg : Int} {ow fi se : Nat → Int} (h : mD μ n u m g dg t ow fi se) (h' : h8 μ ν) : mD ν n u m g dg t ow fi se := by
  unfold mD at *
  rw [h'.2 16 (by decide), h'.2 17 (by decide), h'.2 18 (by decide), h'.2 20 (by decide), h'.2 21 (by decide), h'.2 22 (by decide), h'.1 116 (by decide), h'.1 117 (by decide), h'.1 118 (by decide)]
  exact h
theorem mO_v {μ ν ν' : zM} {v : Int} {o : Int × Nat} (h : mO μ ν v o) (e13 : ν' 110 13 = ν 110 13) (e12 : ν' 110 12 = ν 110 12) : mO μ ν' v o := by
  unfold mO at *
  rw [e13, e12]
  exact h
theorem mO_0 {μ ν : zM} {v : Int} {o : Int × Nat} (h : mO μ ν v o) (hr : 0 ≤ o.1 ∧ o.1 ≤ 4) (hv : v ≤ 0) : o.1 = 0 ∧ v = 0 ∧ ν 110 13 = o.2 ∧ ν 110 12 = μ 110 12 := by
  have h1 := h.1
  have h0 : o.1 = 0 := by omega
  exact ⟨h0, by omega, (h.2.1 h0).1, (h.2.1 h0).2⟩
theorem mO_1 {μ ν : zM} {v : Int} {o : Int × Nat} (h : mO μ ν v o) (hv : v ≠ 0) : o.1 ≠ 0 := by rw [← h.1]; exact hv
def txCo2 (x : Nat → Int) (L a : Nat) : Int × Nat := txB (txN x L 2 5 a) (fun b => txN x L 1 30 b)
theorem txCol_2 {x : Nat → Int} {L a : Nat} : txCol x L a = txB (txCo2 x L a) (fun b => txG x L 59 b) := by
  unfold txCol txCo2
  by_cases h : (txN x L 2 5 a).1 = 0
  · rw [txB_0 h, txB_0 h]
  · rw [txB_n h, txB_n h, txB_n h]
theorem txCo2_rg {x : Nat → Int} {L a : Nat} : oR (txCo2 x L a) := txB_rg txN_rg (fun b => txN_rg)
theorem txUn_rg {x : Nat → Int} {L m a : Nat} {G : Int} : oR (txUn x L G m a) := by
  unfold txUn
  refine txB_rg txN_rg (fun b => ?_)
  split
  · exact ⟨by show (0 : Int) ≤ 4; decide, Int.le_refl _⟩
  · exact ⟨Int.le_refl _, by show (0 : Int) ≤ 4; decide⟩
theorem zor_0 {a : Int} (h : zr a) : zor a 0 = a := by
  unfold zor
  rw [show Int32.ofInt 0 = 0 from rfl, Int32.or_zero, zo_toInt h]
theorem c_X9_takeColours (d : Nat) (μ : zM) (x : Nat → Int) (L a n m t : Nat) (u g dg : Int) (ow fi se : Nat → Int) (haL : a ≤ L) (hT : mT μ x L) (h5 : μ 110 13 = a) (hD : mD μ n u m g dg t ow fi se) (hm0 : m = 0) : zMet (d + 3) 0 yX9_takeColours cX9_takeColours 2 (some .int) TF μ [zR 110] (zPi (fun v ν => hR μ ν ∧ mO μ ν v (txCo2 x L a) ∧ (v = 0 → mD ν (txV x L a).toNat (txV x L (txN x L 2 5 a).2) m g dg t ow fi se))) := by
  have hL := hT.2.1
  refine zMi_of RX9 rfl (by decide) rfl (ls := [some (zR 110), none]) rfl (fun hok => ?_)
  refine zA_aload_n dX9_takeColours_0 rfl ?_
  refine zA_iconst dX9_takeColours_1 rfl ?_
  refine zA_iconst dX9_takeColours_2 rfl ?_
  refine zA_cVi (st := []) kX9_115 t_110 rfl rfl (c_X9_takeNumber d μ x L a 2 5 haL hT h5) rfl rfl rfl dX9_takeColours_3 (zfit0 (by omega) rfl) (fun v1 μ1 q1 => ?_)
  obtain ⟨g1, o1, w1⟩ := q1
  refine zA_istore_n (ls' := [some (zR 110), some (zI v1)]) dX9_takeColours_6 rfl rfl ?_
  have hD1 := hD.h8 g1
  refine zA_aload_n dX9_takeColours_7 rfl ?_
  refine zA_aload_n dX9_takeColours_8 rfl ?_
  refine zA_getI fX9_112 t_110 dX9_takeColours_9 ?_
  refine zA_putI wX9_118 t_110 dX9_takeColours_12 ?_
  refine zA_iload_n dX9_takeColours_15 rfl ?_
  refine zA_if_le (tgt := 23) dX9_takeColours_16 rfl (fun h16 => ?_) (fun h16 => ?_)
  · have r1 := mO_0 o1 txN_rg h16
    have n1 := txN_0 r1.1
    have hF1 : hR μ (zup μ1 110 16 (μ1 110 14)) := hR_u (by decide) g1.hR
    refine zA_aload_n dX9_takeColours_23 rfl ?_
    refine zA_iconst dX9_takeColours_24 rfl ?_
    refine zA_bipush dX9_takeColours_25 rfl ?_
    refine zA_cVi (st := []) kX9_115 t_110 rfl rfl (c_X9_takeNumber d (zup μ1 110 16 (μ1 110 14)) x L ((txN x L 2 5 a).2) 1 30 n1.2.2 (hF1.mt hT) (by show μ1 110 13 = _; exact r1.2.2.1)) rfl rfl rfl dX9_takeColours_27 (zfit0 (by omega) rfl) (fun v2 μ2 q2 => ?_)
    obtain ⟨g2, o2, w2⟩ := q2
    refine zA_istore_n (ls' := [some (zR 110), some (zI v2)]) dX9_takeColours_30 rfl rfl ?_
    refine zA_aload_n dX9_takeColours_31 rfl ?_
    refine zA_aload_n dX9_takeColours_32 rfl ?_
    refine zA_getI fX9_112 t_110 dX9_takeColours_33 ?_
    refine zA_putI wX9_121 t_110 dX9_takeColours_36 ?_
    refine zA_iload_n dX9_takeColours_39 rfl ?_
    exact zA_ri dX9_takeColours_40 ⟨hR_u (by decide) (hF1.trans g2.hR), mO_v (mO_b (by unfold txCo2; rw [txB_0 r1.1]) (by show μ1 110 12 = _; exact r1.2.2.2) o2) rfl rfl, fun e => ⟨by show μ2 110 16 = _; rw [g2.2 16 (by decide), zup_s, (w1 r1.2.1).1]; omega, by show μ2 110 14 = _; exact (w2 e).1, by show μ2 110 18 = _; rw [g2.2 18 (by decide)]; exact hD1.2.2.1, by show μ2 110 20 = _; rw [g2.2 20 (by decide)]; exact hD1.2.2.2.1, by show μ2 110 21 = _; rw [g2.2 21 (by decide)]; exact hD1.2.2.2.2.1, by show μ2 110 22 = _; rw [g2.2 22 (by decide)]; exact hD1.2.2.2.2.2.1, fun i hi => by omega, fun k hk => by show μ2 117 k = _ ∧ μ2 118 k = _; rw [g2.1 117 (by decide), g2.1 118 (by decide)]; exact hD1.2.2.2.2.2.2.2 k hk⟩⟩
  · refine zA_iload_n dX9_takeColours_19 rfl ?_
    refine zA_goto (tgt := 30) dX9_takeColours_20 rfl ?_
    refine zA_istore_n (ls' := [some (zR 110), some (zI v1)]) dX9_takeColours_30 rfl rfl ?_
    refine zA_aload_n dX9_takeColours_31 rfl ?_
    refine zA_aload_n dX9_takeColours_32 rfl ?_
    refine zA_getE (w := μ1 110 14) fX9_112 t_110 dX9_takeColours_33 (by rw [zup_n (by decide)]) ?_
    refine zA_putI wX9_121 t_110 dX9_takeColours_36 ?_
    refine zA_iload_n dX9_takeColours_39 rfl ?_
    exact zA_ri dX9_takeColours_40 ⟨hR_u (by decide) (hR_u (by decide) (g1.hR)), mO_v (mO_f (by unfold txCo2; exact txB_n (mO_1 o1 (by omega))) (mO_1 o1 (by omega)) o1) rfl rfl, fun e => absurd e (by omega)⟩
theorem c_X9_takeTold (d : Nat) (μ : zM) (x : Nat → Int) (L a m : Nat) (haL : a ≤ L) (hT : mT μ x L) (h5 : μ 110 13 = a) (hm : μ 110 18 = m) (hm6 : m ≤ 6) : zMet (d + 3) 0 yX9_takeTold cX9_takeTold 1 (some .int) TF μ [zR 110] (zPi (fun v ν => h8 μ ν ∧ mO μ ν v (txN x L 0 ((m : Int) - 1) a) ∧ (v = 0 → ν 110 14 = txV x L a ∧ ν 110 15 = (txS x L a : Int)))) := by
  have hL := hT.2.1
  refine zMi_of RX9 rfl (by decide) rfl (ls := [some (zR 110)]) rfl (fun hok => ?_)
  refine zA_aload_n dX9_takeTold_0 rfl ?_
  refine zA_iconst dX9_takeTold_1 rfl ?_
  refine zA_aload_n dX9_takeTold_2 rfl ?_
  refine zA_getE (w := (m : Int)) fX9_128 t_110 dX9_takeTold_3 hm ?_
  refine zA_iconst dX9_takeTold_6 rfl ?_
  refine zA_isubB dX9_takeTold_7 ⟨by omega, by omega⟩ ?_
  refine zA_cVi (st := []) kX9_115 t_110 rfl rfl (c_X9_takeNumber d μ x L a 0 ((m : Int) - 1) haL hT h5) rfl rfl rfl dX9_takeTold_8 (zfit0 (by omega) rfl) (fun v1 μ1 q1 => ?_)
  obtain ⟨g1, o1, w1⟩ := q1
  exact zA_ri dX9_takeTold_11 ⟨g1, o1, w1⟩
theorem c_X9_takeKind0 (d : Nat) (μ : zM) (x : Nat → Int) (L a n m t : Nat) (u g dg : Int) (ow fi se : Nat → Int) (haL : a ≤ L) (hT : mT μ x L) (h5 : μ 110 13 = a) (hD : mD μ n u m g dg t ow fi se) (hm6 : m ≤ 6) : zMet (d + 4) 0 yX9_takeKind cX9_takeKind 3 (some .int) TF μ [zR 110, zI 0] (zPi (fun v ν => hR μ ν ∧ mO μ ν v (txUn x L (zor g dg) m a) ∧ (v = 0 → mD ν n u m (zor g (zshl 1 (txV x L a))) (dg) t ow fi se))) := by
  have hL := hT.2.1
  refine zMet_rg (fun hrg hok1 => ?_)
  refine zMi_of RX9 rfl (by decide) rfl (ls := [some (zR 110), some (zI 0), none]) rfl (fun hok => ?_)
  refine zA_aload_n dX9_takeKind_0 rfl ?_
  refine zA_cVi (st := []) kX9_131 t_110 rfl rfl (c_X9_takeTold d μ x L a m haL hT h5 hD.2.2.1 hm6) rfl rfl rfl dX9_takeKind_1 (zfit0 (by omega) rfl) (fun v1 μ1 q1 => ?_)
  obtain ⟨g1, o1, w1⟩ := q1
  refine zA_istore_n (ls' := [some (zR 110), some (zI 0), some (zI v1)]) dX9_takeKind_4 rfl rfl ?_
  have hD1 := hD.h8 g1
  refine zA_iload_n dX9_takeKind_5 rfl ?_
  refine zA_if_ne (tgt := 38) dX9_takeKind_6 rfl (fun h6 => ?_) (fun h6 => ?_)
  · refine zA_iload_n dX9_takeKind_38 rfl ?_
    refine zA_if_ne (tgt := 88) dX9_takeKind_39 rfl (fun h39 => ?_) (fun h39 => False.elim (by omega))
    refine zA_iload_n dX9_takeKind_88 rfl ?_
    exact zA_ri dX9_takeKind_89 ⟨g1.hR, mO_f (by unfold txUn; exact txB_n (mO_1 o1 h6)) (mO_1 o1 h6) o1, fun e => absurd e h6⟩
  · have r1 := mO_0 o1 txN_rg (by omega)
    refine zA_aload_n dX9_takeKind_9 rfl ?_
    refine zA_getE (w := g) fX9_134 t_110 dX9_takeKind_10 hD1.2.2.2.1 ?_
    refine zA_aload_n dX9_takeKind_13 rfl ?_
    refine zA_getE (w := dg) fX9_137 t_110 dX9_takeKind_14 hD1.2.2.2.2.1 ?_
    refine zA_ior dX9_takeKind_17 ?_
    refine zA_aload_n dX9_takeKind_18 rfl ?_
    refine zA_getE (w := txV x L a) fX9_112 t_110 dX9_takeKind_19 (w1 r1.2.1).1 ?_
    refine zA_cSb (st := []) kX9_140 (c_X9_has (d + 2) (zor g dg) (txV x L a) μ1) rfl rfl rfl dX9_takeKind_22 (zfit0 (by omega) rfl) (fun v2 μ2 q2 => ?_)
    obtain ⟨bf, rfl⟩ := q2
    refine zA_ifb_eq (tgt := 38) dX9_takeKind_25 rfl (fun h25 => ?_) (fun h25 => ?_)
    · refine zA_iload_n dX9_takeKind_38 rfl ?_
      refine zA_if_ne (tgt := 88) dX9_takeKind_39 rfl (fun h39 => False.elim (by omega)) fun h39 => ?_
      refine zA_aload_n dX9_takeKind_42 rfl ?_
      refine zA_dup dX9_takeKind_43 rfl ?_
      refine zA_getE (w := g) fX9_134 t_110 dX9_takeKind_44 hD1.2.2.2.1 ?_
      refine zA_iload_n dX9_takeKind_47 rfl ?_
      refine zA_if_eq (tgt := 55) dX9_takeKind_48 rfl (fun h48 => ?_) (fun h48 => False.elim (by omega))
      refine zA_iconst dX9_takeKind_55 rfl ?_
      refine zA_aload_n dX9_takeKind_56 rfl ?_
      refine zA_getE (w := txV x L a) fX9_112 t_110 dX9_takeKind_57 (w1 r1.2.1).1 ?_
      refine zA_ishl dX9_takeKind_60 ?_
      refine zA_ior dX9_takeKind_61 ?_
      refine zA_putI wX9_134 t_110 dX9_takeKind_62 ?_
      refine zA_aload_n dX9_takeKind_65 rfl ?_
      refine zA_dup dX9_takeKind_66 rfl ?_
      refine zA_getE (w := dg) fX9_137 t_110 dX9_takeKind_67 (by rw [zup_n (by decide)]; exact hD1.2.2.2.2.1) ?_
      refine zA_iload_n dX9_takeKind_70 rfl ?_
      refine zA_if_eq (tgt := 83) dX9_takeKind_71 rfl (fun h71 => ?_) (fun h71 => False.elim (by omega))
      refine zA_iconst dX9_takeKind_83 rfl ?_
      refine zA_ior dX9_takeKind_84 ?_
      refine zA_putI wX9_137 t_110 dX9_takeKind_85 ?_
      refine zA_iload_n dX9_takeKind_88 rfl ?_
      exact zA_ri dX9_takeKind_89 ⟨hR_u (by decide) (hR_u (by decide) (g1.hR)), mO_s (w := (txN x L 0 ((m : Int) - 1) a).2) (by unfold txUn; rw [txB_0 r1.1, if_neg (fun q => by have := bf.mpr q; simp_all)]) r1.2.1 r1.2.2.1 r1.2.2.2, fun _ => ⟨hD1.1, hD1.2.1, hD1.2.2.1, rfl, (by show zor dg 0 = dg; exact zor_0 (by rw [← hD.2.2.2.2.1]; exact hrg _ _)), hD1.2.2.2.2.2.1, hD1.2.2.2.2.2.2⟩⟩
    · refine zA_aload_n dX9_takeKind_28 rfl ?_
      refine zA_iconst dX9_takeKind_29 rfl ?_
      refine zA_aload_n dX9_takeKind_30 rfl ?_
      refine zA_getE (w := (txS x L a : Int)) fX9_109 t_110 dX9_takeKind_31 (w1 r1.2.1).2 ?_
      refine zA_cVi (st := []) kX9_105 t_110 rfl rfl (c_X9_fails (d + 2) (4) ((txS x L a : Int)) μ1) rfl rfl rfl dX9_takeKind_34 (zfit0 (by omega) rfl) (fun v3 μ3 q3 => ?_)
      obtain ⟨rfl, rfl⟩ := q3
      exact zA_ri dX9_takeKind_37 ⟨hR_u (by decide) (g1.hR), mO_g (f := 4) (w := txS x L a) (by unfold txUn; rw [txB_0 r1.1, if_pos (bf.mp h25)]) (by decide) rfl rfl, fun e => absurd e (by decide)⟩
theorem c_X9_takeKind1 (d : Nat) (μ : zM) (x : Nat → Int) (L a n m t : Nat) (u g dg : Int) (ow fi se : Nat → Int) (haL : a ≤ L) (hT : mT μ x L) (h5 : μ 110 13 = a) (hD : mD μ n u m g dg t ow fi se) (hm6 : m ≤ 6) : zMet (d + 4) 0 yX9_takeKind cX9_takeKind 3 (some .int) TF μ [zR 110, zI 1] (zPi (fun v ν => hR μ ν ∧ mO μ ν v (txUn x L (zor g dg) m a) ∧ (v = 0 → mD ν n u m (g) (zor dg (zshl 1 (txV x L a))) t ow fi se))) := by
  have hL := hT.2.1
  refine zMet_rg (fun hrg hok1 => ?_)
  refine zMi_of RX9 rfl (by decide) rfl (ls := [some (zR 110), some (zI 1), none]) rfl (fun hok => ?_)
  refine zA_aload_n dX9_takeKind_0 rfl ?_
  refine zA_cVi (st := []) kX9_131 t_110 rfl rfl (c_X9_takeTold d μ x L a m haL hT h5 hD.2.2.1 hm6) rfl rfl rfl dX9_takeKind_1 (zfit0 (by omega) rfl) (fun v1 μ1 q1 => ?_)
  obtain ⟨g1, o1, w1⟩ := q1
  refine zA_istore_n (ls' := [some (zR 110), some (zI 1), some (zI v1)]) dX9_takeKind_4 rfl rfl ?_
  have hD1 := hD.h8 g1
  refine zA_iload_n dX9_takeKind_5 rfl ?_
  refine zA_if_ne (tgt := 38) dX9_takeKind_6 rfl (fun h6 => ?_) (fun h6 => ?_)
  · refine zA_iload_n dX9_takeKind_38 rfl ?_
    refine zA_if_ne (tgt := 88) dX9_takeKind_39 rfl (fun h39 => ?_) (fun h39 => False.elim (by omega))
    refine zA_iload_n dX9_takeKind_88 rfl ?_
    exact zA_ri dX9_takeKind_89 ⟨g1.hR, mO_f (by unfold txUn; exact txB_n (mO_1 o1 h6)) (mO_1 o1 h6) o1, fun e => absurd e h6⟩
  · have r1 := mO_0 o1 txN_rg (by omega)
    refine zA_aload_n dX9_takeKind_9 rfl ?_
    refine zA_getE (w := g) fX9_134 t_110 dX9_takeKind_10 hD1.2.2.2.1 ?_
    refine zA_aload_n dX9_takeKind_13 rfl ?_
    refine zA_getE (w := dg) fX9_137 t_110 dX9_takeKind_14 hD1.2.2.2.2.1 ?_
    refine zA_ior dX9_takeKind_17 ?_
    refine zA_aload_n dX9_takeKind_18 rfl ?_
    refine zA_getE (w := txV x L a) fX9_112 t_110 dX9_takeKind_19 (w1 r1.2.1).1 ?_
    refine zA_cSb (st := []) kX9_140 (c_X9_has (d + 2) (zor g dg) (txV x L a) μ1) rfl rfl rfl dX9_takeKind_22 (zfit0 (by omega) rfl) (fun v2 μ2 q2 => ?_)
    obtain ⟨bf, rfl⟩ := q2
    refine zA_ifb_eq (tgt := 38) dX9_takeKind_25 rfl (fun h25 => ?_) (fun h25 => ?_)
    · refine zA_iload_n dX9_takeKind_38 rfl ?_
      refine zA_if_ne (tgt := 88) dX9_takeKind_39 rfl (fun h39 => False.elim (by omega)) fun h39 => ?_
      refine zA_aload_n dX9_takeKind_42 rfl ?_
      refine zA_dup dX9_takeKind_43 rfl ?_
      refine zA_getE (w := g) fX9_134 t_110 dX9_takeKind_44 hD1.2.2.2.1 ?_
      refine zA_iload_n dX9_takeKind_47 rfl ?_
      refine zA_if_eq (tgt := 55) dX9_takeKind_48 rfl (fun h48 => False.elim (by omega)) fun h48 => ?_
      refine zA_iconst dX9_takeKind_51 rfl ?_
      refine zA_goto (tgt := 61) dX9_takeKind_52 rfl ?_
      refine zA_ior dX9_takeKind_61 ?_
      refine zA_putI wX9_134 t_110 dX9_takeKind_62 ?_
      refine zA_aload_n dX9_takeKind_65 rfl ?_
      refine zA_dup dX9_takeKind_66 rfl ?_
      refine zA_getE (w := dg) fX9_137 t_110 dX9_takeKind_67 (by rw [zup_n (by decide)]; exact hD1.2.2.2.2.1) ?_
      refine zA_iload_n dX9_takeKind_70 rfl ?_
      refine zA_if_eq (tgt := 83) dX9_takeKind_71 rfl (fun h71 => False.elim (by omega)) fun h71 => ?_
      refine zA_iconst dX9_takeKind_74 rfl ?_
      refine zA_aload_n dX9_takeKind_75 rfl ?_
      refine zA_getE (w := txV x L a) fX9_112 t_110 dX9_takeKind_76 (by rw [zup_n (by decide)]; exact (w1 r1.2.1).1) ?_
      refine zA_ishl dX9_takeKind_79 ?_
      refine zA_goto (tgt := 84) dX9_takeKind_80 rfl ?_
      refine zA_ior dX9_takeKind_84 ?_
      refine zA_putI wX9_137 t_110 dX9_takeKind_85 ?_
      refine zA_iload_n dX9_takeKind_88 rfl ?_
      exact zA_ri dX9_takeKind_89 ⟨hR_u (by decide) (hR_u (by decide) (g1.hR)), mO_s (w := (txN x L 0 ((m : Int) - 1) a).2) (by unfold txUn; rw [txB_0 r1.1, if_neg (fun q => by have := bf.mpr q; simp_all)]) r1.2.1 r1.2.2.1 r1.2.2.2, fun _ => ⟨hD1.1, hD1.2.1, hD1.2.2.1, (by show zor g 0 = g; exact zor_0 (by rw [← hD.2.2.2.1]; exact hrg _ _)), rfl, hD1.2.2.2.2.2.1, hD1.2.2.2.2.2.2⟩⟩
    · refine zA_aload_n dX9_takeKind_28 rfl ?_
      refine zA_iconst dX9_takeKind_29 rfl ?_
      refine zA_aload_n dX9_takeKind_30 rfl ?_
      refine zA_getE (w := (txS x L a : Int)) fX9_109 t_110 dX9_takeKind_31 (w1 r1.2.1).2 ?_
      refine zA_cVi (st := []) kX9_105 t_110 rfl rfl (c_X9_fails (d + 2) (4) ((txS x L a : Int)) μ1) rfl rfl rfl dX9_takeKind_34 (zfit0 (by omega) rfl) (fun v3 μ3 q3 => ?_)
      obtain ⟨rfl, rfl⟩ := q3
      exact zA_ri dX9_takeKind_37 ⟨hR_u (by decide) (g1.hR), mO_g (f := 4) (w := txS x L a) (by unfold txUn; rw [txB_0 r1.1, if_pos (bf.mp h25)]) (by decide) rfl rfl, fun e => absurd e (by decide)⟩
theorem tF1 {μ ν : zM} (h : h8 μ ν) : (∀ q, q ≠ 110 → q ≠ 117 → q ≠ 118 → ν q = μ q) ∧ ∀ i, (i < 12 ∨ (15 < i ∧ i ≠ 22)) → ν 110 i = μ 110 i := ⟨fun q h1 _ _ => h.1 q h1, fun i hi => h.2 i (by omega)⟩
theorem tF2 {μ ν : zM} {k i : Nat} {v : Int} (hk : k = 117 ∨ k = 118 ∨ (k = 110 ∧ i = 22) ∨ (k = 110 ∧ i = 12)) (h : (∀ q, q ≠ 110 → q ≠ 117 → q ≠ 118 → ν q = μ q) ∧ ∀ i, (i < 12 ∨ (15 < i ∧ i ≠ 22)) → ν 110 i = μ 110 i) : (∀ q, q ≠ 110 → q ≠ 117 → q ≠ 118 → zup ν k i v q = μ q) ∧ ∀ j, (j < 12 ∨ (15 < j ∧ j ≠ 22)) → zup ν k i v 110 j = μ 110 j := ⟨fun q h1 h2 h3 => by funext j; rw [zup_k (by omega), h.1 q h1 h2 h3], fun j hj => by rw [zup_n (by omega)]; exact h.2 j hj⟩
theorem tF3 {μ ν ξ : zM} (h : (∀ q, q ≠ 110 → q ≠ 117 → q ≠ 118 → ν q = μ q) ∧ ∀ i, (i < 12 ∨ (15 < i ∧ i ≠ 22)) → ν 110 i = μ 110 i) (h' : h8 ν ξ) : (∀ q, q ≠ 110 → q ≠ 117 → q ≠ 118 → ξ q = μ q) ∧ ∀ i, (i < 12 ∨ (15 < i ∧ i ≠ 22)) → ξ 110 i = μ 110 i := ⟨fun q h1 h2 h3 => by rw [h'.1 q h1, h.1 q h1 h2 h3], fun i hi => by rw [h'.2 i (by omega), h.2 i hi]⟩
theorem c_X9_takeTouch (d : Nat) (μ : zM) (x : Nat → Int) (L a m k : Nat) (haL : a ≤ L) (hT : mT μ x L) (h5 : μ 110 13 = a) (hm : μ 110 18 = m) (hm6 : m ≤ 6) (hk : μ 110 22 = k) (hk9 : k < 10) : zMet (d + 4) 0 yX9_takeTouch cX9_takeTouch 2 (some .int) TF μ [zR 110] (zPi (fun v ν => ((∀ q, q ≠ 110 → q ≠ 117 → q ≠ 118 → ν q = μ q) ∧ ∀ i, (i < 12 ∨ (15 < i ∧ i ≠ 22)) → ν 110 i = μ 110 i) ∧ mO μ ν v (txTch x L m a) ∧ (v = 0 → ν 110 22 = (k : Int) + 1 ∧ (∀ j, ν 117 j = if j = k then txV x L a else μ 117 j) ∧ ∀ j, ν 118 j = if j = k then txV x L (txN x L 0 ((m : Int) - 1) a).2 else μ 118 j))) := by
  have hL := hT.2.1
  refine zMi_of RX9 rfl (by decide) rfl (ls := [some (zR 110), none]) rfl (fun hok => ?_)
  refine zA_aload_n dX9_takeTouch_0 rfl ?_
  refine zA_cVi (st := []) kX9_131 t_110 rfl rfl (c_X9_takeTold d μ x L a m haL hT h5 hm hm6) rfl rfl rfl dX9_takeTouch_1 (zfit0 (by omega) rfl) (fun v1 μ1 q1 => ?_)
  obtain ⟨g1, o1, w1⟩ := q1
  refine zA_istore_n (ls' := [some (zR 110), some (zI v1)]) dX9_takeTouch_4 rfl rfl ?_
  refine zA_aload_n dX9_takeTouch_5 rfl ?_
  refine zA_getR fX9_32 t_110 rfl dX9_takeTouch_6 ?_
  refine zA_aload_n dX9_takeTouch_9 rfl ?_
  refine zA_getE (w := (k : Int)) fX9_144 t_110 dX9_takeTouch_10 (by rw [g1.2 22 (by decide)]; exact hk) ?_
  refine zA_aload_n dX9_takeTouch_13 rfl ?_
  refine zA_getI fX9_112 t_110 dX9_takeTouch_14 ?_
  refine zA_iasE (j := k) t_117 (by omega) (by omega) dX9_takeTouch_17 rfl ?_
  refine zA_iload_n dX9_takeTouch_18 rfl ?_
  refine zA_if_le (tgt := 26) dX9_takeTouch_19 rfl (fun h19 => ?_) (fun h19 => ?_)
  · have r1 := mO_0 o1 txN_rg h19
    have n1 := txN_0 r1.1
    have hF1 : hR μ (zup μ1 117 k (μ1 110 14)) := hR_up (by decide) g1.hR
    refine zA_aload_n dX9_takeTouch_26 rfl ?_
    refine zA_cVi (st := []) kX9_131 t_110 rfl rfl (c_X9_takeTold d (zup μ1 117 k (μ1 110 14)) x L ((txN x L 0 ((m : Int) - 1) a).2) m n1.2.2 (hF1.mt hT) (by show μ1 110 13 = _; exact r1.2.2.1) (by show μ1 110 18 = _; rw [g1.2 18 (by decide)]; exact hm) hm6) rfl rfl rfl dX9_takeTouch_27 (zfit0 (by omega) rfl) (fun v2 μ2 q2 => ?_)
    obtain ⟨g2, o2, w2⟩ := q2
    refine zA_istore_n (ls' := [some (zR 110), some (zI v2)]) dX9_takeTouch_30 rfl rfl ?_
    refine zA_aload_n dX9_takeTouch_31 rfl ?_
    refine zA_getR fX9_35 t_110 rfl dX9_takeTouch_32 ?_
    refine zA_aload_n dX9_takeTouch_35 rfl ?_
    refine zA_getE (w := (k : Int)) fX9_144 t_110 dX9_takeTouch_36 (by rw [g2.2 22 (by decide), zup_k (by decide), g1.2 22 (by decide)]; exact hk) ?_
    refine zA_aload_n dX9_takeTouch_39 rfl ?_
    refine zA_getI fX9_112 t_110 dX9_takeTouch_40 ?_
    refine zA_iasE (j := k) t_118 (by omega) (by omega) dX9_takeTouch_43 rfl ?_
    refine zA_iload_n dX9_takeTouch_44 rfl ?_
    refine zA_if_ne (tgt := 74) dX9_takeTouch_45 rfl (fun h45 => ?_) (fun h45 => ?_)
    · refine zA_aload_n dX9_takeTouch_74 rfl ?_
      refine zA_dup dX9_takeTouch_75 rfl ?_
      refine zA_getE (w := (k : Int)) fX9_144 t_110 dX9_takeTouch_76 (by rw [zup_k (by decide)]; exact (by rw [g2.2 22 (by decide), zup_k (by decide), g1.2 22 (by decide)]; exact hk)) ?_
      refine zA_iconst dX9_takeTouch_79 rfl ?_
      refine zA_iaddB dX9_takeTouch_80 ⟨by omega, by omega⟩ ?_
      refine zA_putI wX9_144 t_110 dX9_takeTouch_81 ?_
      refine zA_iload_n dX9_takeTouch_84 rfl ?_
      exact zA_ri dX9_takeTouch_85 (by
        by_cases hz : v2 = 0
        · have r2 := mO_0 o2 txN_rg (by omega)
          have hne : ¬ txV x L (txN x L 0 ((m : Int) - 1) a).2 = txV x L a := fun q => (by first | exact absurd hz h45 | exact h61 (by rw [(w2 hz).1, q]))
          exact ⟨tF2 (by omega) (tF2 (by omega) (tF3 (tF2 (by omega) (tF1 g1)) g2)), mO_s (w := (txN x L 0 ((m : Int) - 1) (txN x L 0 ((m : Int) - 1) a).2).2) (by unfold txTch; rw [txB_0 r1.1, txB_0 r2.1, if_neg hne]) hz r2.2.2.1 (by show μ2 110 12 = _; rw [r2.2.2.2]; exact r1.2.2.2), fun _ => ⟨by rw [zup_s], fun j => by rw [zup_k (by decide), zup_k (by decide), g2.1 117 (by decide), ← g1.1 117 (by decide), ← (w1 r1.2.1).1]; unfold zup; simp only [true_and], fun j => by rw [zup_k (by decide), ← (w2 hz).1, show μ 118 j = μ2 118 j by rw [g2.1 118 (by decide), zup_k (by decide), g1.1 118 (by decide)]]; unfold zup; simp only [true_and]⟩⟩
        · exact ⟨tF2 (by omega) (tF2 (by omega) (tF3 (tF2 (by omega) (tF1 g1)) g2)), mO_v (mO_f (by unfold txTch; rw [txB_0 r1.1]; exact txB_n (mO_1 o2 hz)) (mO_1 o2 hz) o2) rfl rfl, fun e => absurd e hz⟩)
    · have r2 := mO_0 o2 txN_rg (by omega)
      refine zA_aload_n dX9_takeTouch_48 rfl ?_
      refine zA_getR fX9_32 t_110 rfl dX9_takeTouch_49 ?_
      refine zA_aload_n dX9_takeTouch_52 rfl ?_
      refine zA_getE (w := (k : Int)) fX9_144 t_110 dX9_takeTouch_53 (by rw [zup_k (by decide)]; exact (by rw [g2.2 22 (by decide), zup_k (by decide), g1.2 22 (by decide)]; exact hk)) ?_
      refine zA_ialE (w := txV x L a) (j := k) t_117 (by omega) (by omega) dX9_takeTouch_56 rfl (by rw [zup_k (by decide)]; exact (by rw [g2.1 117 (by decide), zup_s]; exact (w1 r1.2.1).1)) ?_
      refine zA_aload_n dX9_takeTouch_57 rfl ?_
      refine zA_getE (w := μ2 110 14) fX9_112 t_110 dX9_takeTouch_58 (by rw [zup_k (by decide)]) ?_
      refine zA_icmp_ne (tgt := 74) dX9_takeTouch_61 rfl (fun h61 => ?_) (fun h61 => ?_)
      · refine zA_aload_n dX9_takeTouch_74 rfl ?_
        refine zA_dup dX9_takeTouch_75 rfl ?_
        refine zA_getE (w := (k : Int)) fX9_144 t_110 dX9_takeTouch_76 (by rw [zup_k (by decide)]; exact (by rw [g2.2 22 (by decide), zup_k (by decide), g1.2 22 (by decide)]; exact hk)) ?_
        refine zA_iconst dX9_takeTouch_79 rfl ?_
        refine zA_iaddB dX9_takeTouch_80 ⟨by omega, by omega⟩ ?_
        refine zA_putI wX9_144 t_110 dX9_takeTouch_81 ?_
        refine zA_iload_n dX9_takeTouch_84 rfl ?_
        exact zA_ri dX9_takeTouch_85 (by
        by_cases hz : v2 = 0
        · have r2 := mO_0 o2 txN_rg (by omega)
          have hne : ¬ txV x L (txN x L 0 ((m : Int) - 1) a).2 = txV x L a := fun q => (by first | exact absurd hz h45 | exact h61 (by rw [(w2 hz).1, q]))
          exact ⟨tF2 (by omega) (tF2 (by omega) (tF3 (tF2 (by omega) (tF1 g1)) g2)), mO_s (w := (txN x L 0 ((m : Int) - 1) (txN x L 0 ((m : Int) - 1) a).2).2) (by unfold txTch; rw [txB_0 r1.1, txB_0 r2.1, if_neg hne]) hz r2.2.2.1 (by show μ2 110 12 = _; rw [r2.2.2.2]; exact r1.2.2.2), fun _ => ⟨by rw [zup_s], fun j => by rw [zup_k (by decide), zup_k (by decide), g2.1 117 (by decide), ← g1.1 117 (by decide), ← (w1 r1.2.1).1]; unfold zup; simp only [true_and], fun j => by rw [zup_k (by decide), ← (w2 hz).1, show μ 118 j = μ2 118 j by rw [g2.1 118 (by decide), zup_k (by decide), g1.1 118 (by decide)]]; unfold zup; simp only [true_and]⟩⟩
        · exact ⟨tF2 (by omega) (tF2 (by omega) (tF3 (tF2 (by omega) (tF1 g1)) g2)), mO_v (mO_f (by unfold txTch; rw [txB_0 r1.1]; exact txB_n (mO_1 o2 hz)) (mO_1 o2 hz) o2) rfl rfl, fun e => absurd e hz⟩)
      · refine zA_aload_n dX9_takeTouch_64 rfl ?_
        refine zA_iconst dX9_takeTouch_65 rfl ?_
        refine zA_aload_n dX9_takeTouch_66 rfl ?_
        refine zA_getE (w := (txS x L (txN x L 0 ((m : Int) - 1) a).2 : Int)) fX9_109 t_110 dX9_takeTouch_67 (by rw [zup_k (by decide)]; exact (w2 r2.2.1).2) ?_
        refine zA_cVi (st := []) kX9_105 t_110 rfl rfl (c_X9_fails (d + 2) (4) ((txS x L (txN x L 0 ((m : Int) - 1) a).2 : Int)) (zup μ2 118 k (μ2 110 14))) rfl rfl rfl dX9_takeTouch_70 (zfit0 (by omega) rfl) (fun v1 μ1 q1 => ?_)
        obtain ⟨rfl, rfl⟩ := q1
        exact zA_ri dX9_takeTouch_73 ⟨tF2 (by omega) (tF2 (by omega) (tF3 (tF2 (by omega) (tF1 g1)) g2)), mO_g (f := 4) (w := txS x L (txN x L 0 ((m : Int) - 1) a).2) (by unfold txTch; rw [txB_0 r1.1, txB_0 r2.1, if_pos (by rw [← (w2 r2.2.1).1]; exact h61.symm)]) (by decide) rfl (by rw [zup_s]), fun e => absurd e (by decide)⟩
  · refine zA_iload_n dX9_takeTouch_22 rfl ?_
    refine zA_goto (tgt := 30) dX9_takeTouch_23 rfl ?_
    refine zA_istore_n (ls' := [some (zR 110), some (zI v1)]) dX9_takeTouch_30 rfl rfl ?_
    refine zA_aload_n dX9_takeTouch_31 rfl ?_
    refine zA_getR fX9_35 t_110 rfl dX9_takeTouch_32 ?_
    refine zA_aload_n dX9_takeTouch_35 rfl ?_
    refine zA_getE (w := (k : Int)) fX9_144 t_110 dX9_takeTouch_36 (by rw [zup_k (by decide)]; exact (by rw [g1.2 22 (by decide)]; exact hk)) ?_
    refine zA_aload_n dX9_takeTouch_39 rfl ?_
    refine zA_getE (w := μ1 110 14) fX9_112 t_110 dX9_takeTouch_40 (by rw [zup_k (by decide)]) ?_
    refine zA_iasE (j := k) t_118 (by omega) (by omega) dX9_takeTouch_43 rfl ?_
    refine zA_iload_n dX9_takeTouch_44 rfl ?_
    refine zA_if_ne (tgt := 74) dX9_takeTouch_45 rfl (fun h45 => ?_) (fun h45 => False.elim (by omega))
    refine zA_aload_n dX9_takeTouch_74 rfl ?_
    refine zA_dup dX9_takeTouch_75 rfl ?_
    refine zA_getE (w := (k : Int)) fX9_144 t_110 dX9_takeTouch_76 (by rw [zup_k (by decide), zup_k (by decide)]; exact (by rw [g1.2 22 (by decide)]; exact hk)) ?_
    refine zA_iconst dX9_takeTouch_79 rfl ?_
    refine zA_iaddB dX9_takeTouch_80 ⟨by omega, by omega⟩ ?_
    refine zA_putI wX9_144 t_110 dX9_takeTouch_81 ?_
    refine zA_iload_n dX9_takeTouch_84 rfl ?_
    exact zA_ri dX9_takeTouch_85 ⟨tF2 (by omega) (tF2 (by omega) (tF2 (by omega) (tF1 g1))), mO_v (mO_f (by unfold txTch; exact txB_n (mO_1 o1 (by omega))) (mO_1 o1 (by omega)) o1) rfl rfl, fun e => absurd e (by omega)⟩
