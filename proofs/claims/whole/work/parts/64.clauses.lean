/-! ===== the class reads: clauses ===== -/
def cD (ν : zM) (n : Nat) (u : Int) (m : Nat) (g dg : Int) (t : Nat) (ow fi se : Nat → Int) : Prop := ν 9 6 = n ∧ ν 9 7 = u ∧ ν 9 8 = m ∧ ν 9 9 = g ∧ ν 9 10 = dg ∧ ν 9 11 = t ∧ (∀ i, lv n m i → ν 10 i = ow i) ∧ (∀ k, k < t → ν 11 k = fi k ∧ ν 12 k = se k)
theorem cD.f8 {μ ν : zM} {n m t : Nat} {u g dg : Int} {ow fi se : Nat → Int} (h : cD μ n u m g dg t ow fi se) (h' : f8 μ ν) : cD ν n u m g dg t ow fi se := by
  unfold cD at *
  rw [h'.1 9 (by decide), h'.1 10 (by decide), h'.1 11 (by decide), h'.1 12 (by decide)]
  exact h
theorem cO_e {ν : zM} {b : Bool} {o o' : Int × Nat} (h : o = o') (h' : cO ν b o') : cO ν b o := by subst h; exact h'
theorem f8.ct {μ ν : zM} {x : Nat → Int} {L : Nat} (h' : f8 μ ν) (h : cT μ x L) : cT ν x L := h.fR h'.fR
theorem f8.u {μ : zM} {i : Nat} {v : Int} (hi : i ≠ 2) : f8 μ (zup μ 8 i v) := f8_up hi (f8.refl _)
theorem c_X5_readColours (d : Nat) (μ : zM) (x : Nat → Int) (L a n m t : Nat) (u g dg : Int) (ow fi se : Nat → Int) (haL : a < L) (hT : cT μ x L) (h5 : μ 8 5 = a) (hD : cD μ n u m g dg t ow fi se) (hm0 : n = 0 → m = 0) : zMet (d + 3) 0 yX5_readColours cX5_readColours 2 (some .boolean) TF μ [zR 8] (zPb (fun b ν => fR μ ν ∧ cO ν b (if 0 < n then (3, a) else txCol x L (a + 1)) ∧ (b = true → cD ν (txV x L (a + 1)).toNat (txV x L (txN x L 2 5 (a + 1)).2) m g dg t ow fi se))) := by
  have hL := hT.2.1
  refine zMb_of RX5 rfl (by decide) rfl (ls := [some (zR 8), none]) rfl (fun hok => ?_)
  refine zA_aload_n dX5_readColours_0 rfl ?_
  refine zA_getR fX5_12 t_8 rfl dX5_readColours_1 ?_
  refine zA_getE (w := (n : Int)) fX5_44 t_9 dX5_readColours_4 hD.1 ?_
  refine zA_if_le (tgt := 20) dX5_readColours_7 rfl (fun h7 => ?_) (fun h7 => ?_)
  · refine zA_aload_n dX5_readColours_20 rfl ?_
    refine zA_dup dX5_readColours_21 rfl ?_
    refine zA_getE (w := (a : Int)) fX5_33 t_8 dX5_readColours_22 h5 ?_
    refine zA_iconst dX5_readColours_25 rfl ?_
    refine zA_iaddB dX5_readColours_26 ⟨by omega, by omega⟩ ?_
    refine zA_putI wX5_33 t_8 dX5_readColours_27 ?_
    refine zA_aload_n dX5_readColours_30 rfl ?_
    refine zA_iconst dX5_readColours_31 rfl ?_
    refine zA_iconst dX5_readColours_32 rfl ?_
    refine zA_cVb (st := []) kX5_66 t_8 rfl rfl (c_X5_readNumber d (zup μ 8 5 ((a : Int) + 1)) x L (a + 1) 2 5 (by omega) ((f8.u (by decide)).ct hT) (by rw [zup_s]; rfl)) rfl rfl rfl dX5_readColours_33 (zfit0 (by omega) rfl) (fun v1 μ1 q1 => ?_)
    obtain ⟨g1, o1, w1⟩ := q1
    have g1' : f8 μ μ1 := (f8.u (by decide)).trans g1
    refine zA_ifb_ne (tgt := 41) dX5_readColours_36 rfl (fun h36 => ?_) (fun h36 => ?_)
    · have r1 := o1.1 h36
      have n1 := txN_0 r1.1
      refine zA_aload_n dX5_readColours_41 rfl ?_
      refine zA_getE (w := txV x L (a + 1)) fX5_69 t_8 dX5_readColours_42 (w1 h36).1 ?_
      refine zA_istore_n (ls' := [some (zR 8), some (zI (txV x L (a + 1)))]) dX5_readColours_45 rfl rfl ?_
      refine zA_aload_n dX5_readColours_46 rfl ?_
      refine zA_iconst dX5_readColours_47 rfl ?_
      refine zA_bipush dX5_readColours_48 rfl ?_
      refine zA_cVb (st := []) kX5_66 t_8 rfl rfl (c_X5_readNumber d μ1 x L ((txN x L 2 5 (a + 1)).2) 1 30 n1.2.2 (g1'.ct hT) r1.2) rfl rfl rfl dX5_readColours_50 (zfit0 (by omega) rfl) (fun v2 μ2 q2 => ?_)
      obtain ⟨g2, o2, w2⟩ := q2
      have g2' : f8 μ μ2 := g1'.trans g2
      refine zA_ifb_ne (tgt := 58) dX5_readColours_53 rfl (fun h53 => ?_) (fun h53 => ?_)
      · have r2 := o2.1 h53
        have n2 := txN_0 r2.1
        refine zA_aload_n dX5_readColours_58 rfl ?_
        refine zA_getR fX5_12 t_8 rfl dX5_readColours_59 ?_
        refine zA_iload_n dX5_readColours_62 rfl ?_
        refine zA_putI wX5_44 t_9 dX5_readColours_63 ?_
        refine zA_aload_n dX5_readColours_66 rfl ?_
        refine zA_getR fX5_12 t_8 rfl dX5_readColours_67 ?_
        refine zA_aload_n dX5_readColours_70 rfl ?_
        refine zA_getE (w := txV x L (txN x L 2 5 (a + 1)).2) fX5_69 t_8 dX5_readColours_71 (by rw [zup_k (by decide)]; exact (w2 h53).1) ?_
        refine zA_putI wX5_72 t_9 dX5_readColours_74 ?_
        refine zA_aload_n dX5_readColours_77 rfl ?_
        have hF3 : fR μ (zup (zup μ2 9 6 (txV x L (a + 1))) 9 7 (txV x L (txN x L 2 5 (a + 1)).2)) := fR_up (by decide) (fR_up (by decide) g2'.fR)
        have hD2 := hD.f8 g2'
        have hm := hm0 (by omega)
        have hD3 : cD (zup (zup μ2 9 6 (txV x L (a + 1))) 9 7 (txV x L (txN x L 2 5 (a + 1)).2)) (txV x L (a + 1)).toNat (txV x L (txN x L 2 5 (a + 1)).2) m g dg t ow fi se := ⟨by show txV x L (a + 1) = _; omega, rfl, hD2.2.2.1, hD2.2.2.2.1, hD2.2.2.2.2.1, hD2.2.2.2.2.2.1, fun i hi => by omega, hD2.2.2.2.2.2.2.2⟩
        refine zA_bipush dX5_readColours_78 rfl ?_
        refine zA_cVb (st := []) kX5_75 t_8 rfl rfl (c_X5_readSign d (zup (zup μ2 9 6 (txV x L (a + 1))) 9 7 (txV x L (txN x L 2 5 (a + 1)).2)) x L ((txN x L 1 30 (txN x L 2 5 (a + 1)).2).2) 59 n2.2.2 (hT.fR hF3) (by show μ2 8 5 = _; exact r2.2)) rfl rfl rfl dX5_readColours_80 (zfit0 (by omega) rfl) (fun v3 μ3 q3 => ?_)
        obtain ⟨g3, o3⟩ := q3
        exact zA_rb (b := v3) dX5_readColours_83 rfl ⟨hF3.trans g3.fR, cO_e (by rw [if_neg (by omega)]; unfold txCol; rw [txB_0 r1.1, txB_0 r2.1]) o3, fun _ => hD3.f8 g3⟩
      · refine zA_iconst dX5_readColours_56 rfl ?_
        exact zA_rb (b := false) dX5_readColours_57 rfl ⟨g2'.fR, cO_e (by rw [if_neg (by omega)]; unfold txCol; rw [txB_0 r1.1]; exact txB_n ((h53 ▸ o2 : cO μ2 false _).2 rfl).1) (h53 ▸ o2), fun e => by cases e⟩
    · refine zA_iconst dX5_readColours_39 rfl ?_
      exact zA_rb (b := false) dX5_readColours_40 rfl ⟨g1'.fR, cO_e (by rw [if_neg (by omega)]; unfold txCol; exact txB_n ((h36 ▸ o1 : cO μ1 false _).2 rfl).1) (h36 ▸ o1), fun e => by cases e⟩
  · refine zA_aload_n dX5_readColours_10 rfl ?_
    refine zA_aload_n dX5_readColours_11 rfl ?_
    refine zA_getE (w := (a : Int)) fX5_33 t_8 dX5_readColours_12 h5 ?_
    refine zA_iconst dX5_readColours_15 rfl ?_
    refine zA_cVb (st := []) kX5_47 t_8 rfl rfl (c_X5_failAt (d + 1) ((a : Int)) (3) μ) rfl rfl rfl dX5_readColours_16 (zfit0 (by omega) rfl) (fun v4 μ4 q4 => ?_)
    obtain ⟨rfl, rfl⟩ := q4
    exact zA_rb (b := false) dX5_readColours_19 rfl ⟨fR_u8 (by decide) (fR_u8 (by decide) (fR.refl _)), cO_g (if_pos (by omega)) (by decide) rfl rfl, fun e => by cases e⟩
theorem c_X5_readToldCoat (d : Nat) (μ : zM) (x : Nat → Int) (L a m : Nat) (haL : a ≤ L) (hT : cT μ x L) (h5 : μ 8 5 = a) (hm : μ 9 8 = m) (hm6 : m ≤ 6) : zMet (d + 3) 0 yX5_readToldCoat cX5_readToldCoat 1 (some .boolean) TF μ [zR 8] (zPb (fun b ν => f8 μ ν ∧ cO ν b (txN x L 0 ((m : Int) - 1) a) ∧ (b = true → ν 8 6 = txV x L a ∧ ν 8 7 = (txS x L a : Int)))) := by
  have hL := hT.2.1
  refine zMb_of RX5 rfl (by decide) rfl (ls := [some (zR 8)]) rfl (fun hok => ?_)
  refine zA_aload_n dX5_readToldCoat_0 rfl ?_
  refine zA_iconst dX5_readToldCoat_1 rfl ?_
  refine zA_aload_n dX5_readToldCoat_2 rfl ?_
  refine zA_getR fX5_12 t_8 rfl dX5_readToldCoat_3 ?_
  refine zA_getE (w := (m : Int)) fX5_79 t_9 dX5_readToldCoat_6 hm ?_
  refine zA_iconst dX5_readToldCoat_9 rfl ?_
  refine zA_isubB dX5_readToldCoat_10 ⟨by omega, by omega⟩ ?_
  refine zA_cVb (st := []) kX5_66 t_8 rfl rfl (c_X5_readNumber d μ x L a 0 ((m : Int) - 1) haL hT h5) rfl rfl rfl dX5_readToldCoat_11 (zfit0 (by omega) rfl) (fun v1 μ1 q1 => ?_)
  obtain ⟨g1, o1, w1⟩ := q1
  exact zA_rb (b := v1) dX5_readToldCoat_14 rfl ⟨g1, o1, w1⟩
def txUn (x : Nat → Int) (L : Nat) (G : Int) (m a : Nat) : Int × Nat := txB (txN x L 0 ((m : Int) - 1) a) (fun b => if zbit G (txV x L a) = 1 then (4, txS x L a) else (0, b))
theorem txKind_un {x : Nat → Int} {L m a : Nat} {G : Int} : txKind x L G m a = txB (txUn x L G m a) (fun b => txG x L 59 b) := by
  unfold txKind txUn
  by_cases h : (txN x L 0 ((m : Int) - 1) a).1 = 0
  · rw [txB_0 h, txB_0 h]
    split
    · rfl
    · rfl
  · rw [txB_n h, txB_n h, txB_n h]
theorem txUn_0 {x : Nat → Int} {L m a : Nat} {G : Int} (h : (txUn x L G m a).1 = 0) : (0 ≤ txV x L a ∧ txV x L a ≤ (m : Int) - 1) ∧ (txUn x L G m a).2 ≤ L := by
  unfold txUn at *
  obtain ⟨h1, h2, e1⟩ := txB_z h
  have n1 := txN_0 h1
  rw [e1]
  split at h2
  · cases h2
  · next e =>
    rw [if_neg e]
    exact ⟨n1.1, n1.2.2⟩
theorem c_X5_readUnmarked (d : Nat) (μ : zM) (x : Nat → Int) (L a n m t : Nat) (u g dg : Int) (ow fi se : Nat → Int) (haL : a < L) (hT : cT μ x L) (h5 : μ 8 5 = a) (hD : cD μ n u m g dg t ow fi se) (hm6 : m ≤ 6) : zMet (d + 4) 0 yX5_readUnmarked cX5_readUnmarked 1 (some .boolean) TF μ [zR 8] (zPb (fun b ν => f8 μ ν ∧ cO ν b (txUn x L (zor g dg) m (a + 1)) ∧ (b = true → ν 8 6 = txV x L (a + 1)))) := by
  have hL := hT.2.1
  refine zMb_of RX5 rfl (by decide) rfl (ls := [some (zR 8)]) rfl (fun hok => ?_)
  refine zA_aload_n dX5_readUnmarked_0 rfl ?_
  refine zA_dup dX5_readUnmarked_1 rfl ?_
  refine zA_getE (w := (a : Int)) fX5_33 t_8 dX5_readUnmarked_2 h5 ?_
  refine zA_iconst dX5_readUnmarked_5 rfl ?_
  refine zA_iaddB dX5_readUnmarked_6 ⟨by omega, by omega⟩ ?_
  refine zA_putI wX5_33 t_8 dX5_readUnmarked_7 ?_
  refine zA_aload_n dX5_readUnmarked_10 rfl ?_
  refine zA_cVb (st := []) kX5_101 t_8 rfl rfl (c_X5_readToldCoat d (zup μ 8 5 ((a : Int) + 1)) x L (a + 1) m (by omega) ((f8.u (by decide)).ct hT) (by rw [zup_s]; rfl) hD.2.2.1 hm6) rfl rfl rfl dX5_readUnmarked_11 (zfit0 (by omega) rfl) (fun v1 μ1 q1 => ?_)
  obtain ⟨g1, o1, w1⟩ := q1
  have g1' : f8 μ μ1 := (f8.u (by decide)).trans g1
  refine zA_ifb_ne (tgt := 19) dX5_readUnmarked_14 rfl (fun h14 => ?_) (fun h14 => ?_)
  · have r1 := o1.1 h14
    have n1 := txN_0 r1.1
    refine zA_aload_n dX5_readUnmarked_19 rfl ?_
    refine zA_getR fX5_12 t_8 rfl dX5_readUnmarked_20 ?_
    refine zA_getE (w := g) fX5_95 t_9 dX5_readUnmarked_23 (hD.f8 g1').2.2.2.1 ?_
    refine zA_aload_n dX5_readUnmarked_26 rfl ?_
    refine zA_getR fX5_12 t_8 rfl dX5_readUnmarked_27 ?_
    refine zA_getE (w := dg) fX5_98 t_9 dX5_readUnmarked_30 (hD.f8 g1').2.2.2.2.1 ?_
    refine zA_ior dX5_readUnmarked_33 ?_
    refine zA_aload_n dX5_readUnmarked_34 rfl ?_
    refine zA_getE (w := txV x L (a + 1)) fX5_69 t_8 dX5_readUnmarked_35 (w1 h14).1 ?_
    refine zA_cNb (st := []) kX5_104 (c_X8_isIn (d + 2) (zor g dg) (txV x L (a + 1)) μ1) rfl rfl rfl dX5_readUnmarked_38 (zfit0 (by omega) rfl) (fun v2 μ2 q2 => ?_)
    obtain ⟨b2, rfl⟩ := q2
    refine zA_ifb_eq (tgt := 56) dX5_readUnmarked_41 rfl (fun h41 => ?_) (fun h41 => ?_)
    · refine zA_iconst dX5_readUnmarked_56 rfl ?_
      refine zA_goto (tgt := 61) dX5_readUnmarked_57 rfl ?_
      exact zA_rb (b := true) dX5_readUnmarked_61 rfl ⟨g1', cO_s (w := (txN x L 0 ((m : Int) - 1) (a + 1)).2) (by unfold txUn; rw [txB_0 r1.1, if_neg (fun q => by have := b2.mpr q; simp_all)]) r1.2, fun _ => (w1 h14).1⟩
    · refine zA_aload_n dX5_readUnmarked_44 rfl ?_
      refine zA_aload_n dX5_readUnmarked_45 rfl ?_
      refine zA_getE (w := (txS x L (a + 1) : Int)) fX5_89 t_8 dX5_readUnmarked_46 (w1 h14).2 ?_
      refine zA_iconst dX5_readUnmarked_49 rfl ?_
      refine zA_cVb (st := []) kX5_47 t_8 rfl rfl (c_X5_failAt (d + 2) ((txS x L (a + 1) : Int)) (4) μ1) rfl rfl rfl dX5_readUnmarked_50 (zfit0 (by omega) rfl) (fun v3 μ3 q3 => ?_)
      obtain ⟨rfl, rfl⟩ := q3
      refine zA_ifb_eq (tgt := 60) dX5_readUnmarked_53 rfl (fun h53 => ?_) (fun h53 => False.elim (by simp_all))
      refine zA_iconst dX5_readUnmarked_60 rfl ?_
      exact zA_rb (b := false) dX5_readUnmarked_61 rfl ⟨f8_up (by decide) (f8_up (by decide) (g1')), cO_g (f := 4) (w := txS x L (a + 1)) (by unfold txUn; rw [txB_0 r1.1, if_pos (b2.mp h41)]) (by decide) rfl rfl, fun e => by cases e⟩
  · refine zA_iconst dX5_readUnmarked_17 rfl ?_
    exact zA_rb (b := false) dX5_readUnmarked_18 rfl ⟨g1', cO_e (by unfold txUn; exact txB_n ((h14 ▸ o1 : cO μ1 false _).2 rfl).1) (h14 ▸ o1), fun e => by cases e⟩
theorem c_X5_readGloves (d : Nat) (μ : zM) (x : Nat → Int) (L a n m t : Nat) (u g dg : Int) (ow fi se : Nat → Int) (haL : a < L) (hT : cT μ x L) (h5 : μ 8 5 = a) (hD : cD μ n u m g dg t ow fi se) (hm6 : m ≤ 6) : zMet (d + 5) 0 yX5_readGloves cX5_readGloves 1 (some .boolean) TF μ [zR 8] (zPb (fun b ν => fR μ ν ∧ cO ν b (txKind x L (zor g dg) m (a + 1)) ∧ (b = true → cD ν n u m (zor g (zshl 1 (txV x L (a + 1)))) dg t ow fi se))) := by
  have hL := hT.2.1
  refine zMb_of RX5 rfl (by decide) rfl (ls := [some (zR 8)]) rfl (fun hok => ?_)
  refine zA_aload_n dX5_readGloves_0 rfl ?_
  refine zA_cVb (st := []) kX5_92 t_8 rfl rfl (c_X5_readUnmarked d μ x L a n m t u g dg ow fi se haL hT h5 hD hm6) rfl rfl rfl dX5_readGloves_1 (zfit0 (by omega) rfl) (fun v1 μ1 q1 => ?_)
  obtain ⟨g1, o1, w1⟩ := q1
  refine zA_ifb_ne (tgt := 9) dX5_readGloves_4 rfl (fun h4 => ?_) (fun h4 => ?_)
  · have r1 := o1.1 h4
    have n1 := txUn_0 r1.1
    refine zA_aload_n dX5_readGloves_9 rfl ?_
    refine zA_getR fX5_12 t_8 rfl dX5_readGloves_10 ?_
    refine zA_dup dX5_readGloves_13 rfl ?_
    refine zA_getE (w := g) fX5_95 t_9 dX5_readGloves_14 (hD.f8 g1).2.2.2.1 ?_
    refine zA_iconst dX5_readGloves_17 rfl ?_
    refine zA_aload_n dX5_readGloves_18 rfl ?_
    refine zA_getE (w := txV x L (a + 1)) fX5_69 t_8 dX5_readGloves_19 (w1 h4) ?_
    refine zA_ishl dX5_readGloves_22 ?_
    refine zA_ior dX5_readGloves_23 ?_
    refine zA_putI wX5_95 t_9 dX5_readGloves_24 ?_
    refine zA_aload_n dX5_readGloves_27 rfl ?_
    have hF1 : fR μ (zup μ1 9 9 (zor g (zshl 1 (txV x L (a + 1))))) := fR_up (by decide) g1.fR
    have hD1 := hD.f8 g1
    have hD2 : cD (zup μ1 9 9 (zor g (zshl 1 (txV x L (a + 1))))) n u m (zor g (zshl 1 (txV x L (a + 1)))) dg t ow fi se := ⟨hD1.1, hD1.2.1, hD1.2.2.1, rfl, hD1.2.2.2.2.1, hD1.2.2.2.2.2.1, hD1.2.2.2.2.2.2⟩
    refine zA_bipush dX5_readGloves_28 rfl ?_
    refine zA_cVb (st := []) kX5_75 t_8 rfl rfl (c_X5_readSign (d + 2) (zup μ1 9 9 (zor g (zshl 1 (txV x L (a + 1))))) x L ((txUn x L (zor g dg) m (a + 1)).2) 59 n1.2 (hT.fR hF1) (by show μ1 8 5 = _; exact r1.2)) rfl rfl rfl dX5_readGloves_30 (zfit0 (by omega) rfl) (fun v2 μ2 q2 => ?_)
    obtain ⟨g2, o2⟩ := q2
    exact zA_rb (b := v2) dX5_readGloves_33 rfl ⟨hF1.trans g2.fR, cO_e (by rw [txKind_un, txB_0 r1.1]) o2, fun _ => hD2.f8 g2⟩
  · refine zA_iconst dX5_readGloves_7 rfl ?_
    exact zA_rb (b := false) dX5_readGloves_8 rfl ⟨g1.fR, cO_e (by rw [txKind_un]; exact txB_n ((h4 ▸ o1 : cO μ1 false _).2 rfl).1) (h4 ▸ o1), fun e => by cases e⟩
theorem c_X5_readDog (d : Nat) (μ : zM) (x : Nat → Int) (L a n m t : Nat) (u g dg : Int) (ow fi se : Nat → Int) (haL : a < L) (hT : cT μ x L) (h5 : μ 8 5 = a) (hD : cD μ n u m g dg t ow fi se) (hm6 : m ≤ 6) : zMet (d + 5) 0 yX5_readDog cX5_readDog 1 (some .boolean) TF μ [zR 8] (zPb (fun b ν => fR μ ν ∧ cO ν b (txKind x L (zor g dg) m (a + 1)) ∧ (b = true → cD ν n u m g (zor dg (zshl 1 (txV x L (a + 1)))) t ow fi se))) := by
  have hL := hT.2.1
  refine zMb_of RX5 rfl (by decide) rfl (ls := [some (zR 8)]) rfl (fun hok => ?_)
  refine zA_aload_n dX5_readDog_0 rfl ?_
  refine zA_cVb (st := []) kX5_92 t_8 rfl rfl (c_X5_readUnmarked d μ x L a n m t u g dg ow fi se haL hT h5 hD hm6) rfl rfl rfl dX5_readDog_1 (zfit0 (by omega) rfl) (fun v1 μ1 q1 => ?_)
  obtain ⟨g1, o1, w1⟩ := q1
  refine zA_ifb_ne (tgt := 9) dX5_readDog_4 rfl (fun h4 => ?_) (fun h4 => ?_)
  · have r1 := o1.1 h4
    have n1 := txUn_0 r1.1
    refine zA_aload_n dX5_readDog_9 rfl ?_
    refine zA_getR fX5_12 t_8 rfl dX5_readDog_10 ?_
    refine zA_dup dX5_readDog_13 rfl ?_
    refine zA_getE (w := dg) fX5_98 t_9 dX5_readDog_14 (hD.f8 g1).2.2.2.2.1 ?_
    refine zA_iconst dX5_readDog_17 rfl ?_
    refine zA_aload_n dX5_readDog_18 rfl ?_
    refine zA_getE (w := txV x L (a + 1)) fX5_69 t_8 dX5_readDog_19 (w1 h4) ?_
    refine zA_ishl dX5_readDog_22 ?_
    refine zA_ior dX5_readDog_23 ?_
    refine zA_putI wX5_98 t_9 dX5_readDog_24 ?_
    refine zA_aload_n dX5_readDog_27 rfl ?_
    have hF1 : fR μ (zup μ1 9 10 (zor dg (zshl 1 (txV x L (a + 1))))) := fR_up (by decide) g1.fR
    have hD1 := hD.f8 g1
    have hD2 : cD (zup μ1 9 10 (zor dg (zshl 1 (txV x L (a + 1))))) n u m g (zor dg (zshl 1 (txV x L (a + 1)))) t ow fi se := ⟨hD1.1, hD1.2.1, hD1.2.2.1, hD1.2.2.2.1, rfl, hD1.2.2.2.2.2.1, hD1.2.2.2.2.2.2⟩
    refine zA_bipush dX5_readDog_28 rfl ?_
    refine zA_cVb (st := []) kX5_75 t_8 rfl rfl (c_X5_readSign (d + 2) (zup μ1 9 10 (zor dg (zshl 1 (txV x L (a + 1))))) x L ((txUn x L (zor g dg) m (a + 1)).2) 59 n1.2 (hT.fR hF1) (by show μ1 8 5 = _; exact r1.2)) rfl rfl rfl dX5_readDog_30 (zfit0 (by omega) rfl) (fun v2 μ2 q2 => ?_)
    obtain ⟨g2, o2⟩ := q2
    exact zA_rb (b := v2) dX5_readDog_33 rfl ⟨hF1.trans g2.fR, cO_e (by rw [txKind_un, txB_0 r1.1]) o2, fun _ => hD2.f8 g2⟩
  · refine zA_iconst dX5_readDog_7 rfl ?_
    exact zA_rb (b := false) dX5_readDog_8 rfl ⟨g1.fR, cO_e (by rw [txKind_un]; exact txB_n ((h4 ▸ o1 : cO μ1 false _).2 rfl).1) (h4 ▸ o1), fun e => by cases e⟩
theorem c_X5_readTouch (d : Nat) (μ : zM) (x : Nat → Int) (L a m k : Nat) (haL : a ≤ L) (hT : cT μ x L) (h5 : μ 8 5 = a) (hm : μ 9 8 = m) (hm6 : m ≤ 6) (hk : k < 10) : zMet (d + 4) 0 yX5_readTouch cX5_readTouch 3 (some .boolean) TF μ [zR 8, zI (k : Int)] (zPb (fun b ν => ((∀ q, q ≠ 8 → q ≠ 11 → q ≠ 12 → ν q = μ q) ∧ ν 8 2 = μ 8 2) ∧ cO ν b (txTch x L m a) ∧ (b = true → (∀ j, ν 11 j = if j = k then txV x L a else μ 11 j) ∧ ∀ j, ν 12 j = if j = k then txV x L (txN x L 0 ((m : Int) - 1) a).2 else μ 12 j))) := by
  have hL := hT.2.1
  refine zMb_of RX5 rfl (by decide) rfl (ls := [some (zR 8), some (zI (k : Int)), none]) rfl (fun hok => ?_)
  refine zA_aload_n dX5_readTouch_0 rfl ?_
  refine zA_cVb (st := []) kX5_101 t_8 rfl rfl (c_X5_readToldCoat d μ x L a m haL hT h5 hm hm6) rfl rfl rfl dX5_readTouch_1 (zfit0 (by omega) rfl) (fun v1 μ1 q1 => ?_)
  obtain ⟨g1, o1, w1⟩ := q1
  refine zA_ifb_ne (tgt := 9) dX5_readTouch_4 rfl (fun h4 => ?_) (fun h4 => ?_)
  · have r1 := o1.1 h4
    have n1 := txN_0 r1.1
    refine zA_aload_n dX5_readTouch_9 rfl ?_
    refine zA_getE (w := txV x L a) fX5_69 t_8 dX5_readTouch_10 (w1 h4).1 ?_
    refine zA_istore_n (ls' := [some (zR 8), some (zI (k : Int)), some (zI (txV x L a))]) dX5_readTouch_13 rfl rfl ?_
    refine zA_aload_n dX5_readTouch_14 rfl ?_
    refine zA_cVb (st := []) kX5_101 t_8 rfl rfl (c_X5_readToldCoat d μ1 x L ((txN x L 0 ((m : Int) - 1) a).2) m n1.2.2 (g1.ct hT) r1.2 (by rw [g1.1 9 (by decide)]; exact hm) hm6) rfl rfl rfl dX5_readTouch_15 (zfit0 (by omega) rfl) (fun v2 μ2 q2 => ?_)
    obtain ⟨g2, o2, w2⟩ := q2
    have g2' : f8 μ μ2 := g1.trans g2
    refine zA_ifb_ne (tgt := 23) dX5_readTouch_18 rfl (fun h18 => ?_) (fun h18 => ?_)
    · have r2 := o2.1 h18
      have n2 := txN_0 r2.1
      refine zA_aload_n dX5_readTouch_23 rfl ?_
      refine zA_getE (w := txV x L (txN x L 0 ((m : Int) - 1) a).2) fX5_69 t_8 dX5_readTouch_24 (w2 h18).1 ?_
      refine zA_iload_n dX5_readTouch_27 rfl ?_
      refine zA_icmp_ne (tgt := 41) dX5_readTouch_28 rfl (fun h28 => ?_) (fun h28 => ?_)
      · refine zA_aload_n dX5_readTouch_41 rfl ?_
        refine zA_getR fX5_12 t_8 rfl dX5_readTouch_42 ?_
        refine zA_getR fX5_113 t_9 rfl dX5_readTouch_45 ?_
        refine zA_iload_n dX5_readTouch_48 rfl ?_
        refine zA_iload_n dX5_readTouch_49 rfl ?_
        refine zA_iasE (j := k) t_11 (by omega) (by omega) dX5_readTouch_50 rfl ?_
        refine zA_aload_n dX5_readTouch_51 rfl ?_
        refine zA_getR fX5_12 t_8 rfl dX5_readTouch_52 ?_
        refine zA_getR fX5_116 t_9 rfl dX5_readTouch_55 ?_
        refine zA_iload_n dX5_readTouch_58 rfl ?_
        refine zA_aload_n dX5_readTouch_59 rfl ?_
        refine zA_getE (w := txV x L (txN x L 0 ((m : Int) - 1) a).2) fX5_69 t_8 dX5_readTouch_60 (by rw [zup_k (by decide)]; exact (w2 h18).1) ?_
        refine zA_iasE (j := k) t_12 (by omega) (by omega) dX5_readTouch_63 rfl ?_
        refine zA_iconst dX5_readTouch_64 rfl ?_
        exact zA_rb (b := true) dX5_readTouch_65 rfl ⟨⟨fun q h1 h2 h3 => by funext i; rw [zup_k h3, zup_k h2, g2'.1 q h1], g2'.2⟩, cO_s (w := (txN x L 0 ((m : Int) - 1) (txN x L 0 ((m : Int) - 1) a).2).2) (by unfold txTch; rw [txB_0 r1.1, txB_0 r2.1, if_neg (by omega)]) r2.2, fun _ => ⟨fun j => by rw [zup_k (by decide), ← g2'.1 11 (by decide)]; unfold zup; simp only [true_and], fun j => by rw [← g2'.1 12 (by decide)]; unfold zup; simp only [true_and]; rfl⟩⟩
      · refine zA_aload_n dX5_readTouch_31 rfl ?_
        refine zA_aload_n dX5_readTouch_32 rfl ?_
        refine zA_getE (w := (txS x L (txN x L 0 ((m : Int) - 1) a).2 : Int)) fX5_89 t_8 dX5_readTouch_33 (w2 h18).2 ?_
        refine zA_iconst dX5_readTouch_36 rfl ?_
        refine zA_cVb (st := []) kX5_47 t_8 rfl rfl (c_X5_failAt (d + 2) ((txS x L (txN x L 0 ((m : Int) - 1) a).2 : Int)) (4) μ2) rfl rfl rfl dX5_readTouch_37 (zfit0 (by omega) rfl) (fun v3 μ3 q3 => ?_)
        obtain ⟨rfl, rfl⟩ := q3
        exact zA_rb (b := false) dX5_readTouch_40 rfl ⟨⟨fun q h1 _ _ => (f8_up (by decide) (f8_up (by decide) (g2'))).1 q h1, (f8_up (by decide) (f8_up (by decide) (g2'))).2⟩, cO_g (f := 4) (w := txS x L (txN x L 0 ((m : Int) - 1) a).2) (by unfold txTch; rw [txB_0 r1.1, txB_0 r2.1, if_pos (by omega)]) (by decide) rfl rfl, fun e => by cases e⟩
    · refine zA_iconst dX5_readTouch_21 rfl ?_
      exact zA_rb (b := false) dX5_readTouch_22 rfl ⟨⟨fun q h1 _ _ => g2'.1 q h1, g2'.2⟩, cO_e (by unfold txTch; rw [txB_0 r1.1]; exact txB_n ((h18 ▸ o2 : cO μ2 false _).2 rfl).1) (h18 ▸ o2), fun e => by cases e⟩
  · refine zA_iconst dX5_readTouch_7 rfl ?_
    exact zA_rb (b := false) dX5_readTouch_8 rfl ⟨⟨fun q h1 _ _ => g1.1 q h1, g1.2⟩, cO_e (by unfold txTch; exact txB_n ((h4 ▸ o1 : cO μ1 false _).2 rfl).1) (h4 ▸ o1), fun e => by cases e⟩
