/-! ===== the class reads: a clause, the text; house() ===== -/
def cS (ν : zM) : txT → Prop
  | (_, n, u, m, g, dg, t, ow, fi, se) => cD ν n u m g dg t ow fi se
theorem cS.f8 {μ ν : zM} : ∀ {S : txT}, cS μ S → f8 μ ν → cS ν S
  | (_, _, _, _, _, _, _, _, _, _), h, h' => cD.f8 h h'
theorem txO_skS {x : Nat → Int} {L : Nat} : ∀ S : txT, txO x L (txS x L S.1, S.2) = txO x L S
  | (_, _, _, _, _, _, _, _, _, _) => txO_sk
theorem txQ_skS {x : Nat → Int} {L : Nat} : ∀ S : txT, txQ x L (txS x L S.1, S.2) = txQ x L S
  | (_, _, _, _, _, _, _, _, _, _) => txQ_sk
theorem txW_sk {x : Nat → Int} {L : Nat} : ∀ S : txT, txW L S → txW L (txS x L S.1, S.2)
  | (_, _, _, _, _, _, _, _, _, _), h => ⟨txS_L h.1, h.2⟩
theorem txW_L {L : Nat} : ∀ S : txT, txW L S → S.1 ≤ L
  | (_, _, _, _, _, _, _, _, _, _), h => h.1
theorem txQ_at {x : Nat → Int} {L : Nat} : ∀ S : txT, (txO x L S).1 = 0 → (txQ x L S).1 = (txO x L S).2
  | (a, n, u, m, g, dg, t, ow, fi, se), h => by
    simp only [txO] at h ⊢
    simp only [txQ]
    by_cases c1 : txH x L a = 99
    · rw [if_pos c1] at h ⊢
      rw [if_pos c1]
      split at h
      · cases h
      · next e => rw [if_neg e]
    · rw [if_neg c1] at h ⊢
      rw [if_neg c1]
      split at h
      · cases h
      · next hn =>
        rw [if_neg hn]
        by_cases c2 : txH x L a = 112
        · rw [if_pos c2] at h ⊢
          rw [if_pos c2]
          split at h
          · cases h
          · next e => rw [if_neg e]
        · rw [if_neg c2] at h ⊢
          rw [if_neg c2]
          by_cases c3 : txH x L a = 103
          · rw [if_pos c3, if_pos (Or.inl c3)]
          · rw [if_neg c3]
            by_cases c4 : txH x L a = 104
            · rw [if_pos c4, if_pos (Or.inr c4)]
            · rw [if_neg c4]
              rw [if_neg (by omega)] at h ⊢
              split at h
              · next c5 =>
                rw [if_pos c5]
                split at h
                · cases h
                · next e => rw [if_neg e]
              · cases h
theorem e_X5_readClause (d : Nat) (μ : zM) (x : Nat → Int) (L a n m t : Nat) (u g dg : Int) (ow fi se : Nat → Int) (hW : txW L (a, n, u, m, g, dg, t, ow, fi, se)) (ν : zM) (hf : fR μ ν) (hT1 : cT ν x L) (h51 : ν 8 5 = (txS x L a : Nat)) (hD1 : cD ν n u m g dg t ow fi se) (hn : n ≠ 0 ∨ txH x L a = 99) : zA RX5 cX5_readClause 2 (zRm (d + 6) 0) zN0 TF 0 ν 31 [some (zR 8), some (zI (txH x L a))] [] (zPb (fun b ν => fR μ ν ∧ cO ν b (txO x L (a, n, u, m, g, dg, t, ow, fi, se)) ∧ (b = true → cS ν (txQ x L (a, n, u, m, g, dg, t, ow, fi, se))))) := by
  obtain ⟨w1, w2, w3, w4, w5, w6, w7, w8, w9⟩ := hW
  refine zA_iload_n dX5_readClause_31 rfl ?_
  have hsw : (txH x L a) = 99 ∨ (txH x L a) = 103 ∨ (txH x L a) = 104 ∨ (txH x L a) = 112 ∨ (txH x L a) = 116 ∨ ((txH x L a) ≠ 99 ∧ (txH x L a) ≠ 103 ∧ (txH x L a) ≠ 104 ∧ (txH x L a) ≠ 112 ∧ (txH x L a) ≠ 116) := by omega
  rcases hsw with hsw | hsw | hsw | hsw | hsw | hsw
  · refine zA_lswE (tgt := 84) hsw dX5_readClause_32 (by decide) rfl rfl ?_
    have hlt := txH_lt (x := x) (L := L) (a := a) (by omega)
    refine zA_aload_n dX5_readClause_84 rfl ?_
    refine zA_cVb (st := []) kX5_51 t_8 rfl rfl (c_X5_readColours (d + 2) ν x L (txS x L a) n m t u g dg ow fi se hlt.1 hT1 h51 hD1 (by omega)) rfl rfl rfl dX5_readClause_85 (zfit0 (by omega) rfl) (fun v1 μ1 q1 => ?_)
    obtain ⟨g1, o1, w1⟩ := q1
    exact zA_rb (b := v1) dX5_readClause_88 rfl ⟨hf.trans g1, cO_e (by simp only [txO]; rw [if_pos hsw]) o1, fun e => by simp only [txQ]; rw [if_pos hsw]; exact w1 e⟩
  · refine zA_lswE (tgt := 94) hsw dX5_readClause_32 (by decide) rfl rfl ?_
    have hlt := txH_lt (x := x) (L := L) (a := a) (by omega)
    refine zA_aload_n dX5_readClause_94 rfl ?_
    refine zA_cVb (st := []) kX5_57 t_8 rfl rfl (c_X5_readGloves d ν x L (txS x L a) n m t u g dg ow fi se hlt.1 hT1 h51 hD1 w5) rfl rfl rfl dX5_readClause_95 (zfit0 (by omega) rfl) (fun v2 μ2 q2 => ?_)
    obtain ⟨g2, o2, w2⟩ := q2
    exact zA_rb (b := v2) dX5_readClause_98 rfl ⟨hf.trans g2, cO_e (by simp only [txO]; rw [if_neg (by omega), if_neg (by omega), if_neg (by omega), if_pos (Or.inl hsw)]) o2, fun e => by simp only [txQ]; rw [if_neg (by omega), if_neg (by omega), if_pos hsw]; exact w2 e⟩
  · refine zA_lswE (tgt := 104) hsw dX5_readClause_32 (by decide) rfl rfl ?_
    have hlt := txH_lt (x := x) (L := L) (a := a) (by omega)
    refine zA_aload_n dX5_readClause_104 rfl ?_
    refine zA_cVb (st := []) kX5_63 t_8 rfl rfl (c_X5_readDog d ν x L (txS x L a) n m t u g dg ow fi se hlt.1 hT1 h51 hD1 w5) rfl rfl rfl dX5_readClause_105 (zfit0 (by omega) rfl) (fun v3 μ3 q3 => ?_)
    obtain ⟨g3, o3, w3⟩ := q3
    exact zA_rb (b := v3) dX5_readClause_108 rfl ⟨hf.trans g3, cO_e (by simp only [txO]; rw [if_neg (by omega), if_neg (by omega), if_neg (by omega), if_pos (Or.inr hsw)]) o3, fun e => by simp only [txQ]; rw [if_neg (by omega), if_neg (by omega), if_neg (by omega), if_pos hsw]; exact w3 e⟩
  · refine zA_lswE (tgt := 89) hsw dX5_readClause_32 (by decide) rfl rfl ?_
    have hlt := txH_lt (x := x) (L := L) (a := a) (by omega)
    refine zA_aload_n dX5_readClause_89 rfl ?_
    refine zA_cVb (st := []) kX5_54 t_8 rfl rfl (c_X5_readCoat (d + 2) ν x L (txS x L a) n m t u g dg ow fi se hlt.1 hT1 h51 hD1 w2 (by omega) w5) rfl rfl rfl dX5_readClause_90 (zfit0 (by omega) rfl) (fun v4 μ4 q4 => ?_)
    obtain ⟨g4, o4, w4⟩ := q4
    exact zA_rb (b := v4) dX5_readClause_93 rfl ⟨hf.trans g4, cO_e (by simp only [txO]; rw [if_neg (by omega), if_neg (by omega), if_pos hsw]) o4, fun e => by simp only [txQ]; rw [if_neg (by omega), if_pos hsw]; exact w4 e⟩
  · refine zA_lswE (tgt := 99) hsw dX5_readClause_32 (by decide) rfl rfl ?_
    have hlt := txH_lt (x := x) (L := L) (a := a) (by omega)
    refine zA_aload_n dX5_readClause_99 rfl ?_
    refine zA_cVb (st := []) kX5_60 t_8 rfl rfl (c_X5_readDay d ν x L (txS x L a) n m t u g dg ow fi se hlt.1 hT1 h51 hD1 w5) rfl rfl rfl dX5_readClause_100 (zfit0 (by omega) rfl) (fun v5 μ5 q5 => ?_)
    obtain ⟨g5, o5, w5⟩ := q5
    exact zA_rb (b := v5) dX5_readClause_103 rfl ⟨hf.trans g5, cO_e (by simp only [txO]; rw [if_neg (by omega), if_neg (by omega), if_neg (by omega), if_neg (by omega), if_pos hsw]) o5, fun e => by simp only [txQ]; rw [if_neg (by omega), if_neg (by omega), if_neg (by omega), if_neg (by omega)]; exact w5 e⟩
  · refine zA_lsw (tgt := 109) (off := 77) dX5_readClause_32 (by decide) (by simp only [Op.lookupswitch.offset]; rw [if_neg (Ne.symm hsw.1), if_neg (Ne.symm hsw.2.1), if_neg (Ne.symm hsw.2.2.1), if_neg (Ne.symm hsw.2.2.2.1), if_neg (Ne.symm hsw.2.2.2.2)]) rfl ?_
    refine zA_aload_n dX5_readClause_109 rfl ?_
    refine zA_aload_n dX5_readClause_110 rfl ?_
    refine zA_getE (w := (txS x L a : Int)) fX5_33 t_8 dX5_readClause_111 h51 ?_
    refine zA_iconst dX5_readClause_114 rfl ?_
    refine zA_cVb (st := []) kX5_47 t_8 rfl rfl (c_X5_failAt (d + 4) ((txS x L a : Int)) (1) ν) rfl rfl rfl dX5_readClause_115 (zfit0 (by omega) rfl) (fun v6 μ6 q6 => ?_)
    obtain ⟨rfl, rfl⟩ := q6
    exact zA_rb (b := false) dX5_readClause_118 rfl ⟨fR_u8 (by decide) (fR_u8 (by decide) (hf)), cO_g (f := 1) (w := txS x L a) (by simp only [txO]; rw [if_neg hsw.1, if_neg (by omega), if_neg hsw.2.2.2.1, if_neg (by omega), if_neg hsw.2.2.2.2]) (by decide) rfl rfl, fun e => by cases e⟩
theorem c_X5_readClause (d : Nat) (μ : zM) (x : Nat → Int) (L a n m t : Nat) (u g dg : Int) (ow fi se : Nat → Int) (hT : cT μ x L) (h5 : μ 8 5 = a) (hD : cD μ n u m g dg t ow fi se) (hW : txW L (a, n, u, m, g, dg, t, ow, fi, se)) : zMet (d + 6) 0 yX5_readClause cX5_readClause 2 (some .boolean) TF μ [zR 8] (zPb (fun b ν => fR μ ν ∧ cO ν b (txO x L (a, n, u, m, g, dg, t, ow, fi, se)) ∧ (b = true → cS ν (txQ x L (a, n, u, m, g, dg, t, ow, fi, se))))) := by
  have hL := hT.2.1
  have haL := hW.1
  have hsL := @txS_L x L a haL
  refine zMb_of RX5 rfl (by decide) rfl (ls := [some (zR 8), none]) rfl (fun hok => ?_)
  refine zA_aload_n dX5_readClause_0 rfl ?_
  refine zA_cVi (st := []) kX5_36 t_8 rfl rfl (c_X5_ahead (d + 4) μ x L a haL hT h5) rfl rfl rfl dX5_readClause_1 (zfit0 (by omega) rfl) (fun v1 μ1 q1 => ?_)
  obtain ⟨rfl, rfl⟩ := q1
  refine zA_istore_n (ls' := [some (zR 8), some (zI (txH x L a))]) dX5_readClause_4 rfl rfl ?_
  refine zA_aload_n dX5_readClause_5 rfl ?_
  refine zA_getR fX5_12 t_8 rfl dX5_readClause_6 ?_
  refine zA_getE (w := (n : Int)) fX5_44 t_9 dX5_readClause_9 (by rw [zup_k (by decide)]; exact hD.1) ?_
  refine zA_if_ne (tgt := 31) dX5_readClause_12 rfl (fun h12 => ?_) (fun h12 => ?_)
  · exact e_X5_readClause d μ x L a n m t u g dg ow fi se hW _ (fR_u8 (by decide) (fR.refl _)) ((f8.u (by decide)).ct hT) (by rw [zup_s]) (hD.f8 (f8.u (by decide))) (by omega)
  · refine zA_iload_n dX5_readClause_15 rfl ?_
    refine zA_bipush dX5_readClause_16 rfl ?_
    refine zA_icmp_eq (tgt := 31) dX5_readClause_18 rfl (fun h18 => ?_) (fun h18 => ?_)
    · exact e_X5_readClause d μ x L a n m t u g dg ow fi se hW _ (fR_u8 (by decide) (fR.refl _)) ((f8.u (by decide)).ct hT) (by rw [zup_s]) (hD.f8 (f8.u (by decide))) (by omega)
    · refine zA_aload_n dX5_readClause_21 rfl ?_
      refine zA_aload_n dX5_readClause_22 rfl ?_
      refine zA_getE (w := (txS x L a : Int)) fX5_33 t_8 dX5_readClause_23 (by rw [zup_s]) ?_
      refine zA_iconst dX5_readClause_26 rfl ?_
      refine zA_cVb (st := []) kX5_47 t_8 rfl rfl (c_X5_failAt (d + 4) ((txS x L a : Int)) (1) (zup μ 8 5 ((txS x L a : Int)))) rfl rfl rfl dX5_readClause_27 (zfit0 (by omega) rfl) (fun v2 μ2 q2 => ?_)
      obtain ⟨rfl, rfl⟩ := q2
      exact zA_rb (b := false) dX5_readClause_30 rfl ⟨fR_u8 (by decide) (fR_u8 (by decide) (fR_u8 (by decide) (fR.refl _))), cO_g (f := 1) (w := txS x L a) (by simp only [txO]; rw [if_neg h18, if_pos (by omega)]) (by decide) rfl rfl, fun e => by cases e⟩
theorem c_X5_readClauseS (d : Nat) (μ : zM) (x : Nat → Int) (L : Nat) : ∀ S : txT, cT μ x L → μ 8 5 = (S.1 : Nat) → cS μ S → txW L S → zMet (d + 6) 0 yX5_readClause cX5_readClause 2 (some .boolean) TF μ [zR 8] (zPb (fun b ν => fR μ ν ∧ cO ν b (txO x L S) ∧ (b = true → cS ν (txQ x L S))))
  | (a, n, u, m, g, dg, t, ow, fi, se), hT, h5, hD, hW => c_X5_readClause d μ x L a n m t u g dg ow fi se hT h5 hD hW
theorem fR.ct {μ ν : zM} {x : Nat → Int} {L : Nat} (h' : fR μ ν) (h : cT μ x L) : cT ν x L := h.fR h'
theorem l_X5_readText (d : Nat) (μ : zM) (x : Nat → Int) (L : Nat) : ∀ (k : Nat) (S : txT) (i : Nat) (ν : zM), L - S.1 < k → i + (L - S.1) ≤ 240 → fR μ ν → cT ν x L → ν 8 5 = (S.1 : Nat) → cS ν S → txW L S → zA RX5 cX5_readText 3 (zRm (d + 7) 0) zN0 TF 0 ν 16 [some (zR 8), some (zI 1), some (zI (i : Int))] [] (zPb (fun b ξ => fR μ ξ ∧ (b = true → (txR x L k S).1.1 = 0 ∧ cS ξ (txR x L k S).2) ∧ (b = false → (txR x L k S).1.1 ≠ 0 ∧ ξ 8 3 = (txR x L k S).1.1 ∧ ξ 8 4 = (txR x L k S).1.2)))
  | 0, S, i, ν, hk, hi, hf, hT, h5, hS, hW => absurd hk (by omega)
  | k + 1, S, i, ν, hk, hi, hf, hT, h5, hS, hW => by
    have ih := l_X5_readText d μ x L k
    have hL := hT.2.1
    have haL := txW_L S hW
    have hsL := @txS_L x L S.1 haL
    have hS1 : cS (zup ν 8 5 (txS x L S.1 : Int)) (txS x L S.1, S.2) := by
      obtain ⟨a, n, u, m, g, dg, t, ow, fi, se⟩ := S
      exact cD.f8 hS (f8.u (by decide))
    refine zA_iload_n dX5_readText_16 rfl ?_
    refine zA_sipush dX5_readText_17 rfl ?_
    refine zA_icmp_gt (tgt := 46) dX5_readText_20 rfl (fun h20 => False.elim (by omega)) fun h20 => ?_
    refine zA_iload_n dX5_readText_23 rfl ?_
    refine zA_if_eq (tgt := 46) dX5_readText_24 rfl (fun h24 => False.elim (by omega)) fun h24 => ?_
    refine zA_aload_n dX5_readText_27 rfl ?_
    refine zA_cVi (st := []) kX5_36 t_8 rfl rfl (c_X5_ahead (d + 5) ν x L S.1 haL hT h5) rfl rfl rfl dX5_readText_28 (zfit0 (by omega) rfl) (fun v1 μ1 q1 => ?_)
    obtain ⟨rfl, rfl⟩ := q1
    refine zA_iconst dX5_readText_31 rfl ?_
    refine zA_icmp_eq (tgt := 46) dX5_readText_32 rfl (fun h32 => ?_) (fun h32 => ?_)
    · refine zA_iload_n dX5_readText_46 rfl ?_
      exact zA_rb (b := true) dX5_readText_47 rfl ⟨fR_u8 (by decide) (hf), fun _ => (by simp only [txR]; rw [if_pos h32]; exact ⟨rfl, hS.f8 (f8.u (by decide))⟩), fun e => by cases e⟩
    · refine zA_aload_n dX5_readText_35 rfl ?_
      refine zA_cVb (st := []) kX5_40 t_8 rfl rfl (c_X5_readClauseS d (zup ν 8 5 ((txS x L S.1 : Int))) x L (txS x L S.1, S.2) ((f8.u (by decide)).ct hT) (by rw [zup_s]) (hS1) (txW_sk S hW)) rfl rfl rfl dX5_readText_36 (zfit0 (by omega) rfl) (fun v2 μ2 q2 => ?_)
      obtain ⟨g2, o2, w2⟩ := q2
      rw [txO_skS] at o2
      rw [txQ_skS] at w2
      have g9 : fR μ μ2 := (fR_u8 (by decide) hf).trans g2
      cases v2 with
      | false =>
        refine zA_eq (st' := [zI 0]) rfl ?_
        refine zA_istore_n (ls' := [some (zR 8), some (zI 0), some (zI (i : Int))]) dX5_readText_39 rfl rfl ?_
        refine zA_iincB (ls' := [some (zR 8), some (zI 0), some (zI ((i : Int) + 1))]) dX5_readText_40 rfl rfl ⟨by omega, by omega⟩ rfl ?_
        refine zA_goto (tgt := 16) dX5_readText_43 rfl ?_
        refine zA_iload_n dX5_readText_16 rfl ?_
        refine zA_sipush dX5_readText_17 rfl ?_
        refine zA_icmp_gt (tgt := 46) dX5_readText_20 rfl (fun h20 => ?_) (fun h20 => ?_)
        · refine zA_iload_n dX5_readText_46 rfl ?_
          exact zA_rb (b := false) dX5_readText_47 rfl ⟨g9, fun e => (by cases e), fun _ => by simp only [txR]; rw [if_neg h32, if_neg (o2.2 rfl).1]; exact o2.2 rfl⟩
        · refine zA_iload_n dX5_readText_23 rfl ?_
          refine zA_if_eq (tgt := 46) dX5_readText_24 rfl (fun h24 => ?_) (fun h24 => False.elim (by omega))
          refine zA_iload_n dX5_readText_46 rfl ?_
          exact zA_rb (b := false) dX5_readText_47 rfl ⟨g9, fun e => (by cases e), fun _ => by simp only [txR]; rw [if_neg h32, if_neg (o2.2 rfl).1]; exact o2.2 rfl⟩
      | true =>
        have r1 := o2.1 rfl
        have hN := txW_next S hW r1.1
        have hQL := txW_L _ hN.1
        refine zA_eq (st' := [zI 1]) rfl ?_
        refine zA_istore_n (ls' := [some (zR 8), some (zI 1), some (zI (i : Int))]) dX5_readText_39 rfl rfl ?_
        refine zA_iincB (ls' := [some (zR 8), some (zI 1), some (zI ((i : Int) + 1))]) dX5_readText_40 rfl rfl ⟨by omega, by omega⟩ rfl ?_
        refine zA_goto (tgt := 16) dX5_readText_43 rfl ?_
        exact zAb_mono (ih (txQ x L S) (i + 1) μ2 (by omega) (by omega) g9 (((fR_u8 (by decide) (fR.refl _)).trans g2).ct hT) (by rw [txQ_at S r1.1]; exact r1.2) (w2 rfl) hN.1) (fun b ξ h => by simp only [txR]; rw [if_neg h32, if_pos r1.1]; exact h)
theorem c_X2_clear9 (d : Nat) (μ : zM)  : zMet (d + 1) 0 yX2_clear cX2_clear 1 none TF μ [zR 9] (zPv (fun ν => (zup (zup (zup (zup (zup (zup μ 9 6 0) 9 7 0) 9 8 0) 9 9 0) 9 10 0) 9 11 0) = ν)) := by
  refine zMv_of RX2 rfl (by decide) rfl (ls := [some (zR 9)]) rfl (fun hok => ?_)
  refine zA_aload_n dX2_clear_0 rfl ?_
  refine zA_iconst dX2_clear_1 rfl ?_
  refine zA_putI wX2_30 t_9 dX2_clear_2 ?_
  refine zA_aload_n dX2_clear_5 rfl ?_
  refine zA_iconst dX2_clear_6 rfl ?_
  refine zA_putI wX2_34 t_9 dX2_clear_7 ?_
  refine zA_aload_n dX2_clear_10 rfl ?_
  refine zA_iconst dX2_clear_11 rfl ?_
  refine zA_putI wX2_37 t_9 dX2_clear_12 ?_
  refine zA_aload_n dX2_clear_15 rfl ?_
  refine zA_iconst dX2_clear_16 rfl ?_
  refine zA_putI wX2_40 t_9 dX2_clear_17 ?_
  refine zA_aload_n dX2_clear_20 rfl ?_
  refine zA_iconst dX2_clear_21 rfl ?_
  refine zA_putI wX2_43 t_9 dX2_clear_22 ?_
  refine zA_aload_n dX2_clear_25 rfl ?_
  refine zA_iconst dX2_clear_26 rfl ?_
  refine zA_putI wX2_46 t_9 dX2_clear_27 ?_
  exact zA_rv dX2_clear_30 rfl
def tx0 : txT := (0, 0, 0, 0, 0, 0, 0, (fun _ => 0), (fun _ => 0), (fun _ => 0))
theorem tx0_W (L : Nat) : txW L tx0 := ⟨Nat.zero_le _, by decide, Or.inl rfl, fun h => absurd h (by decide), by decide, by decide, by decide, fun a ha => absurd ha (Nat.not_lt_zero _), fun k hk => absurd hk (Nat.not_lt_zero _)⟩
theorem c_X5_readText (d : Nat) (μ : zM) (x : Nat → Int) (L : Nat) (hT : cT μ x L) : zMet (d + 7) 0 yX5_readText cX5_readText 3 (some .boolean) TF μ [zR 8] (zPb (fun b ξ => fR μ ξ ∧ (b = true → (txR x L (L + 1) tx0).1.1 = 0 ∧ cS ξ (txR x L (L + 1) tx0).2) ∧ (b = false → (txR x L (L + 1) tx0).1.1 ≠ 0 ∧ ξ 8 3 = (txR x L (L + 1) tx0).1.1 ∧ ξ 8 4 = (txR x L (L + 1) tx0).1.2))) := by
  have hL := hT.2.1
  refine zMb_of RX5 rfl (by decide) rfl (ls := [some (zR 8), none, none]) rfl (fun hok => ?_)
  refine zA_aload_n dX5_readText_0 rfl ?_
  refine zA_getR fX5_12 t_8 rfl dX5_readText_1 ?_
  refine zA_cVv (st := []) kX5_30 t_9 rfl rfl (c_X2_clear9 (d + 5) μ) rfl rfl rfl dX5_readText_4 (zfit0 (by omega) rfl) (fun μ1 q1 => ?_)
  subst q1
  refine zA_aload_n dX5_readText_7 rfl ?_
  refine zA_iconst dX5_readText_8 rfl ?_
  refine zA_putI wX5_33 t_8 dX5_readText_9 ?_
  refine zA_iconst dX5_readText_12 rfl ?_
  refine zA_istore_n (ls' := [some (zR 8), some (zI 1), none]) dX5_readText_13 rfl rfl ?_
  refine zA_iconst dX5_readText_14 rfl ?_
  refine zA_istore_n (ls' := [some (zR 8), some (zI 1), some (zI 0)]) dX5_readText_15 rfl rfl ?_
  have hF : fR μ (zup (zup (zup (zup (zup (zup (zup μ 9 6 0) 9 7 0) 9 8 0) 9 9 0) 9 10 0) 9 11 0) 8 5 0) := fR_u8 (by decide) (fR_up (by decide) (fR_up (by decide) (fR_up (by decide) (fR_up (by decide) (fR_up (by decide) (fR_up (by decide) (fR.refl _)))))))
  exact l_X5_readText d μ x L (L + 1) tx0 0 _ (by show L - 0 < L + 1; omega) (by show 0 + (L - 0) ≤ 240; omega) hF (hF.ct hT) rfl ⟨rfl, rfl, rfl, rfl, rfl, rfl, fun i hi => by have := hi.1; omega, fun k hk => absurd hk (Nat.not_lt_zero _)⟩ (tx0_W L)
theorem c_X5_dropText (d : Nat) (μ : zM)  : zMet (d + 1) 0 yX5_dropText cX5_dropText 1 none TF μ [zR 8] (zPv (fun ν => zup μ 8 2 0 = ν)) := by
  refine zMv_of RX5 rfl (by decide) rfl (ls := [some (zR 8)]) rfl (fun hok => ?_)
  refine zA_aload_n dX5_dropText_0 rfl ?_
  refine zA_iconst dX5_dropText_1 rfl ?_
  refine zA_putI wX5_26 t_8 dX5_dropText_2 ?_
  exact zA_rv dX5_dropText_5 rfl
theorem zcp_in {μ : zM} {a sp b dp n i : Nat} (h1 : dp ≤ i) (h2 : i < dp + n) : zcp μ a sp b dp n b i = μ a (sp + (i - dp)) := if_pos ⟨rfl, h1, h2⟩
theorem zcp_k {μ : zM} {a sp b dp n k : Nat} (h : k ≠ b) : zcp μ a sp b dp n k = μ k := by
  funext i
  exact if_neg (fun q => h q.1)
theorem c_X2_become9 (d : Nat) (μ : zM)  : zMet (d + 2) 0 yX2_become cX2_become 2 none TF μ [zR 1, zR 9] (zPv (fun ν => (∀ i, i < 30 → ν 2 i = μ 10 i) ∧ (∀ i, i < 10 → ν 3 i = μ 11 i ∧ ν 4 i = μ 12 i) ∧ (ν 1 6 = μ 9 6 ∧ ν 1 7 = μ 9 7 ∧ ν 1 8 = μ 9 8 ∧ ν 1 9 = μ 9 9 ∧ ν 1 10 = μ 9 10 ∧ ν 1 11 = μ 9 11) ∧ (∀ k, k ≠ 1 → k ≠ 2 → k ≠ 3 → k ≠ 4 → ν k = μ k))) := by
  refine zMv_of RX2 rfl (by decide) rfl (ls := [some (zR 1), some (zR 9)]) rfl (fun hok => ?_)
  refine zA_aload_n dX2_become_0 rfl ?_
  refine zA_getR fX2_9 t_9 rfl dX2_become_1 ?_
  refine zA_aload_n dX2_become_4 rfl ?_
  refine zA_getR fX2_9 t_1 rfl dX2_become_5 ?_
  refine zA_cNv (st := []) kX2_49 (c_X8_copyParts d 10 2 μ t_10 t_2) rfl rfl rfl dX2_become_8 (zfit0 (by omega) rfl) (fun μ1 q1 => ?_)
  subst q1
  refine zA_aload_n dX2_become_11 rfl ?_
  refine zA_getR fX2_15 t_9 rfl dX2_become_12 ?_
  refine zA_iconst dX2_become_15 rfl ?_
  refine zA_aload_n dX2_become_16 rfl ?_
  refine zA_getR fX2_15 t_1 rfl dX2_become_17 ?_
  refine zA_iconst dX2_become_20 rfl ?_
  refine zA_bipush dX2_become_21 rfl ?_
  refine zA_copy TF_len kX2_53 kac_nat kac_st kac_in t_11 t_3 (by omega) (by omega) (by omega) (by omega) (by omega) dX2_become_23 (by show 1 ≤ d + 2; omega) (by show _ ≤ 100 * (d + 2); simp only [zcat]; exact Nat.le_trans (by decide : _ ≤ 100) (by omega)) ?_
  refine zA_aload_n dX2_become_26 rfl ?_
  refine zA_getR fX2_18 t_9 rfl dX2_become_27 ?_
  refine zA_iconst dX2_become_30 rfl ?_
  refine zA_aload_n dX2_become_31 rfl ?_
  refine zA_getR fX2_18 t_1 rfl dX2_become_32 ?_
  refine zA_iconst dX2_become_35 rfl ?_
  refine zA_bipush dX2_become_36 rfl ?_
  refine zA_copy TF_len kX2_53 kac_nat kac_st kac_in t_12 t_4 (by omega) (by omega) (by omega) (by omega) (by omega) dX2_become_38 (by show 1 ≤ d + 2; omega) (by show _ ≤ 100 * (d + 2); simp only [zcat]; exact Nat.le_trans (by decide : _ ≤ 100) (by omega)) ?_
  refine zA_aload_n dX2_become_41 rfl ?_
  refine zA_aload_n dX2_become_42 rfl ?_
  refine zA_getE (w := μ 9 6) fX2_30 t_9 dX2_become_43 rfl ?_
  refine zA_putI wX2_30 t_1 dX2_become_46 ?_
  refine zA_aload_n dX2_become_49 rfl ?_
  refine zA_aload_n dX2_become_50 rfl ?_
  refine zA_getE (w := μ 9 7) fX2_34 t_9 dX2_become_51 rfl ?_
  refine zA_putI wX2_34 t_1 dX2_become_54 ?_
  refine zA_aload_n dX2_become_57 rfl ?_
  refine zA_aload_n dX2_become_58 rfl ?_
  refine zA_getE (w := μ 9 8) fX2_37 t_9 dX2_become_59 rfl ?_
  refine zA_putI wX2_37 t_1 dX2_become_62 ?_
  refine zA_aload_n dX2_become_65 rfl ?_
  refine zA_aload_n dX2_become_66 rfl ?_
  refine zA_getE (w := μ 9 9) fX2_40 t_9 dX2_become_67 rfl ?_
  refine zA_putI wX2_40 t_1 dX2_become_70 ?_
  refine zA_aload_n dX2_become_73 rfl ?_
  refine zA_aload_n dX2_become_74 rfl ?_
  refine zA_getE (w := μ 9 10) fX2_43 t_9 dX2_become_75 rfl ?_
  refine zA_putI wX2_43 t_1 dX2_become_78 ?_
  refine zA_aload_n dX2_become_81 rfl ?_
  refine zA_aload_n dX2_become_82 rfl ?_
  refine zA_getE (w := μ 9 11) fX2_46 t_9 dX2_become_83 rfl ?_
  refine zA_putI wX2_46 t_1 dX2_become_86 ?_
  exact zA_rv dX2_become_89 ⟨fun i hi => (by show zcp (zcp (zcp μ 10 0 2 0 30) 11 0 3 0 10) 12 0 4 0 10 2 i = _; rw [zcp_k (by decide), zcp_k (by decide), zcp_in (Nat.zero_le _) (by omega), Nat.zero_add, Nat.sub_zero]), fun i hi => ⟨by show zcp (zcp (zcp μ 10 0 2 0 30) 11 0 3 0 10) 12 0 4 0 10 3 i = _; rw [zcp_k (by decide), zcp_in (Nat.zero_le _) (by omega), zcp_k (by decide), Nat.zero_add, Nat.sub_zero], by show zcp (zcp (zcp μ 10 0 2 0 30) 11 0 3 0 10) 12 0 4 0 10 4 i = _; rw [zcp_in (Nat.zero_le _) (by omega), zcp_k (by decide), zcp_k (by decide), Nat.zero_add, Nat.sub_zero]⟩, ⟨rfl, rfl, rfl, rfl, rfl, rfl⟩, fun k h1 h2 h3 h4 => by funext i; rw [zup_k h1, zup_k h1, zup_k h1, zup_k h1, zup_k h1, zup_k h1, zcp_k h4, zcp_k h3, zcp_k h2]⟩
def hNew (μ ν : zM) : txT → Prop
  | (_, n, u, m, g, dg, t, ow, fi, se) => (ν 1 6 = n ∧ ν 1 7 = u ∧ ν 1 8 = m ∧ ν 1 10 = dg ∧ ν 1 11 = t) ∧ (∀ i, lv n m i → ν 2 i = ow i ∧ ν 53 i = ow i) ∧ (∀ k, k < t → ν 3 k = fi k ∧ ν 4 k = se k) ∧ (ν 52 1 = g ∧ ν 52 2 = 0 ∧ ν 52 3 = 0) ∧ (ν 96 3 = 0 ∧ ν 99 3 = 0 ∧ ν 54 2 = 0 ∧ ν 0 13 = 0) ∧ (ν 96 2 = μ 96 2 ∧ ν 99 2 = μ 99 2 ∧ ν 54 1 = μ 54 1 ∧ ν 0 14 = μ 0 14 ∧ ν 0 15 = μ 0 15) ∧ (∀ k, 110 ≤ k → ν k = μ k) ∧ ν 8 = μ 8
theorem c_X8_moveIn (d : Nat) (μ : zM) (a n m t : Nat) (u g dg : Int) (ow fi se : Nat → Int) (hD : cD μ n u m g dg t ow fi se) (hn5 : n ≤ 5) (hm6 : m ≤ 6) (ht : t ≤ 10) : zMet (d + 3) 0 yX8_moveIn cX8_moveIn 2 none TF μ [zR 0, zR 9] (zPv (fun ν => hNew μ ν (a, n, u, m, g, dg, t, ow, fi, se))) := by
  refine zMv_of RX8 rfl (by decide) rfl (ls := [some (zR 0), some (zR 9)]) rfl (fun hok => ?_)
  refine zA_aload_n dX8_moveIn_0 rfl ?_
  refine zA_getR fX8_12 t_0 rfl dX8_moveIn_1 ?_
  refine zA_aload_n dX8_moveIn_4 rfl ?_
  refine zA_cVv (st := []) kX8_288 t_1 rfl rfl (c_X2_become9 d μ) rfl rfl rfl dX8_moveIn_5 (zfit0 (by omega) rfl) (fun μ1 q1 => ?_)
  obtain ⟨p1, p2, ⟨p3, p4, p5, p6, p7, p8⟩, p9⟩ := q1
  refine zA_aload_n dX8_moveIn_8 rfl ?_
  refine zA_getR fX8_12 t_0 rfl dX8_moveIn_9 ?_
  refine zA_getR fX8_152 t_1 rfl dX8_moveIn_12 ?_
  refine zA_aload_n dX8_moveIn_15 rfl ?_
  refine zA_getR fX8_47 t_0 rfl dX8_moveIn_16 ?_
  refine zA_getR fX8_144 t_52 rfl dX8_moveIn_19 ?_
  refine zA_cSv (st := []) kX8_172 (c_X8_copyParts (d + 1) 2 53 μ1 t_2 t_53) rfl rfl rfl dX8_moveIn_22 (zfit0 (by omega) rfl) (fun μ2 q2 => ?_)
  subst q2
  refine zA_aload_n dX8_moveIn_25 rfl ?_
  refine zA_getR fX8_47 t_0 rfl dX8_moveIn_26 ?_
  refine zA_aload_n dX8_moveIn_29 rfl ?_
  refine zA_getR fX8_12 t_0 rfl dX8_moveIn_30 ?_
  refine zA_getI fX8_290 t_1 dX8_moveIn_33 ?_
  refine zA_putI wX8_126 t_52 dX8_moveIn_36 ?_
  refine zA_aload_n dX8_moveIn_39 rfl ?_
  refine zA_getR fX8_47 t_0 rfl dX8_moveIn_40 ?_
  refine zA_iconst dX8_moveIn_43 rfl ?_
  refine zA_putI wX8_132 t_52 dX8_moveIn_44 ?_
  refine zA_aload_n dX8_moveIn_47 rfl ?_
  refine zA_getR fX8_47 t_0 rfl dX8_moveIn_48 ?_
  refine zA_iconst dX8_moveIn_51 rfl ?_
  refine zA_putI wX8_135 t_52 dX8_moveIn_52 ?_
  refine zA_aload_n dX8_moveIn_55 rfl ?_
  refine zA_getR fX8_63 t_0 rfl dX8_moveIn_56 ?_
  refine zA_iconst dX8_moveIn_59 rfl ?_
  refine zA_putI wX8_136 t_96 dX8_moveIn_60 ?_
  refine zA_aload_n dX8_moveIn_63 rfl ?_
  refine zA_getR fX8_67 t_0 rfl dX8_moveIn_64 ?_
  refine zA_iconst dX8_moveIn_67 rfl ?_
  refine zA_putI wX8_136 t_99 dX8_moveIn_68 ?_
  refine zA_aload_n dX8_moveIn_71 rfl ?_
  refine zA_getR fX8_54 t_0 rfl dX8_moveIn_72 ?_
  refine zA_iconst dX8_moveIn_75 rfl ?_
  refine zA_putI wX8_139 t_54 dX8_moveIn_76 ?_
  refine zA_aload_n dX8_moveIn_79 rfl ?_
  refine zA_iconst dX8_moveIn_80 rfl ?_
  refine zA_putI wX8_279 t_0 dX8_moveIn_81 ?_
  exact zA_rv dX8_moveIn_84 ⟨⟨by show μ1 1 6 = _; rw [p3]; exact hD.1, by show μ1 1 7 = _; rw [p4]; exact hD.2.1, by show μ1 1 8 = _; rw [p5]; exact hD.2.2.1, by show μ1 1 10 = _; rw [p7]; exact hD.2.2.2.2.1, by show μ1 1 11 = _; rw [p8]; exact hD.2.2.2.2.2.1⟩, fun i hi => ⟨by show zcp μ1 2 0 53 0 30 2 i = _; rw [zcp_k (by decide), p1 i (by omega)]; exact hD.2.2.2.2.2.2.1 i hi, by show zcp μ1 2 0 53 0 30 53 i = _; rw [zcp_in (Nat.zero_le _) (by omega), Nat.zero_add, Nat.sub_zero, p1 i (by omega)]; exact hD.2.2.2.2.2.2.1 i hi⟩, fun k hk => by show μ1 3 k = _ ∧ μ1 4 k = _; rw [(p2 k (by omega)).1, (p2 k (by omega)).2]; exact hD.2.2.2.2.2.2.2 k hk, ⟨by show μ1 1 9 = _; rw [p6]; exact hD.2.2.2.1, rfl, rfl⟩, ⟨rfl, rfl, rfl, rfl⟩, ⟨(by show μ1 96 2 = μ 96 2; rw [p9 96 (by decide) (by decide) (by decide) (by decide)]), (by show μ1 99 2 = μ 99 2; rw [p9 99 (by decide) (by decide) (by decide) (by decide)]), (by show μ1 54 1 = μ 54 1; rw [p9 54 (by decide) (by decide) (by decide) (by decide)]), (by show μ1 0 14 = μ 0 14; rw [p9 0 (by decide) (by decide) (by decide) (by decide)]), (by show μ1 0 15 = μ 0 15; rw [p9 0 (by decide) (by decide) (by decide) (by decide)])⟩, fun k hk => by funext i; rw [zup_k (by omega), zup_k (by omega), zup_k (by omega), zup_k (by omega), zup_k (by omega), zup_k (by omega), zup_k (by omega), zcp_k (by omega), p9 k (by omega) (by omega) (by omega) (by omega)], by show μ1 8 = μ 8; exact p9 8 (by decide) (by decide) (by decide) (by decide)⟩
theorem c_X8_moveInS (d : Nat) (μ : zM) (L : Nat) : ∀ S : txT, cS μ S → txW L S → zMet (d + 3) 0 yX8_moveIn cX8_moveIn 2 none TF μ [zR 0, zR 9] (zPv (fun ν => hNew μ ν S))
  | (a, n, u, m, g, dg, t, ow, fi, se), hD, hW => c_X8_moveIn d μ a n m t u g dg ow fi se hD hW.2.1 hW.2.2.2.2.1 hW.2.2.2.2.2.1
theorem hNew.m {μ ν : zM} : ∀ {S : txT}, hNew μ ν S → ν 1 8 = (S.2.2.2.1 : Nat)
  | (_, _, _, _, _, _, _, _, _, _), h => h.1.2.2.1
abbrev oR (o : Int × Nat) : Prop := 0 ≤ o.1 ∧ o.1 ≤ 4
theorem txB_rg {o : Int × Nat} {k : Nat → Int × Nat} (h : oR o) (h' : ∀ b, oR (k b)) : oR (txB o k) := by
  unfold txB
  split
  · exact h' _
  · exact h
theorem txXs_rg {x : Nat → Int} {L a : Nat} : ∀ k, oR (txXs x L a k)
  | 0 => ⟨Int.le_refl _, by show (0 : Int) ≤ 4; decide⟩
  | k + 1 => by
    simp only [txXs]
    refine txB_rg (txXs_rg k) (fun b => txB_rg ?_ (fun c => txN_rg))
    split
    · exact ⟨Int.le_refl _, by show (0 : Int) ≤ 4; decide⟩
    · exact txG_rg
theorem txTch_rg {x : Nat → Int} {L m a : Nat} : oR (txTch x L m a) := by
  unfold txTch
  refine txB_rg txN_rg (fun b => txB_rg txN_rg (fun c => ?_))
  split
  · exact ⟨by show (0 : Int) ≤ 4; decide, Int.le_refl _⟩
  · exact ⟨Int.le_refl _, by show (0 : Int) ≤ 4; decide⟩
theorem txTs_rg {x : Nat → Int} {L m a : Nat} : ∀ k, oR (txTs x L m a k)
  | 0 => ⟨Int.le_refl _, by show (0 : Int) ≤ 4; decide⟩
  | k + 1 => by
    simp only [txTs]
    exact txB_rg (txTs_rg k) (fun b => txTch_rg)
theorem txO_rg {x : Nat → Int} {L : Nat} : ∀ S : txT, oR (txO x L S)
  | (a, n, u, m, g, dg, t, ow, fi, se) => by
    have h1 : ∀ w : Nat, oR ((1 : Int), w) := fun w => ⟨by show (0 : Int) ≤ 1; decide, by show (1 : Int) ≤ 4; decide⟩
    have h3 : ∀ w : Nat, oR ((3 : Int), w) := fun w => ⟨by show (0 : Int) ≤ 3; decide, by show (3 : Int) ≤ 4; decide⟩
    have h4 : ∀ w : Nat, oR ((4 : Int), w) := fun w => ⟨by show (0 : Int) ≤ 4; decide, Int.le_refl _⟩
    simp only [txO]
    split
    · split
      · exact h3 _
      · exact txB_rg txN_rg (fun b => txB_rg txN_rg (fun c => txG_rg))
    · split
      · exact h1 _
      · split
        · split
          · exact h3 _
          · refine txB_rg (txXs_rg _) (fun b => ?_)
            split
            · exact txG_rg
            · exact h4 _
        · split
          · refine txB_rg txN_rg (fun b => ?_)
            split
            · exact h4 _
            · exact txG_rg
          · split
            · split
              · exact h3 _
              · exact txB_rg (txTs_rg _) (fun b => txG_rg)
            · exact h1 _
theorem txR_rg {x : Nat → Int} {L : Nat} : ∀ k S, oR (txR x L k S).1
  | 0, S => ⟨Int.le_refl _, by show (0 : Int) ≤ 4; decide⟩
  | k + 1, S => by
    simp only [txR]
    split
    · exact ⟨Int.le_refl _, by show (0 : Int) ≤ 4; decide⟩
    · split
      · exact txR_rg k _
      · exact txO_rg S
theorem c_X8_house (d : Nat) (μ : zM) (x : Nat → Int) (L : Nat) (hT : cT μ x L) : zMet (d + 8) 0 yX8_house cX8_house 2 (some .int) TF μ [zR 0] (zPi (fun v ν => ((txR x L (L + 1) tx0).1.1 ≠ 0 ∧ v = -10 - (txR x L (L + 1) tx0).1.1 ∧ ν 0 15 = (txR x L (L + 1) tx0).1.2 ∧ (∀ k, k ≠ 0 → k ≠ 8 → k ≠ 9 → k ≠ 10 → k ≠ 11 → k ≠ 12 → ν k = μ k) ∧ (∀ i, i ≠ 15 → ν 0 i = μ 0 i) ∧ ν 8 2 = 0) ∨ ((txR x L (L + 1) tx0).1.1 = 0 ∧ v = ((txR x L (L + 1) tx0).2.2.2.2.1 : Nat) ∧ ∃ ξ, ξ 0 15 = -1 ∧ ξ 8 2 = 0 ∧ (∀ k, k ≠ 0 → k ≠ 8 → k ≠ 9 → k ≠ 10 → k ≠ 11 → k ≠ 12 → ξ k = μ k) ∧ (∀ i, i ≠ 15 → ξ 0 i = μ 0 i) ∧ hNew ξ ν (txR x L (L + 1) tx0).2))) := by
  refine zMi_of RX8 rfl (by decide) rfl (ls := [some (zR 0), none]) rfl (fun hok => ?_)
  refine zA_aload_n dX8_house_0 rfl ?_
  refine zA_getR fX8_19 t_0 rfl dX8_house_1 ?_
  refine zA_cVb (st := []) kX8_93 t_8 rfl rfl (c_X5_readText d μ x L hT) rfl rfl rfl dX8_house_4 (zfit0 (by omega) rfl) (fun v1 μ1 q1 => ?_)
  obtain ⟨g1, y1, n1⟩ := q1
  refine zA_istore_n (ls' := [some (zR 0), some (zI (zb v1))]) dX8_house_7 rfl rfl ?_
  refine zA_aload_n dX8_house_8 rfl ?_
  refine zA_getR fX8_19 t_0 rfl dX8_house_9 ?_
  refine zA_cVv (st := []) kX8_97 t_8 rfl rfl (c_X5_dropText (d + 6) μ1) rfl rfl rfl dX8_house_12 (zfit0 (by omega) rfl) (fun μ2 q2 => ?_)
  subst q2
  refine zA_iload_n dX8_house_15 rfl ?_
  refine zA_ifb_ne (tgt := 41) dX8_house_16 rfl (fun h16 => ?_) (fun h16 => ?_)
  · refine zA_aload_n dX8_house_41 rfl ?_
    refine zA_iconst dX8_house_42 rfl ?_
    refine zA_putI wX8_84 t_0 dX8_house_43 ?_
    have hS2 : cS (zup (zup μ1 8 2 0) 0 15 (-1)) (txR x L (L + 1) tx0).2 := by
      have h0 := (y1 h16).2
      generalize (txR x L (L + 1) tx0).2 = S at h0
      obtain ⟨a, n, u, m, g, dg, t, ow, fi, se⟩ := S
      exact h0
    refine zA_aload_n dX8_house_46 rfl ?_
    refine zA_aload_n dX8_house_47 rfl ?_
    refine zA_getR fX8_19 t_0 rfl dX8_house_48 ?_
    refine zA_getR fX8_104 t_8 rfl dX8_house_51 ?_
    refine zA_cVv (st := []) kX8_107 t_0 rfl rfl (c_X8_moveInS (d + 4) (zup (zup μ1 8 2 0) 0 15 (-1)) L (txR x L (L + 1) tx0).2 hS2 (txR_W _ _ (tx0_W L))) rfl rfl rfl dX8_house_54 (zfit0 (by omega) rfl) (fun μ3 q3 => ?_)
    refine zA_aload_n dX8_house_57 rfl ?_
    refine zA_getR fX8_12 t_0 rfl dX8_house_58 ?_
    refine zA_getE (w := ((txR x L (L + 1) tx0).2.2.2.2.1 : Nat)) fX8_111 t_1 dX8_house_61 (hNew.m q3) ?_
    exact zA_ri dX8_house_64 (Or.inr ⟨(y1 h16).1, rfl, _, rfl, rfl, fun k h1 h2 h3 h4 h5 h6 => by funext i; rw [zup_k h1, zup_k h2, g1.1 k h2 h3 h4 h5 h6], fun i hi => by rw [zup_n (fun q => hi q.2), zup_k (by decide), g1.1 0 (by decide) (by decide) (by decide) (by decide) (by decide)], q3⟩)
  · have hrg := txR_rg (x := x) (L := L) (L + 1) tx0
    refine zA_aload_n dX8_house_19 rfl ?_
    refine zA_aload_n dX8_house_20 rfl ?_
    refine zA_getR fX8_19 t_0 rfl dX8_house_21 ?_
    refine zA_getE (w := ((txR x L (L + 1) tx0).1.2 : Nat)) fX8_100 t_8 dX8_house_24 (by rw [zup_n (by decide)]; exact (n1 h16).2.2) ?_
    refine zA_putI wX8_84 t_0 dX8_house_27 ?_
    refine zA_bipush dX8_house_30 rfl ?_
    refine zA_aload_n dX8_house_32 rfl ?_
    refine zA_getR fX8_19 t_0 rfl dX8_house_33 ?_
    refine zA_getE (w := (txR x L (L + 1) tx0).1.1) fX8_101 t_8 dX8_house_36 (by rw [zup_k (by decide), zup_n (by decide)]; exact (n1 h16).2.1) ?_
    refine zA_isubB dX8_house_39 ⟨by omega, by omega⟩ ?_
    exact zA_ri dX8_house_40 (Or.inl ⟨(n1 h16).1, rfl, rfl, fun k h1 h2 h3 h4 h5 h6 => by funext i; rw [zup_k h1, zup_k h2, g1.1 k h2 h3 h4 h5 h6], fun i hi => by rw [zup_n (fun q => hi q.2), zup_k (by decide), g1.1 0 (by decide) (by decide) (by decide) (by decide) (by decide)], rfl⟩)
