/-! ===== the model reads: letters, numbers, signs ===== -/
/-- the model's text: L letters x -/
def mT (μ : zM) (x : Nat → Int) (L : Nat) : Prop := μ 110 11 = L ∧ L ≤ 240 ∧ ∀ i, i < L → μ 115 i = x i ∧ 0 ≤ x i ∧ x i ≤ 255
def h8 (μ ν : zM) : Prop := (∀ k, k ≠ 110 → ν k = μ k) ∧ ∀ i, (i < 12 ∨ 15 < i) → ν 110 i = μ 110 i
def hR (μ ν : zM) : Prop := (∀ k, k ≠ 110 → k ≠ 116 → k ≠ 117 → k ≠ 118 → ν k = μ k) ∧ ∀ i, (i < 12 ∨ i = 19 ∨ 22 < i) → ν 110 i = μ 110 i
def mO (μ ν : zM) (v : Int) (o : Int × Nat) : Prop := v = o.1 ∧ (o.1 = 0 → ν 110 13 = o.2 ∧ ν 110 12 = μ 110 12) ∧ (o.1 ≠ 0 → ν 110 12 = o.2)
theorem h8.refl (μ : zM) : h8 μ μ := ⟨fun _ _ => rfl, fun _ _ => rfl⟩
theorem h8.trans {μ ν ξ : zM} (h : h8 μ ν) (h' : h8 ν ξ) : h8 μ ξ := ⟨fun k hk => by rw [h'.1 k hk, h.1 k hk], fun i hi => by rw [h'.2 i hi, h.2 i hi]⟩
theorem h8_up {μ ν : zM} {i : Nat} {v : Int} (hi : 12 ≤ i ∧ i ≤ 15) (h : h8 μ ν) : h8 μ (zup ν 110 i v) := ⟨fun k hk => by funext j; rw [zup_k hk, h.1 k hk], fun j hj => by rw [zup_n (by omega)]; exact h.2 j hj⟩
theorem h8.hR {μ ν : zM} (h : h8 μ ν) : hR μ ν := ⟨fun k h1 _ _ _ => h.1 k h1, fun i hi => h.2 i (by omega)⟩
theorem hR.refl (μ : zM) : hR μ μ := ⟨fun _ _ _ _ _ => rfl, fun _ _ => rfl⟩
theorem hR.trans {μ ν ξ : zM} (h : hR μ ν) (h' : hR ν ξ) : hR μ ξ := ⟨fun k h1 h2 h3 h4 => by rw [h'.1 k h1 h2 h3 h4, h.1 k h1 h2 h3 h4], fun i hi => by rw [h'.2 i hi, h.2 i hi]⟩
theorem hR_up {μ ν : zM} {k i : Nat} {v : Int} (hk : k = 116 ∨ k = 117 ∨ k = 118) (h : hR μ ν) : hR μ (zup ν k i v) := ⟨fun j h1 h2 h3 h4 => by funext q; rw [zup_k (by omega), h.1 j h1 h2 h3 h4], fun j hj => by rw [zup_k (by omega)]; exact h.2 j hj⟩
theorem hR_u {μ ν : zM} {i : Nat} {v : Int} (hi : 12 ≤ i ∧ i ≤ 22 ∧ i ≠ 19) (h : hR μ ν) : hR μ (zup ν 110 i v) := ⟨fun j h1 h2 h3 h4 => by funext q; rw [zup_k h1, h.1 j h1 h2 h3 h4], fun j hj => by rw [zup_n (by omega)]; exact h.2 j hj⟩
theorem hR.mt {μ ν : zM} {x : Nat → Int} {L : Nat} (h' : hR μ ν) (h : mT μ x L) : mT ν x L := ⟨by rw [h'.2 11 (by decide)]; exact h.1, h.2.1, by rw [h'.1 115 (by decide) (by decide) (by decide) (by decide)]; exact h.2.2⟩
theorem h8.mt {μ ν : zM} {x : Nat → Int} {L : Nat} (h' : h8 μ ν) (h : mT μ x L) : mT ν x L := h'.hR.mt h
theorem h8.u {μ : zM} {i : Nat} {v : Int} (hi : 12 ≤ i ∧ i ≤ 15) : h8 μ (zup μ 110 i v) := h8_up hi (h8.refl _)
theorem mO_s {μ ν : zM} {v : Int} {o : Int × Nat} {w : Nat} (ho : o = (0, w)) (hv : v = 0) (h : ν 110 13 = w) (h' : ν 110 12 = μ 110 12) : mO μ ν v o := by subst ho; exact ⟨hv, fun _ => ⟨h, h'⟩, fun e => absurd rfl e⟩
theorem mO_g {μ ν : zM} {v : Int} {o : Int × Nat} {f : Int} {w : Nat} (ho : o = (f, w)) (h0 : f ≠ 0) (hv : v = f) (h : ν 110 12 = w) : mO μ ν v o := by subst ho; exact ⟨hv, fun e => absurd e h0, fun _ => h⟩
theorem mO_e {μ ν : zM} {v : Int} {o o' : Int × Nat} (h : o = o') (h' : mO μ ν v o') : mO μ ν v o := by subst h; exact h'
theorem mO_f {μ μ' ν : zM} {v : Int} {o o' : Int × Nat} (h : o = o') (h0 : o'.1 ≠ 0) (h' : mO μ' ν v o') : mO μ ν v o := by subst h; exact ⟨h'.1, fun e => absurd e h0, h'.2.2⟩
theorem mO_b {μ μ' ν : zM} {v : Int} {o o' : Int × Nat} (h : o = o') (hb : μ' 110 12 = μ 110 12) (h' : mO μ' ν v o') : mO μ ν v o := by subst h; exact ⟨h'.1, fun e => ⟨(h'.2.1 e).1, by rw [(h'.2.1 e).2, hb]⟩, h'.2.2⟩
theorem c_X9_fails (d : Nat) (f p : Int) (μ : zM)  : zMet (d + 1) 0 yX9_fails cX9_fails 3 (some .int) TF μ [zR 110, zI f, zI p] (zPi (fun v ν => f = v ∧ zup μ 110 12 p = ν)) := by
  refine zMi_of RX9 rfl (by decide) rfl (ls := [some (zR 110), some (zI f), some (zI p)]) rfl (fun hok => ?_)
  refine zA_aload_n dX9_fails_0 rfl ?_
  refine zA_iload_n dX9_fails_1 rfl ?_
  refine zA_putI wX9_25 t_110 dX9_fails_2 ?_
  refine zA_iload_n dX9_fails_5 rfl ?_
  exact zA_ri dX9_fails_6 ⟨rfl, rfl⟩
theorem l_X9_here (d : Nat) (x : Nat → Int) (L : Nat) : ∀ (t0 a : Nat), L - a = t0 → ∀ μ : zM, a ≤ L → mT μ x L → μ 110 13 = a → zA RX9 cX9_here 1 (zRm (d + 1) 0) zN0 TF 0 μ 0 [some (zR 110)] [] (zPi (fun v ν => v = txH x L a ∧ zup μ 110 13 (txS x L a : Int) = ν)) := by
  intro t0
  induction t0 using Nat.strongRecOn with
  | ind t0 ih =>
    intro a ha μ haL hT h5
    have hL := hT.2.1
    refine zA_aload_n dX9_here_0 rfl ?_
    refine zA_getE (w := (a : Int)) fX9_94 t_110 dX9_here_1 h5 ?_
    refine zA_aload_n dX9_here_4 rfl ?_
    refine zA_getE (w := (L : Int)) fX9_90 t_110 dX9_here_5 hT.1 ?_
    refine zA_icmp_ge (tgt := 38) dX9_here_8 rfl (fun h8a => ?_) (fun h8a => ?_)
    · refine zA_aload_n dX9_here_38 rfl ?_
      refine zA_getE (w := (a : Int)) fX9_94 t_110 dX9_here_39 h5 ?_
      refine zA_aload_n dX9_here_42 rfl ?_
      refine zA_getE (w := (L : Int)) fX9_90 t_110 dX9_here_43 hT.1 ?_
      refine zA_icmp_ge (tgt := 61) dX9_here_46 rfl (fun h46 => ?_) (fun h46 => ?_)
      · refine zA_iconst dX9_here_61 rfl ?_
        exact zA_ri dX9_here_62 ⟨by unfold txH; rw [txS_stop (by omega), if_neg (by omega)], zup_id (by rw [h5, txS_stop (by omega)])⟩
      · refine zA_aload_n dX9_here_49 rfl ?_
        refine zA_getR fX9_22 t_110 rfl dX9_here_50 ?_
        refine zA_aload_n dX9_here_53 rfl ?_
        refine zA_getE (w := (a : Int)) fX9_94 t_110 dX9_here_54 h5 ?_
        refine zA_ialE (w := x a) (j := a) t_115 (by omega) (by omega) dX9_here_57 rfl (hT.2.2 a (by omega)).1 ?_
        refine zA_goto (tgt := 62) dX9_here_58 rfl ?_
        exact zA_ri dX9_here_62 ⟨by unfold txH; rw [txS_stop (by omega), if_pos (by omega)], zup_id (by rw [h5, txS_stop (by omega)])⟩
    · refine zA_aload_n dX9_here_11 rfl ?_
      refine zA_getR fX9_22 t_110 rfl dX9_here_12 ?_
      refine zA_aload_n dX9_here_15 rfl ?_
      refine zA_getE (w := (a : Int)) fX9_94 t_110 dX9_here_16 h5 ?_
      refine zA_ialE (w := x a) (j := a) t_115 (by omega) (by omega) dX9_here_19 rfl (hT.2.2 a (by omega)).1 ?_
      refine zA_bipush dX9_here_20 rfl ?_
      refine zA_icmp_ne (tgt := 38) dX9_here_22 rfl (fun h22 => ?_) (fun h22 => ?_)
      · refine zA_aload_n dX9_here_38 rfl ?_
        refine zA_getE (w := (a : Int)) fX9_94 t_110 dX9_here_39 h5 ?_
        refine zA_aload_n dX9_here_42 rfl ?_
        refine zA_getE (w := (L : Int)) fX9_90 t_110 dX9_here_43 hT.1 ?_
        refine zA_icmp_ge (tgt := 61) dX9_here_46 rfl (fun h46 => ?_) (fun h46 => ?_)
        · refine zA_iconst dX9_here_61 rfl ?_
          exact zA_ri dX9_here_62 ⟨by unfold txH; rw [txS_stop (by omega), if_neg (by omega)], zup_id (by rw [h5, txS_stop (by omega)])⟩
        · refine zA_aload_n dX9_here_49 rfl ?_
          refine zA_getR fX9_22 t_110 rfl dX9_here_50 ?_
          refine zA_aload_n dX9_here_53 rfl ?_
          refine zA_getE (w := (a : Int)) fX9_94 t_110 dX9_here_54 h5 ?_
          refine zA_ialE (w := x a) (j := a) t_115 (by omega) (by omega) dX9_here_57 rfl (hT.2.2 a (by omega)).1 ?_
          refine zA_goto (tgt := 62) dX9_here_58 rfl ?_
          exact zA_ri dX9_here_62 ⟨by unfold txH; rw [txS_stop (by omega), if_pos (by omega)], zup_id (by rw [h5, txS_stop (by omega)])⟩
      · refine zA_aload_n dX9_here_25 rfl ?_
        refine zA_dup dX9_here_26 rfl ?_
        refine zA_getE (w := (a : Int)) fX9_94 t_110 dX9_here_27 h5 ?_
        refine zA_iconst dX9_here_30 rfl ?_
        refine zA_iaddB dX9_here_31 ⟨by omega, by omega⟩ ?_
        refine zA_putI wX9_94 t_110 dX9_here_32 ?_
        refine zA_goto (tgt := 0) dX9_here_35 rfl ?_
        exact zAi_mono (ih _ (by omega) (a + 1) rfl _ (by omega) ((h8.u (by decide)).mt hT) (by rw [zup_s]; rfl)) (fun v ν h => ⟨by rw [h.1]; unfold txH; rw [txS_step (by omega) (by omega)], by rw [← h.2, zup_zup, txS_step (by omega) (by omega)]⟩)
theorem c_X9_here (d : Nat) (μ : zM) (x : Nat → Int) (L a : Nat) (haL : a ≤ L) (hT : mT μ x L) (h5 : μ 110 13 = a) : zMet (d + 1) 0 yX9_here cX9_here 1 (some .int) TF μ [zR 110] (zPi (fun v ν => v = txH x L a ∧ zup μ 110 13 (txS x L a : Int) = ν)) :=
  zMi_of RX9 rfl (by decide) rfl (ls := [some (zR 110)]) rfl (fun _ => l_X9_here d x L _ a rfl μ haL hT h5)
theorem c_X9_sign (d : Nat) (μ : zM) (x : Nat → Int) (L a : Nat) (c : Int) (haL : a ≤ L) (hT : mT μ x L) (h5 : μ 110 13 = a) : zMet (d + 2) 0 yX9_sign cX9_sign 2 (some .int) TF μ [zR 110, zI c] (zPi (fun v ν => h8 μ ν ∧ mO μ ν v (txG x L c a))) := by
  have hL := hT.2.1
  have hsL := @txS_L x L a haL
  refine zMi_of RX9 rfl (by decide) rfl (ls := [some (zR 110), some (zI c)]) rfl (fun hok => ?_)
  refine zA_aload_n dX9_sign_0 rfl ?_
  refine zA_cVi (st := []) kX9_97 t_110 rfl rfl (c_X9_here d μ x L a haL hT h5) rfl rfl rfl dX9_sign_1 (zfit0 (by omega) rfl) (fun v1 μ1 q1 => ?_)
  obtain ⟨rfl, rfl⟩ := q1
  refine zA_iload_n dX9_sign_4 rfl ?_
  refine zA_icmp_eq (tgt := 18) dX9_sign_5 rfl (fun h5a => ?_) (fun h5a => ?_)
  · refine zA_aload_n dX9_sign_18 rfl ?_
    refine zA_dup dX9_sign_19 rfl ?_
    refine zA_getE (w := (txS x L a : Int)) fX9_94 t_110 dX9_sign_20 (by rw [zup_s]) ?_
    refine zA_iconst dX9_sign_23 rfl ?_
    refine zA_iaddB dX9_sign_24 ⟨by omega, by omega⟩ ?_
    refine zA_putI wX9_94 t_110 dX9_sign_25 ?_
    refine zA_iconst dX9_sign_28 rfl ?_
    exact zA_ri dX9_sign_29 ⟨h8_up (by decide) (h8_up (by decide) (h8.refl _)), mO_s (txG_y h5a) rfl (by rw [zup_s]; rfl) rfl⟩
  · refine zA_aload_n dX9_sign_8 rfl ?_
    refine zA_iconst dX9_sign_9 rfl ?_
    refine zA_aload_n dX9_sign_10 rfl ?_
    refine zA_getE (w := (txS x L a : Int)) fX9_94 t_110 dX9_sign_11 (by rw [zup_s]) ?_
    refine zA_cVi (st := []) kX9_105 t_110 rfl rfl (c_X9_fails d (1) ((txS x L a : Int)) (zup μ 110 13 ((txS x L a : Int)))) rfl rfl rfl dX9_sign_14 (zfit0 (by omega) rfl) (fun v2 μ2 q2 => ?_)
    obtain ⟨rfl, rfl⟩ := q2
    exact zA_ri dX9_sign_17 ⟨h8_up (by decide) (h8_up (by decide) (h8.refl _)), mO_g (txG_n h5a) (by decide) rfl rfl⟩
theorem l_X9_takeNumber (d : Nat) (μ : zM) (x : Nat → Int) (L a s0 : Nat) (lo hi : Int) (hs : txS x L a = s0) (hfg : fg (txH x L a)) : ∀ (t0 p : Nat), L - p = t0 → ∀ (N : Int) (ν : zM), p ≤ L → h8 μ ν → mT ν x L → ν 110 13 = p → ν 110 14 = N → ν 110 15 = s0 → ν 110 12 = μ 110 12 → (0 ≤ N ∧ N ≤ 100009) → (p - s0 ≤ 3 → N = txP x s0 (p - s0)) → s0 ≤ p → txE x L p = txE x L s0 → (∀ i, s0 ≤ i → i < p → fg (x i)) → zA RX9 cX9_takeNumber 4 (zRm (d + 2) 0) zN0 TF 0 ν 42 [some (zR 110), some (zI lo), some (zI hi), none] [] (zPi (fun v ν => h8 μ ν ∧ mO μ ν v (txN x L lo hi a) ∧ (v = 0 → ν 110 14 = txV x L a ∧ ν 110 15 = (txS x L a : Int)))) := by
  intro t0
  induction t0 using Nat.strongRecOn with
  | ind t0 ih =>
    intro p hp N ν hpL hf hT h5 h6 h7 h12 hNr hN hsp hE0 hfi
    have hL := hT.2.1
    refine zA_aload_n dX9_takeNumber_42 rfl ?_
    refine zA_getE (w := (p : Int)) fX9_94 t_110 dX9_takeNumber_43 h5 ?_
    refine zA_aload_n dX9_takeNumber_46 rfl ?_
    refine zA_getE (w := (L : Int)) fX9_90 t_110 dX9_takeNumber_47 hT.1 ?_
    refine zA_icmp_ge (tgt := 129) dX9_takeNumber_50 rfl (fun h50 => ?_) (fun h50 => ?_)
    · have hE : txE x L s0 = p := by
        rw [← hE0]
        exact txE_stop (by first | omega | (intro q; have := bf.mpr q.2; simp_all))
      have hV : p - s0 ≤ 3 → N = txV x L a := fun h => by
        unfold txV
        rw [hs, hE, hN h]
      refine zA_aload_n dX9_takeNumber_129 rfl ?_
      refine zA_getE (w := (p : Int)) fX9_94 t_110 dX9_takeNumber_130 h5 ?_
      refine zA_aload_n dX9_takeNumber_133 rfl ?_
      refine zA_getE (w := (s0 : Int)) fX9_109 t_110 dX9_takeNumber_134 h7 ?_
      refine zA_isubB dX9_takeNumber_137 ⟨by omega, by omega⟩ ?_
      refine zA_iconst dX9_takeNumber_138 rfl ?_
      refine zA_icmp_gt (tgt := 157) dX9_takeNumber_139 rfl (fun h139 => ?_) (fun h139 => ?_)
      · refine zA_aload_n dX9_takeNumber_157 rfl ?_
        refine zA_iconst dX9_takeNumber_158 rfl ?_
        refine zA_aload_n dX9_takeNumber_159 rfl ?_
        refine zA_getE (w := (s0 : Int)) fX9_109 t_110 dX9_takeNumber_160 h7 ?_
        refine zA_cVi (st := []) kX9_105 t_110 rfl rfl (c_X9_fails d (2) ((s0 : Int)) ν) rfl rfl rfl dX9_takeNumber_163 (zfit0 (by omega) rfl) (fun v1 μ1 q1 => ?_)
        obtain ⟨rfl, rfl⟩ := q1
        refine zA_goto (tgt := 170) dX9_takeNumber_166 rfl ?_
        exact zA_ri dX9_takeNumber_170 ⟨h8_up (by decide) (hf), mO_g (f := 2) (w := s0) (by rw [txN_2 hfg (by rw [hs, hE]; intro q; have := hV q.1; first | omega | (have := bg.mpr (by omega); simp_all)), hs]) (by decide) rfl rfl, fun e => absurd e (by decide)⟩
      · refine zA_aload_n dX9_takeNumber_142 rfl ?_
        refine zA_getE (w := N) fX9_112 t_110 dX9_takeNumber_143 h6 ?_
        refine zA_i2l dX9_takeNumber_146 ?_
        refine zA_iload_n dX9_takeNumber_147 rfl ?_
        refine zA_i2l dX9_takeNumber_148 ?_
        refine zA_iload_n dX9_takeNumber_149 rfl ?_
        refine zA_i2l dX9_takeNumber_150 ?_
        refine zA_cSb (st := []) kX9_81 (c_X9_in d (N) (lo) (hi) ν) rfl rfl rfl dX9_takeNumber_151 (zfit0 (by omega) rfl) (fun v2 μ2 q2 => ?_)
        obtain ⟨bg, rfl⟩ := q2
        refine zA_ifb_ne (tgt := 169) dX9_takeNumber_154 rfl (fun h154 => ?_) (fun h154 => ?_)
        · refine zA_iconst dX9_takeNumber_169 rfl ?_
          exact zA_ri dX9_takeNumber_170 ⟨hf, mO_s (w := p) (by rw [txN_3 hfg (by rw [hs, hE, ← hV (by omega)]; have := bg.mp h154; omega), hs, hE]) rfl h5 h12, fun _ => ⟨by rw [h6, hV (by omega)], by rw [hs]; exact h7⟩⟩
        · refine zA_aload_n dX9_takeNumber_157 rfl ?_
          refine zA_iconst dX9_takeNumber_158 rfl ?_
          refine zA_aload_n dX9_takeNumber_159 rfl ?_
          refine zA_getE (w := (s0 : Int)) fX9_109 t_110 dX9_takeNumber_160 h7 ?_
          refine zA_cVi (st := []) kX9_105 t_110 rfl rfl (c_X9_fails d (2) ((s0 : Int)) ν) rfl rfl rfl dX9_takeNumber_163 (zfit0 (by omega) rfl) (fun v3 μ3 q3 => ?_)
          obtain ⟨rfl, rfl⟩ := q3
          refine zA_goto (tgt := 170) dX9_takeNumber_166 rfl ?_
          exact zA_ri dX9_takeNumber_170 ⟨h8_up (by decide) (hf), mO_g (f := 2) (w := s0) (by rw [txN_2 hfg (by rw [hs, hE]; intro q; have := hV q.1; first | omega | (have := bg.mpr (by omega); simp_all)), hs]) (by decide) rfl rfl, fun e => absurd e (by decide)⟩
    · have hxp := hT.2.2 p (by omega)
      refine zA_aload_n dX9_takeNumber_53 rfl ?_
      refine zA_getR fX9_22 t_110 rfl dX9_takeNumber_54 ?_
      refine zA_aload_n dX9_takeNumber_57 rfl ?_
      refine zA_getE (w := (p : Int)) fX9_94 t_110 dX9_takeNumber_58 h5 ?_
      refine zA_ialE (w := x p) (j := p) t_115 (by omega) (by omega) dX9_takeNumber_61 rfl (hT.2.2 p (by omega)).1 ?_
      refine zA_i2l dX9_takeNumber_62 ?_
      refine zA_ldc2 cX9_101 dX9_takeNumber_63 rfl ?_
      refine zA_ldc2 cX9_103 dX9_takeNumber_66 rfl ?_
      refine zA_cSb (st := []) kX9_81 (c_X9_in d (x p) (48) (57) ν) rfl rfl rfl dX9_takeNumber_69 (zfit0 (by omega) rfl) (fun v4 μ4 q4 => ?_)
      obtain ⟨bf, rfl⟩ := q4
      refine zA_ifb_eq (tgt := 129) dX9_takeNumber_72 rfl (fun h72 => ?_) (fun h72 => ?_)
      · have hE : txE x L s0 = p := by
          rw [← hE0]
          exact txE_stop (by first | omega | (intro q; have := bf.mpr q.2; simp_all))
        have hV : p - s0 ≤ 3 → N = txV x L a := fun h => by
          unfold txV
          rw [hs, hE, hN h]
        refine zA_aload_n dX9_takeNumber_129 rfl ?_
        refine zA_getE (w := (p : Int)) fX9_94 t_110 dX9_takeNumber_130 h5 ?_
        refine zA_aload_n dX9_takeNumber_133 rfl ?_
        refine zA_getE (w := (s0 : Int)) fX9_109 t_110 dX9_takeNumber_134 h7 ?_
        refine zA_isubB dX9_takeNumber_137 ⟨by omega, by omega⟩ ?_
        refine zA_iconst dX9_takeNumber_138 rfl ?_
        refine zA_icmp_gt (tgt := 157) dX9_takeNumber_139 rfl (fun h139 => ?_) (fun h139 => ?_)
        · refine zA_aload_n dX9_takeNumber_157 rfl ?_
          refine zA_iconst dX9_takeNumber_158 rfl ?_
          refine zA_aload_n dX9_takeNumber_159 rfl ?_
          refine zA_getE (w := (s0 : Int)) fX9_109 t_110 dX9_takeNumber_160 h7 ?_
          refine zA_cVi (st := []) kX9_105 t_110 rfl rfl (c_X9_fails d (2) ((s0 : Int)) ν) rfl rfl rfl dX9_takeNumber_163 (zfit0 (by omega) rfl) (fun v5 μ5 q5 => ?_)
          obtain ⟨rfl, rfl⟩ := q5
          refine zA_goto (tgt := 170) dX9_takeNumber_166 rfl ?_
          exact zA_ri dX9_takeNumber_170 ⟨h8_up (by decide) (hf), mO_g (f := 2) (w := s0) (by rw [txN_2 hfg (by rw [hs, hE]; intro q; have := hV q.1; first | omega | (have := bg.mpr (by omega); simp_all)), hs]) (by decide) rfl rfl, fun e => absurd e (by decide)⟩
        · refine zA_aload_n dX9_takeNumber_142 rfl ?_
          refine zA_getE (w := N) fX9_112 t_110 dX9_takeNumber_143 h6 ?_
          refine zA_i2l dX9_takeNumber_146 ?_
          refine zA_iload_n dX9_takeNumber_147 rfl ?_
          refine zA_i2l dX9_takeNumber_148 ?_
          refine zA_iload_n dX9_takeNumber_149 rfl ?_
          refine zA_i2l dX9_takeNumber_150 ?_
          refine zA_cSb (st := []) kX9_81 (c_X9_in d (N) (lo) (hi) ν) rfl rfl rfl dX9_takeNumber_151 (zfit0 (by omega) rfl) (fun v6 μ6 q6 => ?_)
          obtain ⟨bg, rfl⟩ := q6
          refine zA_ifb_ne (tgt := 169) dX9_takeNumber_154 rfl (fun h154 => ?_) (fun h154 => ?_)
          · refine zA_iconst dX9_takeNumber_169 rfl ?_
            exact zA_ri dX9_takeNumber_170 ⟨hf, mO_s (w := p) (by rw [txN_3 hfg (by rw [hs, hE, ← hV (by omega)]; have := bg.mp h154; omega), hs, hE]) rfl h5 h12, fun _ => ⟨by rw [h6, hV (by omega)], by rw [hs]; exact h7⟩⟩
          · refine zA_aload_n dX9_takeNumber_157 rfl ?_
            refine zA_iconst dX9_takeNumber_158 rfl ?_
            refine zA_aload_n dX9_takeNumber_159 rfl ?_
            refine zA_getE (w := (s0 : Int)) fX9_109 t_110 dX9_takeNumber_160 h7 ?_
            refine zA_cVi (st := []) kX9_105 t_110 rfl rfl (c_X9_fails d (2) ((s0 : Int)) ν) rfl rfl rfl dX9_takeNumber_163 (zfit0 (by omega) rfl) (fun v7 μ7 q7 => ?_)
            obtain ⟨rfl, rfl⟩ := q7
            refine zA_goto (tgt := 170) dX9_takeNumber_166 rfl ?_
            exact zA_ri dX9_takeNumber_170 ⟨h8_up (by decide) (hf), mO_g (f := 2) (w := s0) (by rw [txN_2 hfg (by rw [hs, hE]; intro q; have := hV q.1; first | omega | (have := bg.mpr (by omega); simp_all)), hs]) (by decide) rfl rfl, fun e => absurd e (by decide)⟩
      · have hx9 := bf.mp h72
        refine zA_aload_n dX9_takeNumber_75 rfl ?_
        refine zA_aload_n dX9_takeNumber_76 rfl ?_
        refine zA_getE (w := N) fX9_112 t_110 dX9_takeNumber_77 h6 ?_
        refine zA_sipush dX9_takeNumber_80 rfl ?_
        refine zA_icmp_le (tgt := 93) dX9_takeNumber_83 rfl (fun h83 => ?_) (fun h83 => ?_)
        · refine zA_bipush dX9_takeNumber_93 rfl ?_
          refine zA_aload_n dX9_takeNumber_95 rfl ?_
          refine zA_getE (w := N) fX9_112 t_110 dX9_takeNumber_96 h6 ?_
          refine zA_imulB dX9_takeNumber_99 ⟨by omega, by omega⟩ ?_
          refine zA_aload_n dX9_takeNumber_100 rfl ?_
          refine zA_getR fX9_22 t_110 rfl dX9_takeNumber_101 ?_
          refine zA_aload_n dX9_takeNumber_104 rfl ?_
          refine zA_getE (w := (p : Int)) fX9_94 t_110 dX9_takeNumber_105 h5 ?_
          refine zA_ialE (w := x p) (j := p) t_115 (by omega) (by omega) dX9_takeNumber_108 rfl (hT.2.2 p (by omega)).1 ?_
          refine zA_iaddB dX9_takeNumber_109 ⟨by omega, by omega⟩ ?_
          refine zA_bipush dX9_takeNumber_110 rfl ?_
          refine zA_isubB dX9_takeNumber_112 ⟨by omega, by omega⟩ ?_
          refine zA_putI wX9_112 t_110 dX9_takeNumber_113 ?_
          refine zA_aload_n dX9_takeNumber_116 rfl ?_
          refine zA_dup dX9_takeNumber_117 rfl ?_
          refine zA_getE (w := (p : Int)) fX9_94 t_110 dX9_takeNumber_118 (by rw [zup_n (by decide)]; exact h5) ?_
          refine zA_iconst dX9_takeNumber_121 rfl ?_
          refine zA_iaddB dX9_takeNumber_122 ⟨by omega, by omega⟩ ?_
          refine zA_putI wX9_94 t_110 dX9_takeNumber_123 ?_
          refine zA_goto (tgt := 42) dX9_takeNumber_126 rfl ?_
          exact ih _ (by omega) (p + 1) rfl _ _ (by omega) (h8_up (by decide) (h8_up (by decide) (hf))) ((h8_up (by decide) (h8.u (by decide))).mt hT) (by rw [zup_s]; rfl) (by rw [zup_n (by decide), zup_s]) (by rw [zup_n (by decide), zup_n (by decide)]; exact h7) h12 (by omega) (fun h => by rw [hN (by omega), show p + 1 - s0 = (p - s0) + 1 by omega]; simp only [txP]; rw [show s0 + (p - s0) = p by omega]; omega) (by omega) (by rw [txE_step (by omega) (bf.mp h72)]; exact hE0) (fun i h1 h2 => by by_cases e : i = p; (subst e; exact bf.mp h72); exact hfi i h1 (by omega))
        · refine zA_aload_n dX9_takeNumber_86 rfl ?_
          refine zA_getE (w := N) fX9_112 t_110 dX9_takeNumber_87 h6 ?_
          refine zA_goto (tgt := 113) dX9_takeNumber_90 rfl ?_
          refine zA_putI wX9_112 t_110 dX9_takeNumber_113 ?_
          refine zA_aload_n dX9_takeNumber_116 rfl ?_
          refine zA_dup dX9_takeNumber_117 rfl ?_
          refine zA_getE (w := (p : Int)) fX9_94 t_110 dX9_takeNumber_118 (by rw [zup_n (by decide)]; exact h5) ?_
          refine zA_iconst dX9_takeNumber_121 rfl ?_
          refine zA_iaddB dX9_takeNumber_122 ⟨by omega, by omega⟩ ?_
          refine zA_putI wX9_94 t_110 dX9_takeNumber_123 ?_
          refine zA_goto (tgt := 42) dX9_takeNumber_126 rfl ?_
          exact ih _ (by omega) (p + 1) rfl _ _ (by omega) (h8_up (by decide) (h8_up (by decide) (hf))) ((h8_up (by decide) (h8.u (by decide))).mt hT) (by rw [zup_s]; rfl) (by rw [zup_n (by decide), zup_s]) (by rw [zup_n (by decide), zup_n (by decide)]; exact h7) h12 hNr (fun h => by have := txP_rg (x := x) (s := s0) (k := p - s0) (fun i h1 h2 => hfi i h1 (by omega)) (by omega); have := hN (by omega); omega) (by omega) (by rw [txE_step (by omega) (bf.mp h72)]; exact hE0) (fun i h1 h2 => by by_cases e : i = p; (subst e; exact bf.mp h72); exact hfi i h1 (by omega))
theorem c_X9_takeNumber (d : Nat) (μ : zM) (x : Nat → Int) (L a : Nat) (lo hi : Int) (haL : a ≤ L) (hT : mT μ x L) (h5 : μ 110 13 = a) : zMet (d + 2) 0 yX9_takeNumber cX9_takeNumber 4 (some .int) TF μ [zR 110, zI lo, zI hi] (zPi (fun v ν => h8 μ ν ∧ mO μ ν v (txN x L lo hi a) ∧ (v = 0 → ν 110 14 = txV x L a ∧ ν 110 15 = (txS x L a : Int)))) := by
  have hL := hT.2.1
  have hsL := @txS_L x L a haL
  refine zMi_of RX9 rfl (by decide) rfl (ls := [some (zR 110), some (zI lo), some (zI hi), none]) rfl (fun hok => ?_)
  refine zA_aload_n dX9_takeNumber_0 rfl ?_
  refine zA_cVi (st := []) kX9_97 t_110 rfl rfl (c_X9_here d μ x L a haL hT h5) rfl rfl rfl dX9_takeNumber_1 (zfit0 (by omega) rfl) (fun v1 μ1 q1 => ?_)
  obtain ⟨rfl, rfl⟩ := q1
  refine zA_istore_n (ls' := [some (zR 110), some (zI lo), some (zI hi), some (zI (txH x L a))]) dX9_takeNumber_4 rfl rfl ?_
  refine zA_iload_n dX9_takeNumber_5 rfl ?_
  refine zA_i2l dX9_takeNumber_6 ?_
  refine zA_ldc2 cX9_101 dX9_takeNumber_7 rfl ?_
  refine zA_ldc2 cX9_103 dX9_takeNumber_10 rfl ?_
  refine zA_cSb (st := []) kX9_81 (c_X9_in d (txH x L a) (48) (57) (zup μ 110 13 ((txS x L a : Int)))) rfl rfl rfl dX9_takeNumber_13 (zfit0 (by omega) rfl) (fun v2 μ2 q2 => ?_)
  obtain ⟨bf, rfl⟩ := q2
  refine zA_ifb_ne (tgt := 29) dX9_takeNumber_16 rfl (fun h16 => ?_) (fun h16 => ?_)
  · refine zA_aload_n dX9_takeNumber_29 rfl ?_
    refine zA_aload_n dX9_takeNumber_30 rfl ?_
    refine zA_getE (w := (txS x L a : Int)) fX9_94 t_110 dX9_takeNumber_31 (by rw [zup_s]) ?_
    refine zA_putI wX9_109 t_110 dX9_takeNumber_34 ?_
    refine zA_aload_n dX9_takeNumber_37 rfl ?_
    refine zA_iconst dX9_takeNumber_38 rfl ?_
    refine zA_putI wX9_112 t_110 dX9_takeNumber_39 ?_
    refine zA_dr (ls' := [some (zR 110), some (zI lo), some (zI hi), none]) 3 rfl ?_
    have hfg := bf.mp h16
    exact l_X9_takeNumber d μ x L a _ lo hi rfl hfg _ (txS x L a) rfl 0 _ hsL (h8_up (by decide) (h8_up (by decide) (h8_up (by decide) (h8.refl _)))) ((h8_up (by decide) (h8_up (by decide) (h8_up (by decide) (h8.refl _)))).mt hT) rfl rfl rfl rfl (by decide) (fun _ => by rw [Nat.sub_self]; rfl) (Nat.le_refl _) rfl (fun i h1 h2 => by omega)
  · refine zA_aload_n dX9_takeNumber_19 rfl ?_
    refine zA_iconst dX9_takeNumber_20 rfl ?_
    refine zA_aload_n dX9_takeNumber_21 rfl ?_
    refine zA_getE (w := (txS x L a : Int)) fX9_94 t_110 dX9_takeNumber_22 (by rw [zup_s]) ?_
    refine zA_cVi (st := []) kX9_105 t_110 rfl rfl (c_X9_fails d (1) ((txS x L a : Int)) (zup μ 110 13 ((txS x L a : Int)))) rfl rfl rfl dX9_takeNumber_25 (zfit0 (by omega) rfl) (fun v3 μ3 q3 => ?_)
    obtain ⟨rfl, rfl⟩ := q3
    exact zA_ri dX9_takeNumber_28 ⟨h8_up (by decide) (h8_up (by decide) (h8.refl _)), mO_g (txN_1 (fun q => by have := bf.mpr q; simp_all)) (by decide) rfl rfl, fun e => absurd e (by decide)⟩
