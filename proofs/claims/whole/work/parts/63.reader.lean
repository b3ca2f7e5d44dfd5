/-! ===== the class reads: letters, numbers, signs ===== -/
theorem zup_id {μ : zM} {k i : Nat} {v : Int} (h : v = μ k i) : zup μ k i v = μ := by
  funext k' i'
  unfold zup
  split
  · next e => rw [h, e.1, e.2]
  · rfl
theorem zup_zup {μ : zM} {k i : Nat} {v w : Int} : zup (zup μ k i v) k i w = zup μ k i w := by
  funext k' i'
  unfold zup
  split
  · rfl
  · rfl
/-- the class's text: L letters x -/
def cT (μ : zM) (x : Nat → Int) (L : Nat) : Prop := μ 8 2 = L ∧ L ≤ 240 ∧ ∀ i, i < L → μ 16 i = x i ∧ 0 ≤ x i ∧ x i ≤ 255
def f8 (μ ν : zM) : Prop := (∀ k, k ≠ 8 → ν k = μ k) ∧ ν 8 2 = μ 8 2
def fR (μ ν : zM) : Prop := (∀ k, k ≠ 8 → k ≠ 9 → k ≠ 10 → k ≠ 11 → k ≠ 12 → ν k = μ k) ∧ ν 8 2 = μ 8 2
def cO (ν : zM) (b : Bool) (o : Int × Nat) : Prop := (b = true → o.1 = 0 ∧ ν 8 5 = o.2) ∧ (b = false → o.1 ≠ 0 ∧ ν 8 3 = o.1 ∧ ν 8 4 = o.2)
theorem f8.refl (μ : zM) : f8 μ μ := ⟨fun _ _ => rfl, rfl⟩
theorem f8.trans {μ ν ξ : zM} (h : f8 μ ν) (h' : f8 ν ξ) : f8 μ ξ := ⟨fun k hk => by rw [h'.1 k hk, h.1 k hk], by rw [h'.2, h.2]⟩
theorem f8_up {μ ν : zM} {i : Nat} {v : Int} (hi : i ≠ 2) (h : f8 μ ν) : f8 μ (zup ν 8 i v) := ⟨fun k hk => by funext j; rw [zup_k hk, h.1 k hk], by rw [zup_n (fun q => hi q.2.symm)]; exact h.2⟩
theorem f8.fR {μ ν : zM} (h : f8 μ ν) : fR μ ν := ⟨fun k h1 _ _ _ _ => h.1 k h1, h.2⟩
theorem fR.refl (μ : zM) : fR μ μ := ⟨fun _ _ _ _ _ _ => rfl, rfl⟩
theorem fR.trans {μ ν ξ : zM} (h : fR μ ν) (h' : fR ν ξ) : fR μ ξ := ⟨fun k h1 h2 h3 h4 h5 => by rw [h'.1 k h1 h2 h3 h4 h5, h.1 k h1 h2 h3 h4 h5], by rw [h'.2, h.2]⟩
theorem fR_up {μ ν : zM} {k i : Nat} {v : Int} (hk : k = 9 ∨ k = 10 ∨ k = 11 ∨ k = 12) (h : fR μ ν) : fR μ (zup ν k i v) := ⟨fun j h1 h2 h3 h4 h5 => by funext q; rw [zup_k (by omega), h.1 j h1 h2 h3 h4 h5], by rw [zup_k (by omega)]; exact h.2⟩
theorem fR_u8 {μ ν : zM} {i : Nat} {v : Int} (hi : i ≠ 2) (h : fR μ ν) : fR μ (zup ν 8 i v) := ⟨fun j h1 h2 h3 h4 h5 => by funext q; rw [zup_k h1, h.1 j h1 h2 h3 h4 h5], by rw [zup_n (fun q => hi q.2.symm)]; exact h.2⟩
theorem cT.fR {μ ν : zM} {x : Nat → Int} {L : Nat} (h : cT μ x L) (h' : fR μ ν) : cT ν x L := ⟨by rw [h'.2]; exact h.1, h.2.1, by rw [h'.1 16 (by decide) (by decide) (by decide) (by decide) (by decide)]; exact h.2.2⟩
theorem cO_t {ν : zM} {o : Int × Nat} (h0 : o.1 = 0) (h : ν 8 5 = o.2) : cO ν true o := ⟨fun _ => ⟨h0, h⟩, fun e => (by cases e)⟩
theorem cO_f {ν : zM} {o : Int × Nat} (h0 : o.1 ≠ 0) (h : ν 8 3 = o.1) (h' : ν 8 4 = o.2) : cO ν false o := ⟨fun e => (by cases e), fun _ => ⟨h0, h, h'⟩⟩
theorem cO_g {ν : zM} {o : Int × Nat} {f : Int} {w : Nat} (ho : o = (f, w)) (h0 : f ≠ 0) (h : ν 8 3 = f) (h' : ν 8 4 = w) : cO ν false o := by subst ho; exact cO_f h0 h h'
theorem cO_s {ν : zM} {o : Int × Nat} {w : Nat} (ho : o = (0, w)) (h : ν 8 5 = w) : cO ν true o := by subst ho; exact cO_t rfl h
theorem c_X5_isFigure (d : Nat) (v : Int) (μ : zM)  : zMet (d + 1) 0 yX5_isFigure cX5_isFigure 1 (some .boolean) TF μ [zI v] (zPb (fun b μ' => (b = true ↔ fg v) ∧ μ = μ')) := by
  refine zMb_of RX5 rfl (by decide) rfl (ls := [some (zI v)]) rfl (fun hok => ?_)
  refine zA_iload_n dX5_isFigure_0 rfl ?_
  refine zA_bipush dX5_isFigure_1 rfl ?_
  refine zA_icmp_lt (tgt := 16) dX5_isFigure_3 rfl (fun h3 => ?_) (fun h3 => ?_)
  · refine zA_iconst dX5_isFigure_16 rfl ?_
    exact zA_rb (b := false) dX5_isFigure_17 rfl ⟨by simp; omega, rfl⟩
  · refine zA_iload_n dX5_isFigure_6 rfl ?_
    refine zA_bipush dX5_isFigure_7 rfl ?_
    refine zA_icmp_gt (tgt := 16) dX5_isFigure_9 rfl (fun h9 => ?_) (fun h9 => ?_)
    · refine zA_iconst dX5_isFigure_16 rfl ?_
      exact zA_rb (b := false) dX5_isFigure_17 rfl ⟨by simp; omega, rfl⟩
    · refine zA_iconst dX5_isFigure_12 rfl ?_
      refine zA_goto (tgt := 17) dX5_isFigure_13 rfl ?_
      exact zA_rb (b := true) dX5_isFigure_17 rfl ⟨by simp; omega, rfl⟩
theorem c_X5_failAt (d : Nat) (p f : Int) (μ : zM)  : zMet (d + 1) 0 yX5_failAt cX5_failAt 3 (some .boolean) TF μ [zR 8, zI p, zI f] (zPb (fun b ν => false = b ∧ zup (zup μ 8 4 p) 8 3 f = ν)) := by
  refine zMb_of RX5 rfl (by decide) rfl (ls := [some (zR 8), some (zI p), some (zI f)]) rfl (fun hok => ?_)
  refine zA_aload_n dX5_failAt_0 rfl ?_
  refine zA_iload_n dX5_failAt_1 rfl ?_
  refine zA_putI wX5_22 t_8 dX5_failAt_2 ?_
  refine zA_aload_n dX5_failAt_5 rfl ?_
  refine zA_iload_n dX5_failAt_6 rfl ?_
  refine zA_putI wX5_122 t_8 dX5_failAt_7 ?_
  refine zA_iconst dX5_failAt_10 rfl ?_
  exact zA_rb (b := false) dX5_failAt_11 rfl ⟨rfl, rfl⟩
theorem l_X5_ahead (d : Nat) (x : Nat → Int) (L : Nat) : ∀ (t0 a : Nat), L - a = t0 → ∀ μ : zM, a ≤ L → cT μ x L → μ 8 5 = a → zA RX5 cX5_ahead 1 (zRm (d + 1) 0) zN0 TF 0 μ 0 [some (zR 8)] [] (zPi (fun v ν => v = txH x L a ∧ zup μ 8 5 (txS x L a : Int) = ν)) := by
  intro t0
  induction t0 using Nat.strongRecOn with
  | ind t0 ih =>
    intro a ha μ haL hT h5
    have hL := hT.2.1
    refine zA_aload_n dX5_ahead_0 rfl ?_
    refine zA_getE (w := (a : Int)) fX5_33 t_8 dX5_ahead_1 h5 ?_
    refine zA_aload_n dX5_ahead_4 rfl ?_
    refine zA_getE (w := (L : Int)) fX5_26 t_8 dX5_ahead_5 hT.1 ?_
    refine zA_icmp_ge (tgt := 38) dX5_ahead_8 rfl (fun h8 => ?_) (fun h8 => ?_)
    · refine zA_aload_n dX5_ahead_38 rfl ?_
      refine zA_getE (w := (a : Int)) fX5_33 t_8 dX5_ahead_39 h5 ?_
      refine zA_aload_n dX5_ahead_42 rfl ?_
      refine zA_getE (w := (L : Int)) fX5_26 t_8 dX5_ahead_43 hT.1 ?_
      refine zA_icmp_ge (tgt := 61) dX5_ahead_46 rfl (fun h46 => ?_) (fun h46 => ?_)
      · refine zA_iconst dX5_ahead_61 rfl ?_
        exact zA_ri dX5_ahead_62 ⟨by unfold txH; rw [txS_stop (by omega), if_neg (by omega)], zup_id (by rw [h5, txS_stop (by omega)])⟩
      · refine zA_aload_n dX5_ahead_49 rfl ?_
        refine zA_getR fX5_18 t_8 rfl dX5_ahead_50 ?_
        refine zA_aload_n dX5_ahead_53 rfl ?_
        refine zA_getE (w := (a : Int)) fX5_33 t_8 dX5_ahead_54 h5 ?_
        refine zA_ialE (w := x a) (j := a) t_16 (by omega) (by omega) dX5_ahead_57 rfl (hT.2.2 a (by omega)).1 ?_
        refine zA_goto (tgt := 62) dX5_ahead_58 rfl ?_
        exact zA_ri dX5_ahead_62 ⟨by unfold txH; rw [txS_stop (by omega), if_pos (by omega)], zup_id (by rw [h5, txS_stop (by omega)])⟩
    · refine zA_aload_n dX5_ahead_11 rfl ?_
      refine zA_getR fX5_18 t_8 rfl dX5_ahead_12 ?_
      refine zA_aload_n dX5_ahead_15 rfl ?_
      refine zA_getE (w := (a : Int)) fX5_33 t_8 dX5_ahead_16 h5 ?_
      refine zA_ialE (w := x a) (j := a) t_16 (by omega) (by omega) dX5_ahead_19 rfl (hT.2.2 a (by omega)).1 ?_
      refine zA_bipush dX5_ahead_20 rfl ?_
      refine zA_icmp_ne (tgt := 38) dX5_ahead_22 rfl (fun h22 => ?_) (fun h22 => ?_)
      · refine zA_aload_n dX5_ahead_38 rfl ?_
        refine zA_getE (w := (a : Int)) fX5_33 t_8 dX5_ahead_39 h5 ?_
        refine zA_aload_n dX5_ahead_42 rfl ?_
        refine zA_getE (w := (L : Int)) fX5_26 t_8 dX5_ahead_43 hT.1 ?_
        refine zA_icmp_ge (tgt := 61) dX5_ahead_46 rfl (fun h46 => ?_) (fun h46 => ?_)
        · refine zA_iconst dX5_ahead_61 rfl ?_
          exact zA_ri dX5_ahead_62 ⟨by unfold txH; rw [txS_stop (by omega), if_neg (by omega)], zup_id (by rw [h5, txS_stop (by omega)])⟩
        · refine zA_aload_n dX5_ahead_49 rfl ?_
          refine zA_getR fX5_18 t_8 rfl dX5_ahead_50 ?_
          refine zA_aload_n dX5_ahead_53 rfl ?_
          refine zA_getE (w := (a : Int)) fX5_33 t_8 dX5_ahead_54 h5 ?_
          refine zA_ialE (w := x a) (j := a) t_16 (by omega) (by omega) dX5_ahead_57 rfl (hT.2.2 a (by omega)).1 ?_
          refine zA_goto (tgt := 62) dX5_ahead_58 rfl ?_
          exact zA_ri dX5_ahead_62 ⟨by unfold txH; rw [txS_stop (by omega), if_pos (by omega)], zup_id (by rw [h5, txS_stop (by omega)])⟩
      · refine zA_aload_n dX5_ahead_25 rfl ?_
        refine zA_dup dX5_ahead_26 rfl ?_
        refine zA_getE (w := (a : Int)) fX5_33 t_8 dX5_ahead_27 h5 ?_
        refine zA_iconst dX5_ahead_30 rfl ?_
        refine zA_iaddB dX5_ahead_31 ⟨by omega, by omega⟩ ?_
        refine zA_putI wX5_33 t_8 dX5_ahead_32 ?_
        refine zA_goto (tgt := 0) dX5_ahead_35 rfl ?_
        exact zAi_mono (ih _ (by omega) (a + 1) rfl _ (by omega) (hT.fR (fR_u8 (by decide) (fR.refl _))) (by rw [zup_s]; rfl)) (fun v ν h => ⟨by rw [h.1]; unfold txH; rw [txS_step (by omega) (by omega)], by rw [← h.2, zup_zup, txS_step (by omega) (by omega)]⟩)
theorem c_X5_ahead (d : Nat) (μ : zM) (x : Nat → Int) (L a : Nat) (haL : a ≤ L) (hT : cT μ x L) (h5 : μ 8 5 = a) : zMet (d + 1) 0 yX5_ahead cX5_ahead 1 (some .int) TF μ [zR 8] (zPi (fun v ν => v = txH x L a ∧ zup μ 8 5 (txS x L a : Int) = ν)) :=
  zMi_of RX5 rfl (by decide) rfl (ls := [some (zR 8)]) rfl (fun _ => l_X5_ahead d x L _ a rfl μ haL hT h5)
theorem c_X5_readSign (d : Nat) (μ : zM) (x : Nat → Int) (L a : Nat) (c : Int) (haL : a ≤ L) (hT : cT μ x L) (h5 : μ 8 5 = a) : zMet (d + 2) 0 yX5_readSign cX5_readSign 2 (some .boolean) TF μ [zR 8, zI c] (zPb (fun b ν => f8 μ ν ∧ cO ν b (txG x L c a))) := by
  have hL := hT.2.1
  have hsL := @txS_L x L a haL
  refine zMb_of RX5 rfl (by decide) rfl (ls := [some (zR 8), some (zI c)]) rfl (fun hok => ?_)
  refine zA_aload_n dX5_readSign_0 rfl ?_
  refine zA_cVi (st := []) kX5_36 t_8 rfl rfl (c_X5_ahead d μ x L a haL hT h5) rfl rfl rfl dX5_readSign_1 (zfit0 (by omega) rfl) (fun v1 μ1 q1 => ?_)
  obtain ⟨rfl, rfl⟩ := q1
  refine zA_iload_n dX5_readSign_4 rfl ?_
  refine zA_icmp_eq (tgt := 18) dX5_readSign_5 rfl (fun h5a => ?_) (fun h5a => ?_)
  · refine zA_aload_n dX5_readSign_18 rfl ?_
    refine zA_dup dX5_readSign_19 rfl ?_
    refine zA_getE (w := (txS x L a : Int)) fX5_33 t_8 dX5_readSign_20 (by rw [zup_s]) ?_
    refine zA_iconst dX5_readSign_23 rfl ?_
    refine zA_iaddB dX5_readSign_24 ⟨by omega, by omega⟩ ?_
    refine zA_putI wX5_33 t_8 dX5_readSign_25 ?_
    refine zA_iconst dX5_readSign_28 rfl ?_
    exact zA_rb (b := true) dX5_readSign_29 rfl ⟨f8_up (by decide) (f8_up (by decide) (f8.refl _)), cO_s (txG_y h5a) (by rw [zup_s]; rfl)⟩
  · refine zA_aload_n dX5_readSign_8 rfl ?_
    refine zA_aload_n dX5_readSign_9 rfl ?_
    refine zA_getE (w := (txS x L a : Int)) fX5_33 t_8 dX5_readSign_10 (by rw [zup_s]) ?_
    refine zA_iconst dX5_readSign_13 rfl ?_
    refine zA_cVb (st := []) kX5_47 t_8 rfl rfl (c_X5_failAt d ((txS x L a : Int)) (1) (zup μ 8 5 ((txS x L a : Int)))) rfl rfl rfl dX5_readSign_14 (zfit0 (by omega) rfl) (fun v2 μ2 q2 => ?_)
    obtain ⟨rfl, rfl⟩ := q2
    exact zA_rb (b := false) dX5_readSign_17 rfl ⟨f8_up (by decide) (f8_up (by decide) (f8_up (by decide) (f8.refl _))), cO_g (txG_n h5a) (by decide) rfl rfl⟩
theorem l_X5_readNumber (d : Nat) (μ : zM) (x : Nat → Int) (L a s0 : Nat) (lo hi : Int) (hs : txS x L a = s0) (hfg : fg (txH x L a)) : ∀ (t0 p : Nat), L - p = t0 → ∀ (N : Int) (ν : zM), p ≤ L → f8 μ ν → cT ν x L → ν 8 5 = p → ν 8 6 = N → ν 8 7 = s0 → N = txP x s0 (min (p - s0) 3) → s0 ≤ p → txE x L p = txE x L s0 → (∀ i, s0 ≤ i → i < p → fg (x i)) → zA RX5 cX5_readNumber 3 (zRm (d + 2) 0) zN0 TF 0 ν 33 [some (zR 8), some (zI lo), some (zI hi)] [] (zPb (fun b ν => f8 μ ν ∧ cO ν b (txN x L lo hi a) ∧ (b = true → ν 8 6 = txV x L a ∧ ν 8 7 = (txS x L a : Int)))) := by
  intro t0
  induction t0 using Nat.strongRecOn with
  | ind t0 ih =>
    intro p hp N ν hpL hf hT h5 h6 h7 hN hsp hE0 hfi
    have hL := hT.2.1
    have hNr : 0 ≤ N ∧ N ≤ 999 := by
      rw [hN]
      exact txP_rg (fun i h1 h2 => hfi i h1 (by omega)) (by omega)
    refine zA_aload_n dX5_readNumber_33 rfl ?_
    refine zA_getE (w := (p : Int)) fX5_33 t_8 dX5_readNumber_34 h5 ?_
    refine zA_aload_n dX5_readNumber_37 rfl ?_
    refine zA_getE (w := (L : Int)) fX5_26 t_8 dX5_readNumber_38 hT.1 ?_
    refine zA_icmp_ge (tgt := 116) dX5_readNumber_41 rfl (fun h41 => ?_) (fun h41 => ?_)
    · have hE : txE x L s0 = p := by
        rw [← hE0]
        exact txE_stop (by first | omega | (intro q; have := bf.mpr q.2; simp_all))
      have hV : p - s0 ≤ 3 → N = txV x L a := fun h => by
        unfold txV
        rw [hs, hE, hN, Nat.min_eq_left h]
      refine zA_aload_n dX5_readNumber_116 rfl ?_
      refine zA_getE (w := (p : Int)) fX5_33 t_8 dX5_readNumber_117 h5 ?_
      refine zA_aload_n dX5_readNumber_120 rfl ?_
      refine zA_getE (w := (s0 : Int)) fX5_89 t_8 dX5_readNumber_121 h7 ?_
      refine zA_isubB dX5_readNumber_124 ⟨by omega, by omega⟩ ?_
      refine zA_iconst dX5_readNumber_125 rfl ?_
      refine zA_icmp_gt (tgt := 145) dX5_readNumber_126 rfl (fun h126 => ?_) (fun h126 => ?_)
      · refine zA_aload_n dX5_readNumber_145 rfl ?_
        refine zA_aload_n dX5_readNumber_146 rfl ?_
        refine zA_getE (w := (s0 : Int)) fX5_89 t_8 dX5_readNumber_147 h7 ?_
        refine zA_iconst dX5_readNumber_150 rfl ?_
        refine zA_cVb (st := []) kX5_47 t_8 rfl rfl (c_X5_failAt d ((s0 : Int)) (2) ν) rfl rfl rfl dX5_readNumber_151 (zfit0 (by omega) rfl) (fun v1 μ1 q1 => ?_)
        obtain ⟨rfl, rfl⟩ := q1
        exact zA_rb (b := false) dX5_readNumber_154 rfl ⟨f8_up (by decide) (f8_up (by decide) (hf)), cO_g (f := 2) (w := s0) (by rw [txN_2 hfg (by rw [hs, hE]; intro q; have := hV q.1; omega), hs]) (by decide) rfl rfl, fun e => by cases e⟩
      · refine zA_aload_n dX5_readNumber_129 rfl ?_
        refine zA_getE (w := N) fX5_69 t_8 dX5_readNumber_130 h6 ?_
        refine zA_iload_n dX5_readNumber_133 rfl ?_
        refine zA_icmp_lt (tgt := 145) dX5_readNumber_134 rfl (fun h134 => ?_) (fun h134 => ?_)
        · refine zA_aload_n dX5_readNumber_145 rfl ?_
          refine zA_aload_n dX5_readNumber_146 rfl ?_
          refine zA_getE (w := (s0 : Int)) fX5_89 t_8 dX5_readNumber_147 h7 ?_
          refine zA_iconst dX5_readNumber_150 rfl ?_
          refine zA_cVb (st := []) kX5_47 t_8 rfl rfl (c_X5_failAt d ((s0 : Int)) (2) ν) rfl rfl rfl dX5_readNumber_151 (zfit0 (by omega) rfl) (fun v2 μ2 q2 => ?_)
          obtain ⟨rfl, rfl⟩ := q2
          exact zA_rb (b := false) dX5_readNumber_154 rfl ⟨f8_up (by decide) (f8_up (by decide) (hf)), cO_g (f := 2) (w := s0) (by rw [txN_2 hfg (by rw [hs, hE]; intro q; have := hV q.1; omega), hs]) (by decide) rfl rfl, fun e => by cases e⟩
        · refine zA_aload_n dX5_readNumber_137 rfl ?_
          refine zA_getE (w := N) fX5_69 t_8 dX5_readNumber_138 h6 ?_
          refine zA_iload_n dX5_readNumber_141 rfl ?_
          refine zA_icmp_le (tgt := 155) dX5_readNumber_142 rfl (fun h142 => ?_) (fun h142 => ?_)
          · refine zA_iconst dX5_readNumber_155 rfl ?_
            exact zA_rb (b := true) dX5_readNumber_156 rfl ⟨hf, cO_s (w := p) (by rw [txN_3 hfg (by rw [hs, hE, ← hV (by omega)]; omega), hs, hE]) h5, fun _ => ⟨by rw [h6, hV (by omega)], by rw [hs]; exact h7⟩⟩
          · refine zA_aload_n dX5_readNumber_145 rfl ?_
            refine zA_aload_n dX5_readNumber_146 rfl ?_
            refine zA_getE (w := (s0 : Int)) fX5_89 t_8 dX5_readNumber_147 h7 ?_
            refine zA_iconst dX5_readNumber_150 rfl ?_
            refine zA_cVb (st := []) kX5_47 t_8 rfl rfl (c_X5_failAt d ((s0 : Int)) (2) ν) rfl rfl rfl dX5_readNumber_151 (zfit0 (by omega) rfl) (fun v3 μ3 q3 => ?_)
            obtain ⟨rfl, rfl⟩ := q3
            exact zA_rb (b := false) dX5_readNumber_154 rfl ⟨f8_up (by decide) (f8_up (by decide) (hf)), cO_g (f := 2) (w := s0) (by rw [txN_2 hfg (by rw [hs, hE]; intro q; have := hV q.1; omega), hs]) (by decide) rfl rfl, fun e => by cases e⟩
    · have hxp := hT.2.2 p (by omega)
      refine zA_aload_n dX5_readNumber_44 rfl ?_
      refine zA_getR fX5_18 t_8 rfl dX5_readNumber_45 ?_
      refine zA_aload_n dX5_readNumber_48 rfl ?_
      refine zA_getE (w := (p : Int)) fX5_33 t_8 dX5_readNumber_49 h5 ?_
      refine zA_ialE (w := x p) (j := p) t_16 (by omega) (by omega) dX5_readNumber_52 rfl (hT.2.2 p (by omega)).1 ?_
      refine zA_cSb (st := []) kX5_119 (c_X5_isFigure d (x p) ν) rfl rfl rfl dX5_readNumber_53 (zfit0 (by omega) rfl) (fun v4 μ4 q4 => ?_)
      obtain ⟨bf, rfl⟩ := q4
      refine zA_ifb_eq (tgt := 116) dX5_readNumber_56 rfl (fun h56 => ?_) (fun h56 => ?_)
      · have hE : txE x L s0 = p := by
          rw [← hE0]
          exact txE_stop (by first | omega | (intro q; have := bf.mpr q.2; simp_all))
        have hV : p - s0 ≤ 3 → N = txV x L a := fun h => by
          unfold txV
          rw [hs, hE, hN, Nat.min_eq_left h]
        refine zA_aload_n dX5_readNumber_116 rfl ?_
        refine zA_getE (w := (p : Int)) fX5_33 t_8 dX5_readNumber_117 h5 ?_
        refine zA_aload_n dX5_readNumber_120 rfl ?_
        refine zA_getE (w := (s0 : Int)) fX5_89 t_8 dX5_readNumber_121 h7 ?_
        refine zA_isubB dX5_readNumber_124 ⟨by omega, by omega⟩ ?_
        refine zA_iconst dX5_readNumber_125 rfl ?_
        refine zA_icmp_gt (tgt := 145) dX5_readNumber_126 rfl (fun h126 => ?_) (fun h126 => ?_)
        · refine zA_aload_n dX5_readNumber_145 rfl ?_
          refine zA_aload_n dX5_readNumber_146 rfl ?_
          refine zA_getE (w := (s0 : Int)) fX5_89 t_8 dX5_readNumber_147 h7 ?_
          refine zA_iconst dX5_readNumber_150 rfl ?_
          refine zA_cVb (st := []) kX5_47 t_8 rfl rfl (c_X5_failAt d ((s0 : Int)) (2) ν) rfl rfl rfl dX5_readNumber_151 (zfit0 (by omega) rfl) (fun v5 μ5 q5 => ?_)
          obtain ⟨rfl, rfl⟩ := q5
          exact zA_rb (b := false) dX5_readNumber_154 rfl ⟨f8_up (by decide) (f8_up (by decide) (hf)), cO_g (f := 2) (w := s0) (by rw [txN_2 hfg (by rw [hs, hE]; intro q; have := hV q.1; omega), hs]) (by decide) rfl rfl, fun e => by cases e⟩
        · refine zA_aload_n dX5_readNumber_129 rfl ?_
          refine zA_getE (w := N) fX5_69 t_8 dX5_readNumber_130 h6 ?_
          refine zA_iload_n dX5_readNumber_133 rfl ?_
          refine zA_icmp_lt (tgt := 145) dX5_readNumber_134 rfl (fun h134 => ?_) (fun h134 => ?_)
          · refine zA_aload_n dX5_readNumber_145 rfl ?_
            refine zA_aload_n dX5_readNumber_146 rfl ?_
            refine zA_getE (w := (s0 : Int)) fX5_89 t_8 dX5_readNumber_147 h7 ?_
            refine zA_iconst dX5_readNumber_150 rfl ?_
            refine zA_cVb (st := []) kX5_47 t_8 rfl rfl (c_X5_failAt d ((s0 : Int)) (2) ν) rfl rfl rfl dX5_readNumber_151 (zfit0 (by omega) rfl) (fun v6 μ6 q6 => ?_)
            obtain ⟨rfl, rfl⟩ := q6
            exact zA_rb (b := false) dX5_readNumber_154 rfl ⟨f8_up (by decide) (f8_up (by decide) (hf)), cO_g (f := 2) (w := s0) (by rw [txN_2 hfg (by rw [hs, hE]; intro q; have := hV q.1; omega), hs]) (by decide) rfl rfl, fun e => by cases e⟩
          · refine zA_aload_n dX5_readNumber_137 rfl ?_
            refine zA_getE (w := N) fX5_69 t_8 dX5_readNumber_138 h6 ?_
            refine zA_iload_n dX5_readNumber_141 rfl ?_
            refine zA_icmp_le (tgt := 155) dX5_readNumber_142 rfl (fun h142 => ?_) (fun h142 => ?_)
            · refine zA_iconst dX5_readNumber_155 rfl ?_
              exact zA_rb (b := true) dX5_readNumber_156 rfl ⟨hf, cO_s (w := p) (by rw [txN_3 hfg (by rw [hs, hE, ← hV (by omega)]; omega), hs, hE]) h5, fun _ => ⟨by rw [h6, hV (by omega)], by rw [hs]; exact h7⟩⟩
            · refine zA_aload_n dX5_readNumber_145 rfl ?_
              refine zA_aload_n dX5_readNumber_146 rfl ?_
              refine zA_getE (w := (s0 : Int)) fX5_89 t_8 dX5_readNumber_147 h7 ?_
              refine zA_iconst dX5_readNumber_150 rfl ?_
              refine zA_cVb (st := []) kX5_47 t_8 rfl rfl (c_X5_failAt d ((s0 : Int)) (2) ν) rfl rfl rfl dX5_readNumber_151 (zfit0 (by omega) rfl) (fun v7 μ7 q7 => ?_)
              obtain ⟨rfl, rfl⟩ := q7
              exact zA_rb (b := false) dX5_readNumber_154 rfl ⟨f8_up (by decide) (f8_up (by decide) (hf)), cO_g (f := 2) (w := s0) (by rw [txN_2 hfg (by rw [hs, hE]; intro q; have := hV q.1; omega), hs]) (by decide) rfl rfl, fun e => by cases e⟩
      · refine zA_aload_n dX5_readNumber_59 rfl ?_
        refine zA_aload_n dX5_readNumber_60 rfl ?_
        refine zA_getE (w := (p : Int)) fX5_33 t_8 dX5_readNumber_61 h5 ?_
        refine zA_aload_n dX5_readNumber_64 rfl ?_
        refine zA_getE (w := (s0 : Int)) fX5_89 t_8 dX5_readNumber_65 h7 ?_
        refine zA_isubB dX5_readNumber_68 ⟨by omega, by omega⟩ ?_
        refine zA_iconst dX5_readNumber_69 rfl ?_
        refine zA_icmp_ge (tgt := 96) dX5_readNumber_70 rfl (fun h70 => ?_) (fun h70 => ?_)
        · refine zA_aload_n dX5_readNumber_96 rfl ?_
          refine zA_getE (w := N) fX5_69 t_8 dX5_readNumber_97 h6 ?_
          refine zA_putI wX5_69 t_8 dX5_readNumber_100 ?_
          refine zA_aload_n dX5_readNumber_103 rfl ?_
          refine zA_dup dX5_readNumber_104 rfl ?_
          refine zA_getE (w := (p : Int)) fX5_33 t_8 dX5_readNumber_105 (by rw [zup_n (by decide)]; exact h5) ?_
          refine zA_iconst dX5_readNumber_108 rfl ?_
          refine zA_iaddB dX5_readNumber_109 ⟨by omega, by omega⟩ ?_
          refine zA_putI wX5_33 t_8 dX5_readNumber_110 ?_
          refine zA_goto (tgt := 33) dX5_readNumber_113 rfl ?_
          exact ih _ (by omega) (p + 1) rfl _ _ (by omega) (f8_up (by decide) (f8_up (by decide) (hf))) (hT.fR (fR_u8 (by decide) (fR_u8 (by decide) (fR.refl _)))) (by rw [zup_s]; rfl) (by rw [zup_n (by decide), zup_s]) (by rw [zup_n (by decide), zup_n (by decide)]; exact h7) (by rw [hN, show min (p + 1 - s0) 3 = min (p - s0) 3 by omega]) (by omega) (by rw [txE_step (by omega) (bf.mp h56)]; exact hE0) (fun i h1 h2 => by by_cases e : i = p; (subst e; exact bf.mp h56); exact hfi i h1 (by omega))
        · refine zA_aload_n dX5_readNumber_73 rfl ?_
          refine zA_getE (w := N) fX5_69 t_8 dX5_readNumber_74 h6 ?_
          refine zA_bipush dX5_readNumber_77 rfl ?_
          refine zA_imulB dX5_readNumber_79 ⟨by omega, by omega⟩ ?_
          refine zA_aload_n dX5_readNumber_80 rfl ?_
          refine zA_getR fX5_18 t_8 rfl dX5_readNumber_81 ?_
          refine zA_aload_n dX5_readNumber_84 rfl ?_
          refine zA_getE (w := (p : Int)) fX5_33 t_8 dX5_readNumber_85 h5 ?_
          refine zA_ialE (w := x p) (j := p) t_16 (by omega) (by omega) dX5_readNumber_88 rfl (hT.2.2 p (by omega)).1 ?_
          refine zA_iaddB dX5_readNumber_89 ⟨by omega, by omega⟩ ?_
          refine zA_bipush dX5_readNumber_90 rfl ?_
          refine zA_isubB dX5_readNumber_92 ⟨by omega, by omega⟩ ?_
          refine zA_goto (tgt := 100) dX5_readNumber_93 rfl ?_
          refine zA_putI wX5_69 t_8 dX5_readNumber_100 ?_
          refine zA_aload_n dX5_readNumber_103 rfl ?_
          refine zA_dup dX5_readNumber_104 rfl ?_
          refine zA_getE (w := (p : Int)) fX5_33 t_8 dX5_readNumber_105 (by rw [zup_n (by decide)]; exact h5) ?_
          refine zA_iconst dX5_readNumber_108 rfl ?_
          refine zA_iaddB dX5_readNumber_109 ⟨by omega, by omega⟩ ?_
          refine zA_putI wX5_33 t_8 dX5_readNumber_110 ?_
          refine zA_goto (tgt := 33) dX5_readNumber_113 rfl ?_
          exact ih _ (by omega) (p + 1) rfl _ _ (by omega) (f8_up (by decide) (f8_up (by decide) (hf))) (hT.fR (fR_u8 (by decide) (fR_u8 (by decide) (fR.refl _)))) (by rw [zup_s]; rfl) (by rw [zup_n (by decide), zup_s]) (by rw [zup_n (by decide), zup_n (by decide)]; exact h7) (by rw [hN, show min (p - s0) 3 = p - s0 by omega, show min (p + 1 - s0) 3 = (p - s0) + 1 by omega]; simp only [txP]; rw [show s0 + (p - s0) = p by omega]) (by omega) (by rw [txE_step (by omega) (bf.mp h56)]; exact hE0) (fun i h1 h2 => by by_cases e : i = p; (subst e; exact bf.mp h56); exact hfi i h1 (by omega))
theorem c_X5_readNumber (d : Nat) (μ : zM) (x : Nat → Int) (L a : Nat) (lo hi : Int) (haL : a ≤ L) (hT : cT μ x L) (h5 : μ 8 5 = a) : zMet (d + 2) 0 yX5_readNumber cX5_readNumber 3 (some .boolean) TF μ [zR 8, zI lo, zI hi] (zPb (fun b ν => f8 μ ν ∧ cO ν b (txN x L lo hi a) ∧ (b = true → ν 8 6 = txV x L a ∧ ν 8 7 = (txS x L a : Int)))) := by
  have hL := hT.2.1
  have hsL := @txS_L x L a haL
  refine zMb_of RX5 rfl (by decide) rfl (ls := [some (zR 8), some (zI lo), some (zI hi)]) rfl (fun hok => ?_)
  refine zA_aload_n dX5_readNumber_0 rfl ?_
  refine zA_cVi (st := []) kX5_36 t_8 rfl rfl (c_X5_ahead d μ x L a haL hT h5) rfl rfl rfl dX5_readNumber_1 (zfit0 (by omega) rfl) (fun v1 μ1 q1 => ?_)
  obtain ⟨rfl, rfl⟩ := q1
  refine zA_cSb (st := []) kX5_119 (c_X5_isFigure d (txH x L a) (zup μ 8 5 ((txS x L a : Int)))) rfl rfl rfl dX5_readNumber_4 (zfit0 (by omega) rfl) (fun v2 μ2 q2 => ?_)
  obtain ⟨bf, rfl⟩ := q2
  refine zA_ifb_ne (tgt := 20) dX5_readNumber_7 rfl (fun h7 => ?_) (fun h7 => ?_)
  · refine zA_aload_n dX5_readNumber_20 rfl ?_
    refine zA_aload_n dX5_readNumber_21 rfl ?_
    refine zA_getE (w := (txS x L a : Int)) fX5_33 t_8 dX5_readNumber_22 (by rw [zup_s]) ?_
    refine zA_putI wX5_89 t_8 dX5_readNumber_25 ?_
    refine zA_aload_n dX5_readNumber_28 rfl ?_
    refine zA_iconst dX5_readNumber_29 rfl ?_
    refine zA_putI wX5_69 t_8 dX5_readNumber_30 ?_
    have hfg := bf.mp h7
    exact l_X5_readNumber d μ x L a _ lo hi rfl hfg _ (txS x L a) rfl 0 _ hsL (f8_up (by decide) (f8_up (by decide) (f8_up (by decide) (f8.refl _)))) (hT.fR (fR_u8 (by decide) (fR_u8 (by decide) (fR_u8 (by decide) (fR.refl _))))) rfl rfl rfl (by rw [Nat.sub_self]; rfl) (Nat.le_refl _) rfl (fun i h1 h2 => by omega)
  · refine zA_aload_n dX5_readNumber_10 rfl ?_
    refine zA_aload_n dX5_readNumber_11 rfl ?_
    refine zA_getE (w := (txS x L a : Int)) fX5_33 t_8 dX5_readNumber_12 (by rw [zup_s]) ?_
    refine zA_iconst dX5_readNumber_15 rfl ?_
    refine zA_cVb (st := []) kX5_47 t_8 rfl rfl (c_X5_failAt d ((txS x L a : Int)) (1) (zup μ 8 5 ((txS x L a : Int)))) rfl rfl rfl dX5_readNumber_16 (zfit0 (by omega) rfl) (fun v3 μ3 q3 => ?_)
    obtain ⟨rfl, rfl⟩ := q3
    exact zA_rb (b := false) dX5_readNumber_19 rfl ⟨f8_up (by decide) (f8_up (by decide) (f8_up (by decide) (f8.refl _))), cO_g (txN_1 (fun q => by have := bf.mpr q; simp_all)) (by decide) rfl rfl, fun e => by cases e⟩
