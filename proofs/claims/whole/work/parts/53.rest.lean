/-! ===== rest ===== -/
def rS (u : Int) (n : Nat) (g : Int) (f s : Nat → Int) (t : Nat) (R : Nat → Int) : Nat → Nat → Int
  | 0 => R
  | k + 1 => dRow u n g f s 0 (rS u n g f s t R k) t
def aEq (p q : Nat → Int) (n : Nat) : Bool := decide (∀ i, i < n → p i = q i)
theorem aEq_iff {p q : Nat → Int} {n : Nat} : aEq p q n = true ↔ ∀ i, i < n → p i = q i := by rw [aEq, decide_eq_true_eq]
theorem aEq_bb {p q p' q' : Nat → Int} {n : Nat} (h1 : ∀ i, i < n → p i = p' i) (h2 : ∀ i, i < n → q i = q' i) : aEq p q n = aEq p' q' n := by
  unfold aEq
  refine decide_eq_decide.mpr ⟨fun w i hi => ?_, fun w i hi => ?_⟩
  · rw [← h1 i hi, ← h2 i hi]; exact w i hi
  · rw [h1 i hi, h2 i hi]; exact w i hi
theorem aEq_s {p q : Nat → Int} {n : Nat} {b : Bool} (h : aEq p q n = b) : aEq p q (n + 1) = (b && decide (p n = q n)) := by
  subst h
  rw [Bool.eq_iff_iff, Bool.and_eq_true, aEq_iff, aEq_iff, decide_eq_true_eq]
  exact ⟨fun h => ⟨fun i hi => h i (by omega), h n (by omega)⟩, fun h i hi => by rcases Nat.lt_or_eq_of_le (Nat.lt_succ_iff.mp hi) with q | q; exact h.1 i q; rw [q]; exact h.2⟩
def rP (S : Nat → Nat → Int) (k : Nat) : Bool := aEq (S k) (S (k + 1)) 30
def rOut (o : Option Nat) (S : Nat → Nat → Int) (a : Int) (i : Nat) : Int := match o with | none => -1 | some j => if a = -1 then (j : Int) else S (j + 1) i
theorem rS_ok {u : Int} {n m t : Nat} {g : Int} {f s : Nat → Int} {R : Nat → Int} (hn : n ≤ 5) (hu : 0 ≤ u ∧ u ≤ 30) (hd : dOk m t f s) (h : rOk n m R) : ∀ k, rOk n m (rS u n g f s t R k)
  | 0 => h
  | k + 1 => dRow_ok hn hu hd (rS_ok hn hu hd h k) t (Nat.le_refl _)
theorem rP_congr {S S' : Nat → Nat → Int} (h : ∀ k i, i < 30 → S k i = S' k i) (k : Nat) : rP S k = rP S' k := aEq_bb (h k) (h (k + 1))
theorem rOut_congr {S S' : Nat → Nat → Int} (h : ∀ k i, i < 30 → S k i = S' k i) (a : Int) {i : Nat} (hi : a ≠ -1 → i < 30) : rOut (fB (rP S) 201) S a i = rOut (fB (rP S') 201) S' a i := by
  rw [fB_congr (fun j _ => rP_congr h j)]
  unfold rOut
  split
  · rfl
  · split
    · rfl
    · exact h _ _ (hi (by assumption))
theorem rS_congrR {u : Int} {n m t : Nat} {g : Int} {f s : Nat → Int} {R R' : Nat → Int} (hn : n ≤ 5) (hm : m ≤ 6) (hd : dOk m t f s) (h : ∀ i, i < 30 → R i = R' i) : ∀ k i, i < 30 → rS u n g f s t R k i = rS u n g f s t R' k i
  | 0, i, hi => h i hi
  | k + 1, i, hi => dRow_congrR hn hm hd (rS_congrR hn hm hd h k) (Nat.le_refl _) i hi
theorem rS_eq {μ : zM} {n m t : Nat} {u : Int} (hI : zInv μ n m t u) {R R' : Nat → Int} (hR : ∀ i, lv n m i → R i = R' i) : ∀ k i, lv n m i → rS u n (μ 52 1) (μ 3) (μ 4) t R k i = rS u n (μ 114 30) (μ 112) (μ 113) t R' k i
  | 0, i, hi => hR i hi
  | k + 1, i, hi => tr_eq hI (rS_eq hI hR k) (Nat.le_refl _) i hi
theorem rP_live {u : Int} {n m t : Nat} {g : Int} {f s : Nat → Int} {R : Nat → Int} (hn : n ≤ 5) (hm : m ≤ 6) (hd : dOk m t f s) (k : Nat) : rP (rS u n g f s t R) k = true ↔ ∀ i, lv n m i → rS u n g f s t R k i = rS u n g f s t R (k + 1) i := by
  rw [rP, aEq_iff]
  refine ⟨fun h i hi => h i (by omega), fun h i hi => ?_⟩
  by_cases hl : lv n m i
  · exact h i hl
  · exact (dRow_dead hd hl t (Nat.le_refl _)).symm
theorem rP_eq {μ : zM} {n m t : Nat} {u : Int} (hI : zInv μ n m t u) {R R' : Nat → Int} (hR : ∀ i, lv n m i → R i = R' i) (k : Nat) : rP (rS u n (μ 52 1) (μ 3) (μ 4) t R) k = rP (rS u n (μ 114 30) (μ 112) (μ 113) t R') k := by
  have hn := hI.1.1.2.2.2.2.1
  have hm := hI.1.1.2.2.2.2.2.1
  rw [Bool.eq_iff_iff, rP_live hn hm hI.1.1.2.2.2.2.2.2.2.2, rP_live hn hm hI.1.2.1.2.2.2.2.2.2.2.2]
  exact ⟨fun h i hi => by rw [← rS_eq hI hR k i hi, ← rS_eq hI hR (k + 1) i hi]; exact h i hi, fun h i hi => by rw [rS_eq hI hR k i hi, rS_eq hI hR (k + 1) i hi]; exact h i hi⟩
theorem rOut_eq {μ : zM} {n m t : Nat} {u : Int} (hI : zInv μ n m t u) {R R' : Nat → Int} (hR : ∀ i, lv n m i → R i = R' i) (a : Int) {i : Nat} (hi : a ≠ -1 → lv n m i) : rOut (fB (rP (rS u n (μ 52 1) (μ 3) (μ 4) t R)) 201) (rS u n (μ 52 1) (μ 3) (μ 4) t R) a i = rOut (fB (rP (rS u n (μ 114 30) (μ 112) (μ 113) t R')) 201) (rS u n (μ 114 30) (μ 112) (μ 113) t R') a i := by
  rw [fB_congr (fun j _ => rP_eq hI hR j)]
  unfold rOut
  split
  · rfl
  · split
    · rfl
    · exact rS_eq hI hR _ _ (hi (by assumption))
theorem l_X8_isUnchanged (d : Nat) (ν : zM) : ∀ (t0 k : Nat), 30 - k = t0 → k ≤ 30 → (∀ i, i < k → ν 105 i = ν 104 i) → zA RX8 cX8_isUnchanged 2 (zRm (d + 1) 0) zN0 TF 0 ν 2 [some (zR 0), some (zI (k : Int))] [] (zPb (fun v ξ => (v = true ↔ ∀ i, i < 30 → ν 105 i = ν 104 i) ∧ ν = ξ)) := by
  intro t0
  induction t0 using Nat.strongRecOn with
  | ind t0 ih =>
    intro k hk hk30 hv
    refine zA_iload_n dX8_isUnchanged_2 rfl ?_
    refine zA_bipush dX8_isUnchanged_3 rfl ?_
    refine zA_icmp_ge (tgt := 31) dX8_isUnchanged_5 rfl (fun h5 => ?_) (fun h5 => ?_)
    · refine zA_iconst dX8_isUnchanged_31 rfl ?_
      exact zA_rb (b := true) dX8_isUnchanged_32 rfl ⟨⟨fun _ i hi => hv i (by omega), fun _ => rfl⟩, rfl⟩
    · refine zA_aload_n dX8_isUnchanged_8 rfl ?_
      refine zA_getR fX8_78 t_0 rfl dX8_isUnchanged_9 ?_
      refine zA_iload_n dX8_isUnchanged_12 rfl ?_
      refine zA_ialE (w := ν 104 k) (j := k) t_104 (by omega) (by omega) dX8_isUnchanged_13 rfl rfl ?_
      refine zA_aload_n dX8_isUnchanged_14 rfl ?_
      refine zA_getR fX8_81 t_0 rfl dX8_isUnchanged_15 ?_
      refine zA_iload_n dX8_isUnchanged_18 rfl ?_
      refine zA_ialE (w := ν 105 k) (j := k) t_105 (by omega) (by omega) dX8_isUnchanged_19 rfl rfl ?_
      refine zA_icmp_eq (tgt := 25) dX8_isUnchanged_20 rfl (fun h20 => ?_) (fun h20 => ?_)
      · refine zA_iincB (ls' := [some (zR 0), some (zI ((k : Int) + 1))]) dX8_isUnchanged_25 rfl rfl ⟨by omega, by omega⟩ rfl ?_
        refine zA_goto (tgt := 2) dX8_isUnchanged_28 rfl ?_
        refine ih _ (by omega) (k + 1) rfl (by omega) (fun j hj => ?_)
        by_cases e : j = k
        · subst e; exact h20.symm
        · exact hv j (by omega)
      · refine zA_iconst dX8_isUnchanged_23 rfl ?_
        exact zA_rb (b := false) dX8_isUnchanged_24 rfl ⟨⟨fun q => (by cases q), fun q => absurd (q k (by omega)).symm h20⟩, rfl⟩
theorem c_X8_isUnchanged (d : Nat) (ν : zM) : zMet (d + 1) 0 yX8_isUnchanged cX8_isUnchanged 2 (some .boolean) TF ν [zR 0] (zPb (fun v ξ => (v = true ↔ ∀ i, i < 30 → ν 105 i = ν 104 i) ∧ ν = ξ)) := by
  refine zMb_of RX8 rfl (by decide) rfl (ls := [some (zR 0), none]) rfl (fun hok => ?_)
  refine zA_iconst dX8_isUnchanged_0 rfl ?_
  refine zA_istore_n (ls' := [some (zR 0), some (zI 0)]) dX8_isUnchanged_1 rfl rfl ?_
  exact l_X8_isUnchanged d ν _ 0 rfl (by omega) (fun j hj => by omega)
theorem l_X8_daysToRest (d : Nat) (μ : zM) (n m t : Nat) (u : Int) (R : Nat → Int) (hH : zHs μ n m t u) (hR : rOk n m R) : ∀ (t0 k : Nat), 201 - k = t0 → k ≤ 201 → ∀ ν : zM, ν 104 = (rS u n (μ 52 1) (μ 3) (μ 4) t R) k → (∀ c, c ≠ 104 → c ≠ 105 → c ≠ 5 → c ≠ 6 → c ≠ 7 → ν c = μ c) → fB (rP (rS u n (μ 52 1) (μ 3) (μ 4) t R)) k = none → zA RX8 cX8_daysToRest 2 (zRm (d + 6) 0) zN0 TF 0 ν 16 [some (zR 0), some (zI (k : Int))] [] (zPi (fun v ξ => v = gOb (fB (rP (rS u n (μ 52 1) (μ 3) (μ 4) t R)) 201) ∧ (∀ j, fB (rP (rS u n (μ 52 1) (μ 3) (μ 4) t R)) 201 = some j → ξ 104 = (rS u n (μ 52 1) (μ 3) (μ 4) t R) (j + 1)) ∧ (∀ c, c ≠ 104 → c ≠ 105 → c ≠ 5 → c ≠ 6 → c ≠ 7 → ξ c = μ c))) := by
  have hH0 := hH
  obtain ⟨hn, hu, hm, ht, hn5, hm6, ht10, hu1, hdk⟩ := hH0
  intro t0
  induction t0 using Nat.strongRecOn with
  | ind t0 ih =>
    intro k hk hk2 ν hT hfr hF
    have hgl : ν 52 1 = μ 52 1 := by rw [hfr 52 (by decide) (by decide) (by decide) (by decide) (by decide)]
    refine zA_iload_n dX8_daysToRest_16 rfl ?_
    refine zA_sipush dX8_daysToRest_17 rfl ?_
    refine zA_icmp_gt (tgt := 68) dX8_daysToRest_20 rfl (fun h20 => ?_) (fun h20 => ?_)
    · refine zA_iconst dX8_daysToRest_68 rfl ?_
      exact zA_ri dX8_daysToRest_69 ⟨by rw [show (201 : Nat) = k by omega, hF]; rfl, fun j hj => (by rw [show (201 : Nat) = k by omega, hF] at hj; cases hj), hfr⟩
    · refine zA_aload_n dX8_daysToRest_23 rfl ?_
      refine zA_getR fX8_78 t_0 rfl dX8_daysToRest_24 ?_
      refine zA_aload_n dX8_daysToRest_27 rfl ?_
      refine zA_getR fX8_81 t_0 rfl dX8_daysToRest_28 ?_
      refine zA_cSv (st := []) kX8_172 (c_X8_copyPartsR (d + 4) 104 105 ν t_104 t_105) rfl rfl rfl dX8_daysToRest_31 (zfit0 (by omega) rfl) (fun μ1 q1 => ?_)
      obtain ⟨q1a, q1b⟩ := q1
      have hf1 : ∀ c, c < 5 → μ1 c = μ c := fun c hc => by rw [q1b c (by omega), hfr c (by omega) (by omega) (by omega) (by omega) (by omega)]
      refine zA_aload_n dX8_daysToRest_34 rfl ?_
      refine zA_getR fX8_12 t_0 rfl dX8_daysToRest_35 ?_
      refine zA_aload_n dX8_daysToRest_38 rfl ?_
      refine zA_getR fX8_78 t_0 rfl dX8_daysToRest_39 ?_
      refine zA_aload_n dX8_daysToRest_42 rfl ?_
      refine zA_getR fX8_47 t_0 rfl dX8_daysToRest_43 ?_
      refine zA_getE (w := μ 52 1) fX8_126 t_52 dX8_daysToRest_46 (by rw [q1b 52 (by decide)]; exact hgl) ?_
      refine zA_iconst dX8_daysToRest_49 rfl ?_
      refine zA_cVv (st := []) kX8_196 t_1 rfl rfl (c_X2_goThroughDay d μ1 104 n m t u (μ 52 1) 0 t_104 (hH.keep (hf1 1 (by decide)) (hf1 3 (by decide)) (hf1 4 (by decide))) (by rw [q1b 104 (by decide), hT]; exact rS_ok hn5 hu1 hdk hR k)) rfl rfl rfl dX8_daysToRest_50 (zfit0 (by omega) rfl) (fun μ2 q2 => ?_)
      obtain ⟨q2a, q2b⟩ := q2
      have E : μ2 104 = (rS u n (μ 52 1) (μ 3) (μ 4) t R) (k + 1) := by rw [q2a, hf1 3 (by decide), hf1 4 (by decide), q1b 104 (by decide), hT]; rfl
      have E5 : ∀ i, i < 30 → μ2 105 i = (rS u n (μ 52 1) (μ 3) (μ 4) t R) k i := fun i hi => by rw [q2b 105 (by decide) (by decide) (by decide) (by decide), q1a i hi, hT]
      have F2 : ∀ c, c ≠ 104 → c ≠ 105 → c ≠ 5 → c ≠ 6 → c ≠ 7 → μ2 c = μ c := fun c c1 c2 c3 c4 c5 => by rw [q2b c c1 c3 c4 c5, q1b c c2, hfr c c1 c2 c3 c4 c5]
      refine zA_aload_n dX8_daysToRest_53 rfl ?_
      refine zA_cVb (st := []) kX8_307 t_0 rfl rfl (c_X8_isUnchanged (d + 4) μ2) rfl rfl rfl dX8_daysToRest_54 (zfit0 (by omega) rfl) (fun v3 μ3 q3 => ?_)
      obtain ⟨b3, rfl⟩ := q3
      have b4 : v3 = true ↔ rP (rS u n (μ 52 1) (μ 3) (μ 4) t R) k = true := by
        rw [b3, rP, aEq_iff]
        constructor
        · intro q i hi; rw [← E5 i hi, q i hi, E]
        · intro q i hi; rw [E5 i hi, q i hi, E]
      refine zA_ifb_eq (tgt := 62) dX8_daysToRest_57 rfl (fun h57 => ?_) (fun h57 => ?_)
      · refine zA_iincB (ls' := [some (zR 0), some (zI ((k : Int) + 1))]) dX8_daysToRest_62 rfl rfl ⟨by omega, by omega⟩ rfl ?_
        refine zA_goto (tgt := 16) dX8_daysToRest_65 rfl ?_
        exact ih _ (by omega) (k + 1) rfl (by omega) μ2 E F2 (fB_no hF (by cases hx : rP (rS u n (μ 52 1) (μ 3) (μ 4) t R) k with | false => rfl | true => exfalso; have := b4.mpr hx; simp_all))
      · refine zA_iload_n dX8_daysToRest_60 rfl ?_
        exact zA_ri dX8_daysToRest_61 ⟨by rw [fB_yes hF (b4.mp (by simpa using h57)) 201 (by omega)]; rfl, fun j hj => by rw [fB_yes hF (b4.mp (by simpa using h57)) 201 (by omega)] at hj; cases hj; exact E, F2⟩
theorem c_X8_daysToRest (d : Nat) (μ : zM) (n m t : Nat) (u : Int) (hH : zHs μ n m t u) (hok : rOk n m (μ 53)) : zMet (d + 6) 0 yX8_daysToRest cX8_daysToRest 2 (some .int) TF μ [zR 0] (zPi (fun v ξ => ∃ R, (∀ i, i < 30 → R i = μ 53 i) ∧ v = gOb (fB (rP (rS u n (μ 52 1) (μ 3) (μ 4) t R)) 201) ∧ (∀ j, fB (rP (rS u n (μ 52 1) (μ 3) (μ 4) t R)) 201 = some j → ξ 104 = (rS u n (μ 52 1) (μ 3) (μ 4) t R) (j + 1)) ∧ (∀ c, c ≠ 104 → c ≠ 105 → c ≠ 5 → c ≠ 6 → c ≠ 7 → ξ c = μ c))) := by
  have hH0 := hH
  obtain ⟨hn, hu, hm, ht, hn5, hm6, ht10, hu1, hdk⟩ := hH0
  refine zMi_of RX8 rfl (by decide) rfl (ls := [some (zR 0), none]) rfl (fun hok0 => ?_)
  refine zA_aload_n dX8_daysToRest_0 rfl ?_
  refine zA_getR fX8_47 t_0 rfl dX8_daysToRest_1 ?_
  refine zA_getR fX8_144 t_52 rfl dX8_daysToRest_4 ?_
  refine zA_aload_n dX8_daysToRest_7 rfl ?_
  refine zA_getR fX8_78 t_0 rfl dX8_daysToRest_8 ?_
  refine zA_cSv (st := []) kX8_172 (c_X8_copyPartsR (d + 4) 53 104 μ t_53 t_104) rfl rfl rfl dX8_daysToRest_11 (zfit0 (by omega) rfl) (fun μ1 q1 => ?_)
  obtain ⟨q1a, q1b⟩ := q1
  refine zA_iconst dX8_daysToRest_14 rfl ?_
  refine zA_istore_n (ls' := [some (zR 0), some (zI 0)]) dX8_daysToRest_15 rfl rfl ?_
  exact zAi_mono (l_X8_daysToRest d μ n m t u (μ1 104) hH (rOk_congr hn5 hm6 (fun i hi => (q1a i hi).symm) hok) _ 0 rfl (by omega) μ1 rfl (fun c c1 _ _ _ _ => q1b c c1) rfl) (fun v ξ h => ⟨μ1 104, q1a, h⟩)
theorem c_X8_rest (d : Nat) (μ : zM) (n m t : Nat) (u a c : Int) (hH : zHs μ n m t u) (hok : rOk n m (μ 53)) : zMet (d + 7) 0 yX8_rest cX8_rest 4 (some .int) TF μ [zR 0, zI a, zI c] (zPi (fun v ξ => qC μ ξ ∧ ((¬ (a = -1 ∨ ((0 ≤ a ∧ a < m) ∧ (0 ≤ c ∧ c < n))) ∧ v = -1000000001) ∨ ((a = -1 ∨ ((0 ≤ a ∧ a < m) ∧ (0 ≤ c ∧ c < n))) ∧ ∃ R, (∀ i, i < 30 → R i = μ 53 i) ∧ v = rOut (fB (rP (rS u n (μ 52 1) (μ 3) (μ 4) t R)) 201) (rS u n (μ 52 1) (μ 3) (μ 4) t R) a (a * 5 + c).toNat)))) := by
  have hH0 := hH
  obtain ⟨hn, hu, hm, ht, hn5, hm6, ht10, hu1, hdk⟩ := hH0
  refine zMi_of RX8 rfl (by decide) rfl (ls := [some (zR 0), some (zI a), some (zI c), none]) rfl (fun hok0 => ?_)
  refine zA_iload_n dX8_rest_0 rfl ?_
  refine zA_iconst dX8_rest_1 rfl ?_
  refine zA_icmp_eq (tgt := 20) dX8_rest_2 rfl (fun h2 => ?_) (fun h2 => ?_)
  · have hb0 : a = -1 ∨ ((0 ≤ a ∧ a < m) ∧ (0 ≤ c ∧ c < n)) := by first | exact Or.inl (by assumption) | exact Or.inr (b1.mp (by assumption))
    refine zA_aload_n dX8_rest_20 rfl ?_
    refine zA_cVi (st := []) kX8_249 t_0 rfl rfl (c_X8_daysToRest d μ n m t u hH hok) rfl rfl rfl dX8_rest_21 (zfit0 (by omega) rfl) (fun v1 μ1 q1 => ?_)
    obtain ⟨R, hR, e1, f1, g1⟩ := q1
    have hq : qC μ μ1 := fun k hk => g1 k (fun e => hk (by unfold cScr; omega)) (fun e => hk (by unfold cScr; omega)) (fun e => hk (by unfold cScr; omega)) (fun e => hk (by unfold cScr; omega)) (fun e => hk (by unfold cScr; omega))
    refine zA_istore_n (ls' := [some (zR 0), some (zI a), some (zI c), some (zI v1)]) dX8_rest_24 rfl rfl ?_
    refine zA_iload_n dX8_rest_25 rfl ?_
    refine zA_iconst dX8_rest_26 rfl ?_
    refine zA_icmp_eq (tgt := 35) dX8_rest_27 rfl (fun h27 => ?_) (fun h27 => ?_)
    · refine zA_iload_n dX8_rest_35 rfl ?_
      refine zA_ri dX8_rest_36 ⟨hq, Or.inr ⟨hb0, R, hR, ?_⟩⟩
      unfold rOut
      cases hF : fB (rP (rS u n (μ 52 1) (μ 3) (μ 4) t R)) 201 with
      | none => rw [hF] at e1; simp only [gOb] at e1; first | exact e1 | (exfalso; omega)
      | some j =>
        rw [hF] at e1; simp only [gOb] at e1
        simp only
        first
          | (rw [if_pos (by omega)]; exact e1)
          | (exfalso; omega)
          | (rw [if_neg (by omega), f1 j hF])
    · refine zA_iload_n dX8_rest_30 rfl ?_
      refine zA_iconst dX8_rest_31 rfl ?_
      refine zA_icmp_ne (tgt := 37) dX8_rest_32 rfl (fun h32 => ?_) (fun h32 => ?_)
      · refine zA_aload_n dX8_rest_37 rfl ?_
        refine zA_getR fX8_78 t_0 rfl dX8_rest_38 ?_
        refine zA_iload_n dX8_rest_41 rfl ?_
        refine zA_iload_n dX8_rest_42 rfl ?_
        refine zA_cSi (st := [zR 104]) kX8_147 (c_X8_cell (d + 5) a c μ1 (by omega) (by omega)) rfl rfl rfl dX8_rest_43 (zfit0 (by omega) rfl) (fun v2 μ2 q2 => ?_)
        obtain ⟨rfl, rfl⟩ := q2
        refine zA_ialE (w := μ1 104 ((a * 5 + c).toNat)) (j := (a * 5 + c).toNat) t_104 (by omega) (by omega) dX8_rest_46 rfl rfl ?_
        refine zA_ri dX8_rest_47 ⟨hq, Or.inr ⟨hb0, R, hR, ?_⟩⟩
        unfold rOut
        cases hF : fB (rP (rS u n (μ 52 1) (μ 3) (μ 4) t R)) 201 with
        | none => rw [hF] at e1; simp only [gOb] at e1; first | exact e1 | (exfalso; omega)
        | some j =>
          rw [hF] at e1; simp only [gOb] at e1
          simp only
          first
            | (rw [if_pos (by omega)]; exact e1)
            | (exfalso; omega)
            | (rw [if_neg (by omega), f1 j hF])
      · refine zA_iload_n dX8_rest_35 rfl ?_
        refine zA_ri dX8_rest_36 ⟨hq, Or.inr ⟨hb0, R, hR, ?_⟩⟩
        unfold rOut
        cases hF : fB (rP (rS u n (μ 52 1) (μ 3) (μ 4) t R)) 201 with
        | none => rw [hF] at e1; simp only [gOb] at e1; first | exact e1 | (exfalso; omega)
        | some j =>
          rw [hF] at e1; simp only [gOb] at e1
          simp only
          first
            | (rw [if_pos (by omega)]; exact e1)
            | (exfalso; omega)
            | (rw [if_neg (by omega), f1 j hF])
  · refine zA_aload_n dX8_rest_5 rfl ?_
    refine zA_getR fX8_12 t_0 rfl dX8_rest_6 ?_
    refine zA_iload_n dX8_rest_9 rfl ?_
    refine zA_iload_n dX8_rest_10 rfl ?_
    refine zA_cVb (st := []) kX8_140 t_1 rfl rfl (c_X2_hasCell (d + 4) a c μ) rfl rfl rfl dX8_rest_11 (zfit0 (by omega) rfl) (fun v3 μ3 q3 => ?_)
    obtain ⟨b1, rfl⟩ := q3
    rw [hn, hm] at b1
    refine zA_ifb_ne (tgt := 20) dX8_rest_14 rfl (fun h14 => ?_) (fun h14 => ?_)
    · have hb0 : a = -1 ∨ ((0 ≤ a ∧ a < m) ∧ (0 ≤ c ∧ c < n)) := by first | exact Or.inl (by assumption) | exact Or.inr (b1.mp (by assumption))
      refine zA_aload_n dX8_rest_20 rfl ?_
      refine zA_cVi (st := []) kX8_249 t_0 rfl rfl (c_X8_daysToRest d μ n m t u hH hok) rfl rfl rfl dX8_rest_21 (zfit0 (by omega) rfl) (fun v4 μ4 q4 => ?_)
      obtain ⟨R, hR, e4, f4, g4⟩ := q4
      have hq : qC μ μ4 := fun k hk => g4 k (fun e => hk (by unfold cScr; omega)) (fun e => hk (by unfold cScr; omega)) (fun e => hk (by unfold cScr; omega)) (fun e => hk (by unfold cScr; omega)) (fun e => hk (by unfold cScr; omega))
      refine zA_istore_n (ls' := [some (zR 0), some (zI a), some (zI c), some (zI v4)]) dX8_rest_24 rfl rfl ?_
      refine zA_iload_n dX8_rest_25 rfl ?_
      refine zA_iconst dX8_rest_26 rfl ?_
      refine zA_icmp_eq (tgt := 35) dX8_rest_27 rfl (fun h27 => ?_) (fun h27 => ?_)
      · refine zA_iload_n dX8_rest_35 rfl ?_
        refine zA_ri dX8_rest_36 ⟨hq, Or.inr ⟨hb0, R, hR, ?_⟩⟩
        unfold rOut
        cases hF : fB (rP (rS u n (μ 52 1) (μ 3) (μ 4) t R)) 201 with
        | none => rw [hF] at e4; simp only [gOb] at e4; first | exact e4 | (exfalso; omega)
        | some j =>
          rw [hF] at e4; simp only [gOb] at e4
          simp only
          first
            | (rw [if_pos (by omega)]; exact e4)
            | (exfalso; omega)
            | (rw [if_neg (by omega), f4 j hF])
      · refine zA_iload_n dX8_rest_30 rfl ?_
        refine zA_iconst dX8_rest_31 rfl ?_
        refine zA_icmp_ne (tgt := 37) dX8_rest_32 rfl (fun h32 => ?_) (fun h32 => ?_)
        · refine zA_aload_n dX8_rest_37 rfl ?_
          refine zA_getR fX8_78 t_0 rfl dX8_rest_38 ?_
          refine zA_iload_n dX8_rest_41 rfl ?_
          refine zA_iload_n dX8_rest_42 rfl ?_
          refine zA_cSi (st := [zR 104]) kX8_147 (c_X8_cell (d + 5) a c μ4 (by omega) (by omega)) rfl rfl rfl dX8_rest_43 (zfit0 (by omega) rfl) (fun v5 μ5 q5 => ?_)
          obtain ⟨rfl, rfl⟩ := q5
          refine zA_ialE (w := μ4 104 ((a * 5 + c).toNat)) (j := (a * 5 + c).toNat) t_104 (by omega) (by omega) dX8_rest_46 rfl rfl ?_
          refine zA_ri dX8_rest_47 ⟨hq, Or.inr ⟨hb0, R, hR, ?_⟩⟩
          unfold rOut
          cases hF : fB (rP (rS u n (μ 52 1) (μ 3) (μ 4) t R)) 201 with
          | none => rw [hF] at e4; simp only [gOb] at e4; first | exact e4 | (exfalso; omega)
          | some j =>
            rw [hF] at e4; simp only [gOb] at e4
            simp only
            first
              | (rw [if_pos (by omega)]; exact e4)
              | (exfalso; omega)
              | (rw [if_neg (by omega), f4 j hF])
        · refine zA_iload_n dX8_rest_35 rfl ?_
          refine zA_ri dX8_rest_36 ⟨hq, Or.inr ⟨hb0, R, hR, ?_⟩⟩
          unfold rOut
          cases hF : fB (rP (rS u n (μ 52 1) (μ 3) (μ 4) t R)) 201 with
          | none => rw [hF] at e4; simp only [gOb] at e4; first | exact e4 | (exfalso; omega)
          | some j =>
            rw [hF] at e4; simp only [gOb] at e4
            simp only
            first
              | (rw [if_pos (by omega)]; exact e4)
              | (exfalso; omega)
              | (rw [if_neg (by omega), f4 j hF])
    · refine zA_ldc cX8_151 dX8_rest_17 rfl ?_
      exact zA_ri dX8_rest_19 ⟨qC.refl _, Or.inl ⟨fun q => by rcases q with q | q; exact h2 q; have := b1.mpr q; simp_all, rfl⟩⟩
theorem l_X9_restIn1A (d k : Nat) (ν0 : zM) (P : zP) (hc : ∀ ν : zM, (∀ j, j < 30 → ν 123 j = ν0 122 j) → (∀ c, c ≠ 123 → ν c = ν0 c) → zA RX9 cX9_restIn 4 (zRm (d + 5) 0) zN0 TF 0 ν 39 [some (zR 110), some (zI (k : Int)), none, none] [] P) : ∀ (t0 i : Nat), 30 - i = t0 → i ≤ 30 → ∀ ν : zM, (∀ j, j < i → ν 123 j = ν0 122 j) → (∀ c, c ≠ 123 → ν c = ν0 c) → zA RX9 cX9_restIn 4 (zRm (d + 5) 0) zN0 TF 0 ν 15 [some (zR 110), some (zI (k : Int)), some (zI (i : Int)), none] [] P := by
  intro t0
  induction t0 using Nat.strongRecOn with
  | ind t0 ih =>
    intro i hi hi30 ν hv hfr
    refine zA_iload_n dX9_restIn_15 rfl ?_
    refine zA_bipush dX9_restIn_16 rfl ?_
    refine zA_icmp_ge (tgt := 39) dX9_restIn_18 rfl (fun h18 => ?_) (fun h18 => ?_)
    · refine zA_dr (ls' := [some (zR 110), some (zI (k : Int)), none, none]) 2 rfl ?_
      exact hc ν (fun j hj => hv j (by omega)) hfr
    · refine zA_aload_n dX9_restIn_21 rfl ?_
      refine zA_getR fX9_50 t_110 rfl dX9_restIn_22 ?_
      refine zA_iload_n dX9_restIn_25 rfl ?_
      refine zA_aload_n dX9_restIn_26 rfl ?_
      refine zA_getR fX9_47 t_110 rfl dX9_restIn_27 ?_
      refine zA_iload_n dX9_restIn_30 rfl ?_
      refine zA_ialE (w := ν0 122 i) (j := i) t_122 (by omega) (by omega) dX9_restIn_31 rfl (by rw [hfr 122 (by decide)]) ?_
      refine zA_iasE (j := i) t_123 (by omega) (by omega) dX9_restIn_32 rfl ?_
      refine zA_iincB (ls' := [some (zR 110), some (zI (k : Int)), some (zI ((i : Int) + 1)), none]) dX9_restIn_33 rfl rfl ⟨by omega, by omega⟩ rfl ?_
      refine zA_goto (tgt := 15) dX9_restIn_36 rfl ?_
      refine ih _ (by omega) (i + 1) rfl (by omega) _ ?_ ?_
      · intro j hj
        by_cases e : j = i
        · subst e
          rw [zup_s]
        · rw [zup_n (fun q => e q.2), hv j (by omega)]
      · intro c hc
        rw [← hfr c hc]
        funext j
        rw [zup_k hc]
theorem l_X9_restIn1B (d k : Nat) (ν0 : zM) (P : zP) (hc : ∀ ν : zM, (∀ j, j < 30 → ν 123 j = ν0 122 j) → (∀ c, c ≠ 123 → ν c = ν0 c) → zA RX9 cX9_restIn 4 (zRm (d + 5) 0) zN0 TF 0 ν 39 [some (zR 110), some (zI (k : Int)), none, some (zI 30)] [] P) : ∀ (t0 i : Nat), 30 - i = t0 → i ≤ 30 → ∀ ν : zM, (∀ j, j < i → ν 123 j = ν0 122 j) → (∀ c, c ≠ 123 → ν c = ν0 c) → zA RX9 cX9_restIn 4 (zRm (d + 5) 0) zN0 TF 0 ν 15 [some (zR 110), some (zI (k : Int)), some (zI (i : Int)), some (zI 30)] [] P := by
  intro t0
  induction t0 using Nat.strongRecOn with
  | ind t0 ih =>
    intro i hi hi30 ν hv hfr
    refine zA_iload_n dX9_restIn_15 rfl ?_
    refine zA_bipush dX9_restIn_16 rfl ?_
    refine zA_icmp_ge (tgt := 39) dX9_restIn_18 rfl (fun h18 => ?_) (fun h18 => ?_)
    · refine zA_dr (ls' := [some (zR 110), some (zI (k : Int)), none, some (zI 30)]) 2 rfl ?_
      exact hc ν (fun j hj => hv j (by omega)) hfr
    · refine zA_aload_n dX9_restIn_21 rfl ?_
      refine zA_getR fX9_50 t_110 rfl dX9_restIn_22 ?_
      refine zA_iload_n dX9_restIn_25 rfl ?_
      refine zA_aload_n dX9_restIn_26 rfl ?_
      refine zA_getR fX9_47 t_110 rfl dX9_restIn_27 ?_
      refine zA_iload_n dX9_restIn_30 rfl ?_
      refine zA_ialE (w := ν0 122 i) (j := i) t_122 (by omega) (by omega) dX9_restIn_31 rfl (by rw [hfr 122 (by decide)]) ?_
      refine zA_iasE (j := i) t_123 (by omega) (by omega) dX9_restIn_32 rfl ?_
      refine zA_iincB (ls' := [some (zR 110), some (zI (k : Int)), some (zI ((i : Int) + 1)), some (zI 30)]) dX9_restIn_33 rfl rfl ⟨by omega, by omega⟩ rfl ?_
      refine zA_goto (tgt := 15) dX9_restIn_36 rfl ?_
      refine ih _ (by omega) (i + 1) rfl (by omega) _ ?_ ?_
      · intro j hj
        by_cases e : j = i
        · subst e
          rw [zup_s]
        · rw [zup_n (fun q => e q.2), hv j (by omega)]
      · intro c hc
        rw [← hfr c hc]
        funext j
        rw [zup_k hc]
theorem l_X9_restIn2 (d k : Nat) (ν : zM) (P : zP) (hc : zA RX9 cX9_restIn 4 (zRm (d + 5) 0) zN0 TF 0 ν 90 [some (zR 110), some (zI (k : Int)), some (zI (zb (aEq (ν 123) (ν 122) 30))), some (zI 30)] [] P) : ∀ (t0 i : Nat) (al : Bool), (aEq (ν 123) (ν 122) i) = al → 30 - i = t0 → i ≤ 30 → zA RX9 cX9_restIn 4 (zRm (d + 5) 0) zN0 TF 0 ν 53 [some (zR 110), some (zI (k : Int)), some (zI (zb al)), some (zI (i : Int))] [] P := by
  intro t0
  induction t0 using Nat.strongRecOn with
  | ind t0 ih =>
    intro i al hx hi hi30
    cases al with
    | true =>
      show zA RX9 cX9_restIn 4 (zRm (d + 5) 0) zN0 TF 0 ν 53 [some (zR 110), some (zI (k : Int)), some (zI 1), some (zI (i : Int))] [] P
      refine zA_iload_n dX9_restIn_53 rfl ?_
      refine zA_bipush dX9_restIn_54 rfl ?_
      refine zA_icmp_ge (tgt := 90) dX9_restIn_56 rfl (fun h56 => ?_) (fun h56 => ?_)
      · obtain rfl : i = 30 := by omega
        rw [hx] at hc
        exact hc
      · refine zA_iload_n dX9_restIn_59 rfl ?_
        refine zA_if_eq (tgt := 82) dX9_restIn_60 rfl (fun h60 => False.elim (by omega)) fun h60 => ?_
        refine zA_aload_n dX9_restIn_63 rfl ?_
        refine zA_getR fX9_50 t_110 rfl dX9_restIn_64 ?_
        refine zA_iload_n dX9_restIn_67 rfl ?_
        refine zA_ialE (w := ν 123 i) (j := i) t_123 (by omega) (by omega) dX9_restIn_68 rfl rfl ?_
        refine zA_aload_n dX9_restIn_69 rfl ?_
        refine zA_getR fX9_47 t_110 rfl dX9_restIn_70 ?_
        refine zA_iload_n dX9_restIn_73 rfl ?_
        refine zA_ialE (w := ν 122 i) (j := i) t_122 (by omega) (by omega) dX9_restIn_74 rfl rfl ?_
        refine zA_icmp_ne (tgt := 82) dX9_restIn_75 rfl (fun h75 => ?_) (fun h75 => ?_)
        · refine zA_iconst dX9_restIn_82 rfl ?_
          refine zA_istore_n (ls' := [some (zR 110), some (zI (k : Int)), some (zI 0), some (zI (i : Int))]) dX9_restIn_83 rfl rfl ?_
          refine zA_iincB (ls' := [some (zR 110), some (zI (k : Int)), some (zI 0), some (zI ((i : Int) + 1))]) dX9_restIn_84 rfl rfl ⟨by omega, by omega⟩ rfl ?_
          refine zA_goto (tgt := 53) dX9_restIn_87 rfl ?_
          exact ih _ (by omega) (i + 1) false (by rw [aEq_s hx]; first | rfl | (rw [decide_eq_false h75]; rfl)) rfl (by omega)
        · refine zA_iconst dX9_restIn_78 rfl ?_
          refine zA_goto (tgt := 83) dX9_restIn_79 rfl ?_
          refine zA_istore_n (ls' := [some (zR 110), some (zI (k : Int)), some (zI 1), some (zI (i : Int))]) dX9_restIn_83 rfl rfl ?_
          refine zA_iincB (ls' := [some (zR 110), some (zI (k : Int)), some (zI 1), some (zI ((i : Int) + 1))]) dX9_restIn_84 rfl rfl ⟨by omega, by omega⟩ rfl ?_
          refine zA_goto (tgt := 53) dX9_restIn_87 rfl ?_
          exact ih _ (by omega) (i + 1) true (by rw [aEq_s hx, decide_eq_true h75]; rfl) rfl (by omega)
    | false =>
      show zA RX9 cX9_restIn 4 (zRm (d + 5) 0) zN0 TF 0 ν 53 [some (zR 110), some (zI (k : Int)), some (zI 0), some (zI (i : Int))] [] P
      refine zA_iload_n dX9_restIn_53 rfl ?_
      refine zA_bipush dX9_restIn_54 rfl ?_
      refine zA_icmp_ge (tgt := 90) dX9_restIn_56 rfl (fun h56 => ?_) (fun h56 => ?_)
      · obtain rfl : i = 30 := by omega
        rw [hx] at hc
        exact hc
      · refine zA_iload_n dX9_restIn_59 rfl ?_
        refine zA_if_eq (tgt := 82) dX9_restIn_60 rfl (fun h60 => ?_) (fun h60 => False.elim (by omega))
        refine zA_iconst dX9_restIn_82 rfl ?_
        refine zA_istore_n (ls' := [some (zR 110), some (zI (k : Int)), some (zI 0), some (zI (i : Int))]) dX9_restIn_83 rfl rfl ?_
        refine zA_iincB (ls' := [some (zR 110), some (zI (k : Int)), some (zI 0), some (zI ((i : Int) + 1))]) dX9_restIn_84 rfl rfl ⟨by omega, by omega⟩ rfl ?_
        refine zA_goto (tgt := 53) dX9_restIn_87 rfl ?_
        exact ih _ (by omega) (i + 1) false (by rw [aEq_s hx]; first | rfl | (rw [decide_eq_false h75]; rfl)) rfl (by omega)
theorem l_X9_restIn (d : Nat) (μ : zM) (n m t : Nat) (u : Int) (R : Nat → Int) (hH : zMs μ n m t u) (hR : rOk n m R) : ∀ (t0 k : Nat), 201 - k = t0 → k ≤ 201 → ∀ (ν : zM) (x2 x3 : Option zV), (x2 = none ∧ x3 = none ∨ ∃ w, x2 = some (zI w) ∧ x3 = some (zI 30)) → ν 122 = (rS u n (μ 114 30) (μ 112) (μ 113) t R) k → (∀ c, c ≠ 122 → c ≠ 123 → c ≠ 119 → ν c = μ c) → fB (rP (rS u n (μ 114 30) (μ 112) (μ 113) t R)) k = none → zA RX9 cX9_restIn 4 (zRm (d + 5) 0) zN0 TF 0 ν 6 [some (zR 110), some (zI (k : Int)), x2, x3] [] (zPi (fun v ξ => v = gOb (fB (rP (rS u n (μ 114 30) (μ 112) (μ 113) t R)) 201) ∧ (∀ j, fB (rP (rS u n (μ 114 30) (μ 112) (μ 113) t R)) 201 = some j → ξ 122 = (rS u n (μ 114 30) (μ 112) (μ 113) t R) (j + 1)) ∧ (∀ c, c ≠ 122 → c ≠ 123 → c ≠ 119 → ξ c = μ c))) := by
  have hH0 := hH
  obtain ⟨hn, hu, hm, ht, hn5, hm6, ht10, hu1, hdk⟩ := hH0
  intro t0
  induction t0 using Nat.strongRecOn with
  | ind t0 ih =>
    intro k hk hk2 ν x2 x3 hx hT hfr hF
    have hend : k < 201 → ∀ ξ : zM, ξ 122 = (rS u n (μ 114 30) (μ 112) (μ 113) t R) (k + 1) → (∀ c, c ≠ 122 → c ≠ 123 → c ≠ 119 → ξ c = μ c) → zA RX9 cX9_restIn 4 (zRm (d + 5) 0) zN0 TF 0 ξ 90 [some (zR 110), some (zI (k : Int)), some (zI (zb (rP (rS u n (μ 114 30) (μ 112) (μ 113) t R) k))), some (zI 30)] [] (zPi (fun v ξ => v = gOb (fB (rP (rS u n (μ 114 30) (μ 112) (μ 113) t R)) 201) ∧ (∀ j, fB (rP (rS u n (μ 114 30) (μ 112) (μ 113) t R)) 201 = some j → ξ 122 = (rS u n (μ 114 30) (μ 112) (μ 113) t R) (j + 1)) ∧ (∀ c, c ≠ 122 → c ≠ 123 → c ≠ 119 → ξ c = μ c))) := by
      intro hk201 ξ E F2
      cases hp : rP (rS u n (μ 114 30) (μ 112) (μ 113) t R) k with
      | true =>
        show zA RX9 cX9_restIn 4 (zRm (d + 5) 0) zN0 TF 0 ξ 90 [some (zR 110), some (zI (k : Int)), some (zI 1), some (zI 30)] [] (zPi (fun v ξ => v = gOb (fB (rP (rS u n (μ 114 30) (μ 112) (μ 113) t R)) 201) ∧ (∀ j, fB (rP (rS u n (μ 114 30) (μ 112) (μ 113) t R)) 201 = some j → ξ 122 = (rS u n (μ 114 30) (μ 112) (μ 113) t R) (j + 1)) ∧ (∀ c, c ≠ 122 → c ≠ 123 → c ≠ 119 → ξ c = μ c)))
        refine zA_iload_n dX9_restIn_90 rfl ?_
        refine zA_if_eq (tgt := 96) dX9_restIn_91 rfl (fun h91 => False.elim (by omega)) fun h91 => ?_
        refine zA_iload_n dX9_restIn_94 rfl ?_
        exact zA_ri dX9_restIn_95 ⟨by rw [fB_yes hF hp 201 (by omega)]; rfl, fun j hj => by rw [fB_yes hF hp 201 (by omega)] at hj; cases hj; exact E, F2⟩
      | false =>
        show zA RX9 cX9_restIn 4 (zRm (d + 5) 0) zN0 TF 0 ξ 90 [some (zR 110), some (zI (k : Int)), some (zI 0), some (zI 30)] [] (zPi (fun v ξ => v = gOb (fB (rP (rS u n (μ 114 30) (μ 112) (μ 113) t R)) 201) ∧ (∀ j, fB (rP (rS u n (μ 114 30) (μ 112) (μ 113) t R)) 201 = some j → ξ 122 = (rS u n (μ 114 30) (μ 112) (μ 113) t R) (j + 1)) ∧ (∀ c, c ≠ 122 → c ≠ 123 → c ≠ 119 → ξ c = μ c)))
        refine zA_iload_n dX9_restIn_90 rfl ?_
        refine zA_if_eq (tgt := 96) dX9_restIn_91 rfl (fun h91 => ?_) (fun h91 => False.elim (by omega))
        refine zA_iincB (ls' := [some (zR 110), some (zI ((k : Int) + 1)), some (zI 0), some (zI 30)]) dX9_restIn_96 rfl rfl ⟨by omega, by omega⟩ rfl ?_
        refine zA_goto (tgt := 6) dX9_restIn_99 rfl ?_
        exact ih _ (by omega) (k + 1) rfl (by omega) ξ _ _ (Or.inr ⟨_, rfl, rfl⟩) E F2 (fB_no hF hp)
    have hbody : k < 201 → ∀ (ν1 : zM), (∀ j, j < 30 → ν1 123 j = ν 122 j) → (∀ c, c ≠ 123 → ν1 c = ν c) → zA RX9 cX9_restIn 4 (zRm (d + 5) 0) zN0 TF 0 ν1 39 [some (zR 110), some (zI (k : Int)), none, none] [] (zPi (fun v ξ => v = gOb (fB (rP (rS u n (μ 114 30) (μ 112) (μ 113) t R)) 201) ∧ (∀ j, fB (rP (rS u n (μ 114 30) (μ 112) (μ 113) t R)) 201 = some j → ξ 122 = (rS u n (μ 114 30) (μ 112) (μ 113) t R) (j + 1)) ∧ (∀ c, c ≠ 122 → c ≠ 123 → c ≠ 119 → ξ c = μ c))) := by
      intro hk201 ν1 a1 k1
      have hf1 : ∀ c, c ≠ 122 → c ≠ 123 → c ≠ 119 → ν1 c = μ c := fun c c1 c2 c3 => by rw [k1 c c2, hfr c c1 c2 c3]
      have hend := hend hk201
      refine zA_aload_n dX9_restIn_39 rfl ?_
      refine zA_iconst dX9_restIn_40 rfl ?_
      refine zA_aload_n dX9_restIn_41 rfl ?_
      refine zA_getE (w := (t : Int)) fX9_169 t_110 dX9_restIn_42 (by rw [hf1 110 (by decide) (by decide) (by decide)]; exact ht) ?_
      refine zA_iconst dX9_restIn_45 rfl ?_
      refine zA_cVv (st := []) kX9_228 t_110 rfl rfl (c_X9_goOn0 d ν1 n m t t u 0 (hH.keep (hf1 110 (by decide) (by decide) (by decide)) (hf1 112 (by decide) (by decide) (by decide)) (hf1 113 (by decide) (by decide) (by decide))) (by omega) (by rw [k1 122 (by decide), hT]; exact rS_ok hn5 hu1 hdk hR k)) rfl rfl rfl dX9_restIn_46 (zfit0 (by omega) rfl) (fun μ1 q1 => ?_)
      obtain ⟨q2a, q2b⟩ := q1
      refine zA_iconst dX9_restIn_49 rfl ?_
      refine zA_istore_n (ls' := [some (zR 110), some (zI (k : Int)), some (zI 1), none]) dX9_restIn_50 rfl rfl ?_
      refine zA_iconst dX9_restIn_51 rfl ?_
      refine zA_istore_n (ls' := [some (zR 110), some (zI (k : Int)), some (zI 1), some (zI 0)]) dX9_restIn_52 rfl rfl ?_
      have E : μ1 122 = (rS u n (μ 114 30) (μ 112) (μ 113) t R) (k + 1) := by rw [q2a, hf1 114 (by decide) (by decide) (by decide), hf1 112 (by decide) (by decide) (by decide), hf1 113 (by decide) (by decide) (by decide), k1 122 (by decide), hT]; rfl
      have E5 : ∀ i, i < 30 → μ1 123 i = (rS u n (μ 114 30) (μ 112) (μ 113) t R) k i := fun i hi => by rw [q2b 123 (by decide) (by decide), a1 i hi, hT]
      have F2 : ∀ c, c ≠ 122 → c ≠ 123 → c ≠ 119 → μ1 c = μ c := fun c c1 c2 c3 => by rw [q2b c c1 c3, hf1 c c1 c2 c3]
      have b4 : aEq (μ1 123) (μ1 122) 30 = rP (rS u n (μ 114 30) (μ 112) (μ 113) t R) k := aEq_bb E5 (fun i hi => by rw [E])
      refine l_X9_restIn2 d k μ1 _ ?_ _ 0 true (aEq_iff.mpr (fun j hj => by omega)) rfl (by omega)
      rw [b4]
      exact hend μ1 E F2
    rcases hx with ⟨rfl, rfl⟩ | ⟨w, rfl, rfl⟩
    · show zA RX9 cX9_restIn 4 (zRm (d + 5) 0) zN0 TF 0 ν 6 [some (zR 110), some (zI (k : Int)), none, none] [] (zPi (fun v ξ => v = gOb (fB (rP (rS u n (μ 114 30) (μ 112) (μ 113) t R)) 201) ∧ (∀ j, fB (rP (rS u n (μ 114 30) (μ 112) (μ 113) t R)) 201 = some j → ξ 122 = (rS u n (μ 114 30) (μ 112) (μ 113) t R) (j + 1)) ∧ (∀ c, c ≠ 122 → c ≠ 123 → c ≠ 119 → ξ c = μ c)))
      refine zA_iload_n dX9_restIn_6 rfl ?_
      refine zA_sipush dX9_restIn_7 rfl ?_
      refine zA_icmp_gt (tgt := 102) dX9_restIn_10 rfl (fun h10 => ?_) (fun h10 => ?_)
      · refine zA_iconst dX9_restIn_102 rfl ?_
        exact zA_ri dX9_restIn_103 ⟨by rw [show (201 : Nat) = k by omega, hF]; rfl, fun j hj => (by rw [show (201 : Nat) = k by omega, hF] at hj; cases hj), hfr⟩
      · refine zA_iconst dX9_restIn_13 rfl ?_
        refine zA_istore_n (ls' := [some (zR 110), some (zI (k : Int)), some (zI 0), none]) dX9_restIn_14 rfl rfl ?_
        exact l_X9_restIn1A d k ν _ (fun ν1 a1 k1 => hbody (by omega) ν1 a1 k1) _ 0 rfl (by omega) ν (fun j hj => by omega) (fun _ _ => rfl)
    · show zA RX9 cX9_restIn 4 (zRm (d + 5) 0) zN0 TF 0 ν 6 [some (zR 110), some (zI (k : Int)), some (zI w), some (zI 30)] [] (zPi (fun v ξ => v = gOb (fB (rP (rS u n (μ 114 30) (μ 112) (μ 113) t R)) 201) ∧ (∀ j, fB (rP (rS u n (μ 114 30) (μ 112) (μ 113) t R)) 201 = some j → ξ 122 = (rS u n (μ 114 30) (μ 112) (μ 113) t R) (j + 1)) ∧ (∀ c, c ≠ 122 → c ≠ 123 → c ≠ 119 → ξ c = μ c)))
      refine zA_dr (ls' := [some (zR 110), some (zI (k : Int)), some (zI w), none]) 3 rfl ?_
      refine zA_iload_n dX9_restIn_6 rfl ?_
      refine zA_sipush dX9_restIn_7 rfl ?_
      refine zA_icmp_gt (tgt := 102) dX9_restIn_10 rfl (fun h10 => ?_) (fun h10 => ?_)
      · refine zA_iconst dX9_restIn_102 rfl ?_
        exact zA_ri dX9_restIn_103 ⟨by rw [show (201 : Nat) = k by omega, hF]; rfl, fun j hj => (by rw [show (201 : Nat) = k by omega, hF] at hj; cases hj), hfr⟩
      · refine zA_iconst dX9_restIn_13 rfl ?_
        refine zA_istore_n (ls' := [some (zR 110), some (zI (k : Int)), some (zI 0), none]) dX9_restIn_14 rfl rfl ?_
        exact l_X9_restIn1A d k ν _ (fun ν1 a1 k1 => hbody (by omega) ν1 a1 k1) _ 0 rfl (by omega) ν (fun j hj => by omega) (fun _ _ => rfl)
theorem c_X9_restIn (d : Nat) (μ : zM) (n m t : Nat) (u : Int) (hH : zMs μ n m t u) (hok : rOk n m (μ 114)) : zMet (d + 5) 0 yX9_restIn cX9_restIn 4 (some .int) TF μ [zR 110] (zPi (fun v ξ => ∃ R, (∀ i, i < 30 → R i = μ 114 i) ∧ v = gOb (fB (rP (rS u n (μ 114 30) (μ 112) (μ 113) t R)) 201) ∧ (∀ j, fB (rP (rS u n (μ 114 30) (μ 112) (μ 113) t R)) 201 = some j → ξ 122 = (rS u n (μ 114 30) (μ 112) (μ 113) t R) (j + 1)) ∧ (∀ c, c ≠ 122 → c ≠ 123 → c ≠ 119 → ξ c = μ c))) := by
  have hH0 := hH
  obtain ⟨hn, hu, hm, ht, hn5, hm6, ht10, hu1, hdk⟩ := hH0
  refine zMi_of RX9 rfl (by decide) rfl (ls := [some (zR 110), none, none, none]) rfl (fun hok0 => ?_)
  refine zA_aload_n dX9_restIn_0 rfl ?_
  refine zA_cVv (st := []) kX9_225 t_110 rfl rfl (c_X9_begin (d + 3) μ) rfl rfl rfl dX9_restIn_1 (zfit0 (by omega) rfl) (fun μ1 q1 => ?_)
  obtain ⟨q1a, q1b⟩ := q1
  refine zA_iconst dX9_restIn_4 rfl ?_
  refine zA_istore_n (ls' := [some (zR 110), some (zI 0), none, none]) dX9_restIn_5 rfl rfl ?_
  exact zAi_mono (l_X9_restIn d μ n m t u (μ1 122) hH (rOk_congr hn5 hm6 (fun i hi => (q1a i hi).symm) hok) _ 0 rfl (by omega) μ1 _ _ (Or.inl ⟨rfl, rfl⟩) rfl (fun c c1 _ _ => q1b c c1) rfl) (fun v ξ h => ⟨μ1 122, q1a, h⟩)
theorem c_X9_rest (d : Nat) (μ : zM) (n m t : Nat) (u a c : Int) (hH : zMs μ n m t u) (hok : rOk n m (μ 114)) : zMet (d + 6) 0 yX9_rest cX9_rest 4 (some .int) TF μ [zR 110, zI a, zI c] (zPi (fun v ξ => qM μ ξ ∧ ((¬ (a = -1 ∨ ((0 ≤ a ∧ a < m) ∧ (0 ≤ c ∧ c < n))) ∧ v = -1000000001) ∨ ((a = -1 ∨ ((0 ≤ a ∧ a < m) ∧ (0 ≤ c ∧ c < n))) ∧ ∃ R, (∀ i, i < 30 → R i = μ 114 i) ∧ v = rOut (fB (rP (rS u n (μ 114 30) (μ 112) (μ 113) t R)) 201) (rS u n (μ 114 30) (μ 112) (μ 113) t R) a (5 * a + c).toNat)))) := by
  have hH0 := hH
  obtain ⟨hn, hu, hm, ht, hn5, hm6, ht10, hu1, hdk⟩ := hH0
  refine zMi_of RX9 rfl (by decide) rfl (ls := [some (zR 110), some (zI a), some (zI c), none]) rfl (fun hok0 => ?_)
  refine zA_iload_n dX9_rest_0 rfl ?_
  refine zA_iconst dX9_rest_1 rfl ?_
  refine zA_icmp_eq (tgt := 24) dX9_rest_2 rfl (fun h2 => ?_) (fun h2 => ?_)
  · have hb0 : a = -1 ∨ ((0 ≤ a ∧ a < m) ∧ (0 ≤ c ∧ c < n)) := by first | exact Or.inl (by assumption) | exact Or.inr ⟨ba.mp (by simpa using h10), bc.mp (by assumption)⟩
    refine zA_aload_n dX9_rest_24 rfl ?_
    refine zA_cVi (st := []) kX9_259 t_110 rfl rfl (c_X9_restIn d μ n m t u hH hok) rfl rfl rfl dX9_rest_25 (zfit0 (by omega) rfl) (fun v1 μ1 q1 => ?_)
    obtain ⟨R, hR, e1, f1, g1⟩ := q1
    have hq : qM μ μ1 := ⟨fun k _ h2 _ h4 h5 _ => g1 k h4 h5 h2, fun i _ _ => by rw [g1 110 (by decide) (by decide) (by decide)]⟩
    have hge := gOb_ge (o := fB (rP (rS u n (μ 114 30) (μ 112) (μ 113) t R)) 201)
    refine zA_istore_n (ls' := [some (zR 110), some (zI a), some (zI c), some (zI v1)]) dX9_rest_28 rfl rfl ?_
    refine zA_iload_n dX9_rest_29 rfl ?_
    refine zA_if_lt (tgt := 38) dX9_rest_30 rfl (fun h30 => ?_) (fun h30 => ?_)
    · refine zA_iload_n dX9_rest_38 rfl ?_
      refine zA_goto (tgt := 52) dX9_rest_39 rfl ?_
      refine zA_ri dX9_rest_52 ⟨hq, Or.inr ⟨hb0, R, hR, ?_⟩⟩
      unfold rOut
      cases hF : fB (rP (rS u n (μ 114 30) (μ 112) (μ 113) t R)) 201 with
      | none => rw [hF] at e1; simp only [gOb] at e1; first | exact e1 | (exfalso; omega)
      | some j =>
        rw [hF] at e1; simp only [gOb] at e1
        simp only
        first
          | (rw [if_pos (by omega)]; exact e1)
          | (exfalso; omega)
          | (rw [if_neg (by omega), f1 j hF])
    · refine zA_iload_n dX9_rest_33 rfl ?_
      refine zA_iconst dX9_rest_34 rfl ?_
      refine zA_icmp_ne (tgt := 42) dX9_rest_35 rfl (fun h35 => ?_) (fun h35 => ?_)
      · refine zA_aload_n dX9_rest_42 rfl ?_
        refine zA_getR fX9_47 t_110 rfl dX9_rest_43 ?_
        refine zA_iconst dX9_rest_46 rfl ?_
        refine zA_iload_n dX9_rest_47 rfl ?_
        refine zA_imulB dX9_rest_48 ⟨by omega, by omega⟩ ?_
        refine zA_iload_n dX9_rest_49 rfl ?_
        refine zA_iaddB dX9_rest_50 ⟨by omega, by omega⟩ ?_
        refine zA_ialE (w := μ1 122 (((5 * a) + c).toNat)) (j := ((5 * a) + c).toNat) t_122 (by omega) (by omega) dX9_rest_51 rfl rfl ?_
        refine zA_ri dX9_rest_52 ⟨hq, Or.inr ⟨hb0, R, hR, ?_⟩⟩
        unfold rOut
        cases hF : fB (rP (rS u n (μ 114 30) (μ 112) (μ 113) t R)) 201 with
        | none => rw [hF] at e1; simp only [gOb] at e1; first | exact e1 | (exfalso; omega)
        | some j =>
          rw [hF] at e1; simp only [gOb] at e1
          simp only
          first
            | (rw [if_pos (by omega)]; exact e1)
            | (exfalso; omega)
            | (rw [if_neg (by omega), f1 j hF])
      · refine zA_iload_n dX9_rest_38 rfl ?_
        refine zA_goto (tgt := 52) dX9_rest_39 rfl ?_
        refine zA_ri dX9_rest_52 ⟨hq, Or.inr ⟨hb0, R, hR, ?_⟩⟩
        unfold rOut
        cases hF : fB (rP (rS u n (μ 114 30) (μ 112) (μ 113) t R)) 201 with
        | none => rw [hF] at e1; simp only [gOb] at e1; first | exact e1 | (exfalso; omega)
        | some j =>
          rw [hF] at e1; simp only [gOb] at e1
          simp only
          first
            | (rw [if_pos (by omega)]; exact e1)
            | (exfalso; omega)
            | (rw [if_neg (by omega), f1 j hF])
  · refine zA_aload_n dX9_rest_5 rfl ?_
    refine zA_iload_n dX9_rest_6 rfl ?_
    refine zA_cVb (st := []) kX9_187 t_110 rfl rfl (c_X9_isCoat (d + 3) a μ (by omega)) rfl rfl rfl dX9_rest_7 (zfit0 (by omega) rfl) (fun v2 μ2 q2 => ?_)
    obtain ⟨ba, rfl⟩ := q2
    rw [hm] at ba
    refine zA_ifb_eq (tgt := 21) dX9_rest_10 rfl (fun h10 => ?_) (fun h10 => ?_)
    · refine zA_ldc cX9_194 dX9_rest_21 rfl ?_
      exact zA_ri dX9_rest_23 ⟨qM.refl _, Or.inl ⟨fun q => by rcases q with q | q; exact h2 q; first | (have := ba.mpr q.1; simp_all; done) | (have := bc.mpr q.2; simp_all; done), rfl⟩⟩
    · refine zA_aload_n dX9_rest_13 rfl ?_
      refine zA_iload_n dX9_rest_14 rfl ?_
      refine zA_cVb (st := []) kX9_191 t_110 rfl rfl (c_X9_isColour (d + 3) c μ (by omega)) rfl rfl rfl dX9_rest_15 (zfit0 (by omega) rfl) (fun v3 μ3 q3 => ?_)
      obtain ⟨bc, rfl⟩ := q3
      rw [hn] at bc
      refine zA_ifb_ne (tgt := 24) dX9_rest_18 rfl (fun h18 => ?_) (fun h18 => ?_)
      · have hb0 : a = -1 ∨ ((0 ≤ a ∧ a < m) ∧ (0 ≤ c ∧ c < n)) := by first | exact Or.inl (by assumption) | exact Or.inr ⟨ba.mp (by simpa using h10), bc.mp (by assumption)⟩
        refine zA_aload_n dX9_rest_24 rfl ?_
        refine zA_cVi (st := []) kX9_259 t_110 rfl rfl (c_X9_restIn d μ n m t u hH hok) rfl rfl rfl dX9_rest_25 (zfit0 (by omega) rfl) (fun v4 μ4 q4 => ?_)
        obtain ⟨R, hR, e4, f4, g4⟩ := q4
        have hq : qM μ μ4 := ⟨fun k _ h2 _ h4 h5 _ => g4 k h4 h5 h2, fun i _ _ => by rw [g4 110 (by decide) (by decide) (by decide)]⟩
        have hge := gOb_ge (o := fB (rP (rS u n (μ 114 30) (μ 112) (μ 113) t R)) 201)
        refine zA_istore_n (ls' := [some (zR 110), some (zI a), some (zI c), some (zI v4)]) dX9_rest_28 rfl rfl ?_
        refine zA_iload_n dX9_rest_29 rfl ?_
        refine zA_if_lt (tgt := 38) dX9_rest_30 rfl (fun h30 => ?_) (fun h30 => ?_)
        · refine zA_iload_n dX9_rest_38 rfl ?_
          refine zA_goto (tgt := 52) dX9_rest_39 rfl ?_
          refine zA_ri dX9_rest_52 ⟨hq, Or.inr ⟨hb0, R, hR, ?_⟩⟩
          unfold rOut
          cases hF : fB (rP (rS u n (μ 114 30) (μ 112) (μ 113) t R)) 201 with
          | none => rw [hF] at e4; simp only [gOb] at e4; first | exact e4 | (exfalso; omega)
          | some j =>
            rw [hF] at e4; simp only [gOb] at e4
            simp only
            first
              | (rw [if_pos (by omega)]; exact e4)
              | (exfalso; omega)
              | (rw [if_neg (by omega), f4 j hF])
        · refine zA_iload_n dX9_rest_33 rfl ?_
          refine zA_iconst dX9_rest_34 rfl ?_
          refine zA_icmp_ne (tgt := 42) dX9_rest_35 rfl (fun h35 => ?_) (fun h35 => ?_)
          · refine zA_aload_n dX9_rest_42 rfl ?_
            refine zA_getR fX9_47 t_110 rfl dX9_rest_43 ?_
            refine zA_iconst dX9_rest_46 rfl ?_
            refine zA_iload_n dX9_rest_47 rfl ?_
            refine zA_imulB dX9_rest_48 ⟨by omega, by omega⟩ ?_
            refine zA_iload_n dX9_rest_49 rfl ?_
            refine zA_iaddB dX9_rest_50 ⟨by omega, by omega⟩ ?_
            refine zA_ialE (w := μ4 122 (((5 * a) + c).toNat)) (j := ((5 * a) + c).toNat) t_122 (by omega) (by omega) dX9_rest_51 rfl rfl ?_
            refine zA_ri dX9_rest_52 ⟨hq, Or.inr ⟨hb0, R, hR, ?_⟩⟩
            unfold rOut
            cases hF : fB (rP (rS u n (μ 114 30) (μ 112) (μ 113) t R)) 201 with
            | none => rw [hF] at e4; simp only [gOb] at e4; first | exact e4 | (exfalso; omega)
            | some j =>
              rw [hF] at e4; simp only [gOb] at e4
              simp only
              first
                | (rw [if_pos (by omega)]; exact e4)
                | (exfalso; omega)
                | (rw [if_neg (by omega), f4 j hF])
          · refine zA_iload_n dX9_rest_38 rfl ?_
            refine zA_goto (tgt := 52) dX9_rest_39 rfl ?_
            refine zA_ri dX9_rest_52 ⟨hq, Or.inr ⟨hb0, R, hR, ?_⟩⟩
            unfold rOut
            cases hF : fB (rP (rS u n (μ 114 30) (μ 112) (μ 113) t R)) 201 with
            | none => rw [hF] at e4; simp only [gOb] at e4; first | exact e4 | (exfalso; omega)
            | some j =>
              rw [hF] at e4; simp only [gOb] at e4
              simp only
              first
                | (rw [if_pos (by omega)]; exact e4)
                | (exfalso; omega)
                | (rw [if_neg (by omega), f4 j hF])
      · refine zA_ldc cX9_194 dX9_rest_21 rfl ?_
        exact zA_ri dX9_rest_23 ⟨qM.refl _, Or.inl ⟨fun q => by rcases q with q | q; exact h2 q; first | (have := ba.mpr q.1; simp_all; done) | (have := bc.mpr q.2; simp_all; done), rfl⟩⟩
theorem pr_rest (μ : zM) (a c : Int) (n m t : Nat) (u : Int) (hI : zInv μ n m t u) : zPair yX8_rest cX8_rest 4 yX9_rest cX9_rest 4 [zI a, zI c] μ := by
  obtain ⟨hn, hu, hm, ht0, hn5, hm6, ht10, hu1, hdk⟩ := hI.1.1
  refine zPair_q hI (if a = -1 ∨ ((0 ≤ a ∧ a < m) ∧ (0 ≤ c ∧ c < n)) then rOut (fB (rP (rS u n (μ 114 30) (μ 112) (μ 113) t (μ 114))) 201) (rS u n (μ 114 30) (μ 112) (μ 113) t (μ 114)) a (5 * a + c).toNat else -1000000001) (zMi_mono (c_X8_rest 13 μ n m t u a c hI.1.1 hI.2.1.2.1) ?_) (fun ν hq hν => zMi_mono (c_X9_rest 14 ν n m t u a c hν.1.2.1 hν.mrow) ?_)
  · rintro v ν ⟨hq, h⟩
    refine ⟨?_, hq⟩
    rcases h with ⟨h1, rfl⟩ | ⟨h1, R, hR, hv⟩
    · rw [if_neg h1]
    · rw [hv, if_pos h1, show (5 * a + c).toNat = (a * 5 + c).toNat by omega]
      exact rOut_eq hI (fun i hi => by rw [hR i (by omega)]; exact hI.row i hi) a (fun q => by omega)
  · rintro v ξ ⟨hx, h⟩
    refine ⟨?_, hx⟩
    have e114 : ν 114 = μ 114 := hq 114 (by unfold cScr; omega)
    have e112 : ν 112 = μ 112 := hq 112 (by unfold cScr; omega)
    have e113 : ν 113 = μ 113 := hq 113 (by unfold cScr; omega)
    have hdm := hν.1.2.1.2.2.2.2.2.2.2.2
    rcases h with ⟨h1, rfl⟩ | ⟨h1, R, hR, hv⟩
    · rw [if_neg h1]
    · rw [hv, if_pos h1, ← e114, ← e112, ← e113]
      exact rOut_congr (rS_congrR hn5 hm6 hdm hR) a (fun q => by omega)
