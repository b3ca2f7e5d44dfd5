/-! ===== House: gifts and exchanges ===== -/
theorem l_X2_greatestRest (d : Nat) (μ : zM) (n : Nat) (hn : μ 1 6 = n) (h1 : 1 ≤ n) (h5 : n ≤ 5) : ∀ (k c best : Nat), n - c = k → best < c → c ≤ n → 1 ≤ c → (∀ j, j < c → μ 7 j ≤ μ 7 best) → (∀ j, j < best → μ 7 j < μ 7 best) → zA RX2 cX2_greatestRest 3 (zRm (d + 1) 0) zN0 TF 0 μ 4 [some (zR 1), some (zI (best : Int)), some (zI (c : Int))] [] (zPi (fun v μ' => (∃ b : Nat, (b : Int) = v ∧ b < n ∧ (∀ j, j < n → μ 7 j ≤ μ 7 b) ∧ ∀ j, j < b → μ 7 j < μ 7 b) ∧ μ = μ')) := by
  intro k
  induction k using Nat.strongRecOn with
  | ind k ih =>
    intro c best hk hbc hcn hc1 hb1 hb2
    refine zA_iload_n dX2_greatestRest_4 rfl ?_
    refine zA_aload_n dX2_greatestRest_5 rfl ?_
    refine zA_getE (w := (n : Int)) fX2_30 t_1 dX2_greatestRest_6 hn ?_
    refine zA_icmp_ge (tgt := 35) dX2_greatestRest_9 rfl (fun h9 => ?_) (fun h9 => ?_)
    · refine zA_iload_n dX2_greatestRest_35 rfl ?_
      exact zA_ri dX2_greatestRest_36 ⟨⟨best, rfl, by omega, fun j hj => hb1 j (by omega), hb2⟩, rfl⟩
    · refine zA_aload_n dX2_greatestRest_12 rfl ?_
      refine zA_getR fX2_27 t_1 rfl dX2_greatestRest_13 ?_
      refine zA_iload_n dX2_greatestRest_16 rfl ?_
      refine zA_ialE (w := μ 7 c) (j := c) t_7 (by omega) (by omega) dX2_greatestRest_17 rfl rfl ?_
      refine zA_aload_n dX2_greatestRest_18 rfl ?_
      refine zA_getR fX2_27 t_1 rfl dX2_greatestRest_19 ?_
      refine zA_iload_n dX2_greatestRest_22 rfl ?_
      refine zA_ialE (w := μ 7 best) (j := best) t_7 (by omega) (by omega) dX2_greatestRest_23 rfl rfl ?_
      refine zA_icmp_le (tgt := 29) dX2_greatestRest_24 rfl (fun h24 => ?_) (fun h24 => ?_)
      · refine zA_iincB (ls' := [some (zR 1), some (zI (best : Int)), some (zI ((c : Int) + 1))]) dX2_greatestRest_29 rfl rfl ⟨by omega, by omega⟩ rfl ?_
        refine zA_goto (tgt := 4) dX2_greatestRest_32 rfl ?_
        exact ih _ (by omega) (c + 1) best rfl (by omega) (by omega) (by omega) (fun j hj => by
          by_cases e : j = c
          · subst e; omega
          · exact hb1 j (by omega)) hb2
      · refine zA_iload_n dX2_greatestRest_27 rfl ?_
        refine zA_istore_n (ls' := [some (zR 1), some (zI (c : Int)), some (zI (c : Int))]) dX2_greatestRest_28 rfl rfl ?_
        refine zA_iincB (ls' := [some (zR 1), some (zI (c : Int)), some (zI ((c : Int) + 1))]) dX2_greatestRest_29 rfl rfl ⟨by omega, by omega⟩ rfl ?_
        refine zA_goto (tgt := 4) dX2_greatestRest_32 rfl ?_
        exact ih _ (by omega) (c + 1) c rfl (by omega) (by omega) (by omega) (fun j hj => by
          by_cases e : j = c
          · subst e; omega
          · have := hb1 j (by omega); omega) (fun j hj => by have := hb1 j (by omega); omega)
theorem c_X2_greatestRest (d : Nat) (μ : zM) (n : Nat) (hn : μ 1 6 = n) (h1 : 1 ≤ n) (h5 : n ≤ 5) : zMet (d + 1) 0 yX2_greatestRest cX2_greatestRest 3 (some .int) TF μ [zR 1] (zPi (fun v μ' => (∃ b : Nat, (b : Int) = v ∧ b < n ∧ (∀ j, j < n → μ 7 j ≤ μ 7 b) ∧ ∀ j, j < b → μ 7 j < μ 7 b) ∧ μ = μ')) := by
  refine zMi_of RX2 rfl (by decide) rfl (ls := [some (zR 1), none, none]) rfl (fun hok => ?_)
  refine zA_iconst dX2_greatestRest_0 rfl ?_
  refine zA_istore_n (ls' := [some (zR 1), some (zI 0), none]) dX2_greatestRest_1 rfl rfl ?_
  refine zA_iconst dX2_greatestRest_2 rfl ?_
  refine zA_istore_n (ls' := [some (zR 1), some (zI 0), some (zI 1)]) dX2_greatestRest_3 rfl rfl ?_
  exact l_X2_greatestRest d μ n hn h1 h5 _ 1 0 rfl (by omega) (by omega) (by omega) (fun j hj => by rw [show j = 0 by omega]; omega) (fun j hj => by omega)
theorem gDone_b {r : Nat → Int} {n k b : Nat} (h : gBest r (gDone r n k) n = some b) : gDone r n (k + 1) b = true := by simp [gDone, h]
theorem gDone_ne {r : Nat → Int} {n k b j : Nat} (h : gBest r (gDone r n k) n = some b) (hj : j ≠ b) : gDone r n (k + 1) j = gDone r n k j := by
  simp only [gDone, h]
  have : (some b == some j) = false := by simp; omega
  rw [this, Bool.or_false]
theorem gS_bd {f : Nat → Int} : ∀ {n : Nat}, (∀ j, j < n → 0 ≤ f j ∧ f j ≤ 30) → 0 ≤ gS f n ∧ gS f n ≤ 30 * n
  | 0, _ => by simp [gS]
  | n + 1, h => by
    have h1 := gS_bd (f := f) (n := n) (fun j hj => h j (by omega))
    have h2 := h n (by omega)
    simp only [gS]
    omega
def gP (row : Nat → Int) (a : Nat) : Nat → Int := fun j => row (a * 5 + j)
theorem l_X2_fillGift2 (d : Nat) (μ : zM) (p g a n : Nat) (u : Int) (hp : znth TF p = some (10, 30, [])) (hg : znth TF g = some (10, 5, [])) (hpg : p ≠ g) (hp7 : p ≠ 7) (hg7 : g ≠ 7) (hg1 : g ≠ 1) (hn : μ 1 6 = n) (h5 : n ≤ 5) (hu : μ 1 7 = u) (hu1 : 0 ≤ u ∧ u ≤ 30) (ha : a < 6) (hok : gOk (gP (μ p) a) n) : ∀ (t k : Nat), (gLf u (gP (μ p) a) n).toNat - k = t → (k : Int) ≤ gLf u (gP (μ p) a) n → ∀ ν : zM, (∀ j, j < n → ν g j = gBs u (gP (μ p) a) j + (if gDone (gRs u (gP (μ p) a)) n k j then 1 else 0)) → (∀ j, j < n → ν 7 j = if gDone (gRs u (gP (μ p) a)) n k j then -1 else gRs u (gP (μ p) a) j) → (∀ k, k ≠ g → k ≠ 7 → ν k = μ k) → zA RX2 cX2_fillGift 7 (zRm (d + 2) 0) zN0 TF 0 ν 72 [some (zR 1), some (zR p), some (zI (a : Int)), some (zR g), some (zI (gLf u (gP (μ p) a) n)), some (zI (k : Int)), none] [] (zPv (fun ν => (∀ j, j < n → ν g j = gGv u (gP (μ p) a) n j) ∧ (∀ k, k ≠ g → k ≠ 7 → ν k = μ k))) := by
  intro t
  induction t using Nat.strongRecOn with
  | ind t ih =>
    intro k hk hkl ν hgv hr hfr
    have hlf0 := gLf_rg (u := u) hok
    have hn2 : ν 1 6 = n := by rw [hfr 1 (Ne.symm hg1) (by decide)]; exact hn
    refine zA_iload dX2_fillGift_72 rfl ?_
    refine zA_iload dX2_fillGift_74 rfl ?_
    refine zA_icmp_ge (tgt := 107) dX2_fillGift_76 rfl (fun h76 => ?_) (fun h76 => ?_)
    · exact zA_rv dX2_fillGift_107 ⟨fun j hj => by rw [hgv j hj]; unfold gGv; rw [show (gLf u (gP (μ p) a) n).toNat = k by omega], hfr⟩
    · refine zA_aload_n dX2_fillGift_79 rfl ?_
      refine zA_cVi (st := []) kX2_86 t_1 rfl rfl (c_X2_greatestRest d ν n (by exact hn2) (by omega) h5) rfl rfl rfl dX2_fillGift_80 (zfit0 (by omega) rfl) (fun v1 μ1 q1 => ?_)
      obtain ⟨⟨b, rfl, b1, b2, b3⟩, rfl⟩ := q1
      have hlf := gLf_rg (u := u) hok
      obtain ⟨b0, hb0, hb0r⟩ := (gNext (fun j hj => gRs_rg u (gP (μ p) a) j) (gRs_sum (u := u) hok) k (by omega)).2 (by omega)
      have hbd : gDone (gRs u (gP (μ p) a)) n k b = false := by
        cases hx : gDone (gRs u (gP (μ p) a)) n k b with
        | false => rfl
        | true =>
          have e1 := b2 b0 hb0.1
          rw [hr b b1, hr b0 hb0.1, hx, hb0.2.1] at e1
          simp at e1
          omega
      have hbi : gIs (gRs u (gP (μ p) a)) (gDone (gRs u (gP (μ p) a)) n k) n b := by
        refine ⟨b1, hbd, fun j hj hj2 => ?_, fun j hj hj2 => ?_⟩
        · have e1 := b2 j hj
          rw [hr b b1, hr j hj, hbd, hj2] at e1
          simpa using e1
        · have e1 := b3 j hj
          rw [hr b b1, hr j (by omega), hbd, hj2] at e1
          simpa using e1
      have hbe := gBest_of hbi
      have hgb := hgv b b1
      rw [hbd] at hgb
      simp at hgb
      have hbs := gBs_rg hok hu1 b1
      have hble := gOk_le hok b1
      refine zA_istore (ls' := [some (zR 1), some (zR p), some (zI (a : Int)), some (zR g), some (zI (gLf u (gP (μ p) a) n)), some (zI (k : Int)), some (zI (b : Int))]) dX2_fillGift_83 rfl rfl ?_
      refine zA_aload_n dX2_fillGift_85 rfl ?_
      refine zA_iload dX2_fillGift_86 rfl ?_
      refine zA_dup2 dX2_fillGift_88 rfl rfl ?_
      refine zA_ialE (w := gBs u (gP (μ p) a) b) (j := b) hg (by omega) (by omega) dX2_fillGift_89 rfl hgb ?_
      refine zA_iconst dX2_fillGift_90 rfl ?_
      refine zA_iaddB dX2_fillGift_91 ⟨by omega, by omega⟩ ?_
      refine zA_iasE (j := b) hg (by omega) (by omega) dX2_fillGift_92 rfl ?_
      refine zA_aload_n dX2_fillGift_93 rfl ?_
      refine zA_getR fX2_27 t_1 rfl dX2_fillGift_94 ?_
      refine zA_iload dX2_fillGift_97 rfl ?_
      refine zA_iconst dX2_fillGift_99 rfl ?_
      refine zA_iasE (j := b) t_7 (by omega) (by omega) dX2_fillGift_100 rfl ?_
      refine zA_iincB (ls' := [some (zR 1), some (zR p), some (zI (a : Int)), some (zR g), some (zI (gLf u (gP (μ p) a) n)), some (zI ((k : Int) + 1)), some (zI (b : Int))]) dX2_fillGift_101 rfl rfl ⟨by omega, by omega⟩ rfl ?_
      refine zA_goto (tgt := 72) dX2_fillGift_104 rfl ?_
      refine zA_dr (ls' := [some (zR 1), some (zR p), some (zI (a : Int)), some (zR g), some (zI (gLf u (gP (μ p) a) n)), some (zI ((k : Int) + 1)), none]) 6 rfl ?_
      refine ih _ (by omega) (k + 1) rfl (by omega) _ ?_ ?_ ?_
      · intro j hj
        by_cases e : j = b
        · subst e
          rw [zup_k hg7, zup_s, gDone_b hbe, if_pos rfl]
        · rw [zup_k hg7, zup_n (fun q => e q.2), hgv j hj, gDone_ne hbe e]
      · intro j hj
        by_cases e : j = b
        · subst e
          rw [zup_s, gDone_b hbe, if_pos rfl]
        · rw [zup_n (fun q => e q.2), zup_k (Ne.symm hg7), hr j hj, gDone_ne hbe e]
      · intro k' h1 h2
        rw [← hfr k' h1 h2]
        funext i
        rw [zup_k h2, zup_k h1]
theorem l_X2_fillGift1 (d : Nat) (μ : zM) (p g a n : Nat) (u : Int) (hp : znth TF p = some (10, 30, [])) (hg : znth TF g = some (10, 5, [])) (hpg : p ≠ g) (hp7 : p ≠ 7) (hg7 : g ≠ 7) (hg1 : g ≠ 1) (hn : μ 1 6 = n) (h5 : n ≤ 5) (hu : μ 1 7 = u) (hu1 : 0 ≤ u ∧ u ≤ 30) (ha : a < 6) (hok : gOk (gP (μ p) a) n) : ∀ (t c : Nat), n - c = t → c ≤ n → ∀ ν : zM, (∀ j, j < c → ν g j = gBs u (gP (μ p) a) j) → (∀ j, j < c → ν 7 j = gRs u (gP (μ p) a) j) → (∀ k, k ≠ g → k ≠ 7 → ν k = μ k) → zA RX2 cX2_fillGift 7 (zRm (d + 2) 0) zN0 TF 0 ν 9 [some (zR 1), some (zR p), some (zI (a : Int)), some (zR g), some (zI (u - gS (gBs u (gP (μ p) a)) c)), some (zI (c : Int)), none] [] (zPv (fun ν => (∀ j, j < n → ν g j = gGv u (gP (μ p) a) n j) ∧ (∀ k, k ≠ g → k ≠ 7 → ν k = μ k))) := by
  intro t
  induction t using Nat.strongRecOn with
  | ind t ih =>
    intro c hk hcn ν hgv hr hfr
    have hn2 : ν 1 6 = n := by rw [hfr 1 (Ne.symm hg1) (by decide)]; exact hn
    have hu2 : ν 1 7 = u := by rw [hfr 1 (Ne.symm hg1) (by decide)]; exact hu
    refine zA_iload dX2_fillGift_9 rfl ?_
    refine zA_aload_n dX2_fillGift_11 rfl ?_
    refine zA_getE (w := (n : Int)) fX2_30 t_1 dX2_fillGift_12 hn2 ?_
    refine zA_icmp_ge (tgt := 69) dX2_fillGift_15 rfl (fun h15 => ?_) (fun h15 => ?_)
    · refine zA_iconst dX2_fillGift_69 rfl ?_
      refine zA_istore (ls' := [some (zR 1), some (zR p), some (zI (a : Int)), some (zR g), some (zI (u - gS (gBs u (gP (μ p) a)) c)), some (zI 0), none]) dX2_fillGift_70 rfl rfl ?_
      obtain rfl : n = c := by omega
      exact l_X2_fillGift2 d μ p g a n u hp hg hpg hp7 hg7 hg1 hn h5 hu hu1 ha hok _ 0 rfl (by have := gLf_rg (u := u) hok; omega) ν (fun j hj => by simp [gDone, hgv j hj]) (fun j hj => by simp [gDone, hr j hj]) hfr
    · have hcn2 : c < n := by omega
      have hbs := gBs_rg hok hu1 hcn2
      have hble := gOk_le hok hcn2
      have hS := gS_bd (f := gBs u (gP (μ p) a)) (n := c) (fun j hj => by have h1 := gBs_rg hok hu1 (show j < n by omega); have h2 := gOk_le hok (show j < n by omega); omega)
      refine zA_aload_n dX2_fillGift_18 rfl ?_
      refine zA_getE (w := u) fX2_34 t_1 dX2_fillGift_19 hu2 ?_
      refine zA_aload_n dX2_fillGift_22 rfl ?_
      refine zA_iload_n dX2_fillGift_23 rfl ?_
      refine zA_iload dX2_fillGift_24 rfl ?_
      refine zA_cNi (st := [zR p, zI u]) kX2_74 (c_X8_cell d ((a : Int)) ((c : Int)) ν (by omega) (by omega)) rfl rfl rfl dX2_fillGift_26 (zfit0 (by omega) rfl) (fun v1 μ1 q1 => ?_)
      obtain ⟨rfl, rfl⟩ := q1
      refine zA_ialE (w := gP (μ p) a c) (j := a * 5 + c) hp (by omega) (by omega) dX2_fillGift_29 rfl (by rw [hfr p hpg hp7]; rfl) ?_
      refine zA_imulB dX2_fillGift_30 ⟨by omega, by omega⟩ ?_
      refine zA_istore (ls' := [some (zR 1), some (zR p), some (zI (a : Int)), some (zR g), some (zI (u - gS (gBs u (gP (μ p) a)) c)), some (zI (c : Int)), some (zI (u * (gP (μ p) a c)))]) dX2_fillGift_31 rfl rfl ?_
      refine zA_aload_n dX2_fillGift_33 rfl ?_
      refine zA_iload dX2_fillGift_34 rfl ?_
      refine zA_iload dX2_fillGift_36 rfl ?_
      refine zA_bipush dX2_fillGift_38 rfl ?_
      refine zA_idivE (w := gBs u (gP (μ p) a) c) dX2_fillGift_40 (by omega) (by omega) rfl ?_
      refine zA_iasE (j := c) hg (by omega) (by omega) dX2_fillGift_41 rfl ?_
      refine zA_aload_n dX2_fillGift_42 rfl ?_
      refine zA_getR fX2_27 t_1 rfl dX2_fillGift_43 ?_
      refine zA_iload dX2_fillGift_46 rfl ?_
      refine zA_iload dX2_fillGift_48 rfl ?_
      refine zA_bipush dX2_fillGift_50 rfl ?_
      refine zA_iremE (w := gRs u (gP (μ p) a) c) dX2_fillGift_52 (by omega) (by omega) rfl ?_
      refine zA_iasE (j := c) t_7 (by omega) (by omega) dX2_fillGift_53 rfl ?_
      refine zA_iload dX2_fillGift_54 rfl ?_
      refine zA_aload_n dX2_fillGift_56 rfl ?_
      refine zA_iload dX2_fillGift_57 rfl ?_
      refine zA_ialE (w := gBs u (gP (μ p) a) c) (j := c) hg (by omega) (by omega) dX2_fillGift_59 rfl (by rw [zup_k hg7, zup_s]) ?_
      refine zA_isubE (w := u - gS (gBs u (gP (μ p) a)) (c + 1)) dX2_fillGift_60 (by simp only [gS]; exact ⟨by omega, by omega⟩) (by simp only [gS]; omega) ?_
      refine zA_istore (ls' := [some (zR 1), some (zR p), some (zI (a : Int)), some (zR g), some (zI (u - gS (gBs u (gP (μ p) a)) (c + 1))), some (zI (c : Int)), some (zI (u * (gP (μ p) a c)))]) dX2_fillGift_61 rfl rfl ?_
      refine zA_iincB (ls' := [some (zR 1), some (zR p), some (zI (a : Int)), some (zR g), some (zI (u - gS (gBs u (gP (μ p) a)) (c + 1))), some (zI ((c : Int) + 1)), some (zI (u * (gP (μ p) a c)))]) dX2_fillGift_63 rfl rfl ⟨by omega, by omega⟩ rfl ?_
      refine zA_goto (tgt := 9) dX2_fillGift_66 rfl ?_
      refine zA_dr (ls' := [some (zR 1), some (zR p), some (zI (a : Int)), some (zR g), some (zI (u - gS (gBs u (gP (μ p) a)) (c + 1))), some (zI ((c : Int) + 1)), none]) 6 rfl ?_
      refine ih _ (by omega) (c + 1) rfl (by omega) _ ?_ ?_ ?_
      · intro j hj
        by_cases e : j = c
        · subst e
          rw [zup_k hg7, zup_s]
        · rw [zup_k hg7, zup_n (fun q => e q.2), hgv j (by omega)]
      · intro j hj
        by_cases e : j = c
        · subst e
          rw [zup_s]
        · rw [zup_n (fun q => e q.2), zup_k (Ne.symm hg7), hr j (by omega)]
      · intro k' h1 h2
        rw [← hfr k' h1 h2]
        funext i
        rw [zup_k h2, zup_k h1]
theorem c_X2_fillGift (d : Nat) (μ : zM) (p g a n : Nat) (u : Int) (hp : znth TF p = some (10, 30, [])) (hg : znth TF g = some (10, 5, [])) (hpg : p ≠ g) (hp7 : p ≠ 7) (hg7 : g ≠ 7) (hg1 : g ≠ 1) (hn : μ 1 6 = n) (h5 : n ≤ 5) (hu : μ 1 7 = u) (hu1 : 0 ≤ u ∧ u ≤ 30) (ha : a < 6) (hok : gOk (gP (μ p) a) n) : zMet (d + 2) 0 yX2_fillGift cX2_fillGift 7 none TF μ [zR 1, zR p, zI (a : Int), zR g] (zPv (fun ν => (∀ j, j < n → ν g j = gGv u (gP (μ p) a) n j) ∧ (∀ k, k ≠ g → k ≠ 7 → ν k = μ k))) := by
  refine zMv_of RX2 rfl (by decide) rfl (ls := [some (zR 1), some (zR p), some (zI (a : Int)), some (zR g), none, none, none]) rfl (fun hok0 => ?_)
  refine zA_aload_n dX2_fillGift_0 rfl ?_
  refine zA_getE (w := u - gS (gBs u (gP (μ p) a)) 0) fX2_34 t_1 dX2_fillGift_1 (by simp only [gS]; omega) ?_
  refine zA_istore (ls' := [some (zR 1), some (zR p), some (zI (a : Int)), some (zR g), some (zI (u - gS (gBs u (gP (μ p) a)) 0)), none, none]) dX2_fillGift_4 rfl rfl ?_
  refine zA_iconst dX2_fillGift_6 rfl ?_
  refine zA_istore (ls' := [some (zR 1), some (zR p), some (zI (a : Int)), some (zR g), some (zI (u - gS (gBs u (gP (μ p) a)) 0)), some (zI 0), none]) dX2_fillGift_7 rfl rfl ?_
  exact l_X2_fillGift1 d μ p g a n u hp hg hpg hp7 hg7 hg1 hn h5 hu hu1 ha hok _ 0 rfl (by omega) μ (fun j hj => by omega) (fun j hj => by omega) (fun k _ _ => rfl)
