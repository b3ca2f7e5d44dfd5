/-! ===== House: exchange, goPlanned, goThroughDay, giftOf ===== -/
theorem zne {p q : Nat} {e e' : zK} (hp : znth TF p = some e) (hq : znth TF q = some e') (h : e ≠ e') : p ≠ q := fun w => h (by subst w; exact Option.some.inj (hp.symm.trans hq))
/-- the house as the numbers say it: n colours, m coats, t touches, u the rub -/
def zHs (μ : zM) (n m t : Nat) (u : Int) : Prop := μ 1 6 = n ∧ μ 1 7 = u ∧ μ 1 8 = m ∧ μ 1 11 = t ∧ n ≤ 5 ∧ m ≤ 6 ∧ t ≤ 10 ∧ (0 ≤ u ∧ u ≤ 30) ∧ dOk m t (μ 3) (μ 4)
theorem zHs.keep {μ ν : zM} {n m t : Nat} {u : Int} (h : zHs μ n m t u) (h1 : ν 1 = μ 1) (h3 : ν 3 = μ 3) (h4 : ν 4 = μ 4) : zHs ν n m t u := by
  unfold zHs at *
  rw [h1, h3, h4]
  exact h
theorem l_X2_exchange (d : Nat) (μ : zM) (p n m t : Nat) (u g : Int) (a b : Nat) (hp : znth TF p = some (10, 30, [])) (hH : zHs μ n m t u) (ha : a < m) (hb : b < m) (hab : a ≠ b) (hok : rOk n m (μ p)) (hgl : ¬ (zbit g a = 1 ∨ zbit g b = 1)) : ∀ (t0 c : Nat), n - c = t0 → c ≤ n → ∀ ν : zM, ν p = xch u n c (μ p) a b → (∀ j, j < n → ν 5 j = gGv u (gP (μ p) a) n j) → (∀ j, j < n → ν 6 j = gGv u (gP (μ p) b) n j) → (∀ k, k ≠ p → k ≠ 5 → k ≠ 6 → k ≠ 7 → ν k = μ k) → zA RX2 cX2_exchange 7 (zRm (d + 3) 0) zN0 TF 0 ν 42 [some (zR 1), some (zR p), some (zI g), some (zI (a : Int)), some (zI (b : Int)), some (zI (c : Int)), none] [] (zPv (fun ν => ν p = xchG u n (μ p) g a b ∧ (∀ k, k ≠ p → k ≠ 5 → k ≠ 6 → k ≠ 7 → ν k = μ k))) := by
  obtain ⟨hn, hu, hm, ht, hn5, hm6, ht10, hu1, hdk⟩ := hH
  have hp1 := zne hp t_1 (by decide)
  have hp5 := zne hp t_5 (by decide)
  have hp6 := zne hp t_6 (by decide)
  have hp7 := zne hp t_7 (by decide)
  intro t0
  induction t0 using Nat.strongRecOn with
  | ind t0 ih =>
    intro c hk hcn ν hpv h5v h6v hfr
    have hn2 : ν 1 6 = n := by rw [hfr 1 (Ne.symm hp1) (by decide) (by decide) (by decide)]; exact hn
    refine zA_iload dX2_exchange_42 rfl ?_
    refine zA_aload_n dX2_exchange_44 rfl ?_
    refine zA_getE (w := (n : Int)) fX2_30 t_1 dX2_exchange_45 hn2 ?_
    refine zA_icmp_ge (tgt := 101) dX2_exchange_48 rfl (fun h48 => ?_) (fun h48 => ?_)
    · exact zA_rv dX2_exchange_101 ⟨by unfold xchG; rw [if_neg hgl, hpv, show c = n by omega], hfr⟩
    · have hcn2 : c < n := by omega
      have g1 := gGv_rg (hok a ha) hu1 hcn2
      have g2 := gGv_rg (hok b hb) hu1 hcn2
      have g3 := gOk_le (hok a ha) hcn2
      have g4 := gOk_le (hok b hb) hcn2
      refine zA_aload_n dX2_exchange_51 rfl ?_
      refine zA_getR fX2_24 t_1 rfl dX2_exchange_52 ?_
      refine zA_iload dX2_exchange_55 rfl ?_
      refine zA_ialE (w := gGv u (gP (μ p) b) n c) (j := c) t_6 (by omega) (by omega) dX2_exchange_57 rfl (h6v c hcn2) ?_
      refine zA_aload_n dX2_exchange_58 rfl ?_
      refine zA_getR fX2_21 t_1 rfl dX2_exchange_59 ?_
      refine zA_iload dX2_exchange_62 rfl ?_
      refine zA_ialE (w := gGv u (gP (μ p) a) n c) (j := c) t_5 (by omega) (by omega) dX2_exchange_64 rfl (h5v c hcn2) ?_
      refine zA_isubB dX2_exchange_65 ⟨by omega, by omega⟩ ?_
      refine zA_istore (ls' := [some (zR 1), some (zR p), some (zI g), some (zI (a : Int)), some (zI (b : Int)), some (zI (c : Int)), some (zI ((gGv u (gP (μ p) b) n c) - (gGv u (gP (μ p) a) n c)))]) dX2_exchange_66 rfl rfl ?_
      refine zA_aload_n dX2_exchange_68 rfl ?_
      refine zA_iload_n dX2_exchange_69 rfl ?_
      refine zA_iload dX2_exchange_70 rfl ?_
      refine zA_cNi (st := [zR p]) kX2_74 (c_X8_cell (d + 1) ((a : Int)) ((c : Int)) ν (by omega) (by omega)) rfl rfl rfl dX2_exchange_72 (zfit0 (by omega) rfl) (fun v1 μ1 q1 => ?_)
      obtain ⟨rfl, rfl⟩ := q1
      refine zA_dup2 dX2_exchange_75 rfl rfl ?_
      refine zA_ialE (w := gP (μ p) a c) (j := a * 5 + c) hp (by omega) (by omega) dX2_exchange_76 rfl (by rw [hpv]; exact xch_un (by omega)) ?_
      refine zA_iload dX2_exchange_77 rfl ?_
      refine zA_iaddB dX2_exchange_79 ⟨by omega, by omega⟩ ?_
      refine zA_iasE (j := a * 5 + c) hp (by omega) (by omega) dX2_exchange_80 rfl ?_
      refine zA_aload_n dX2_exchange_81 rfl ?_
      refine zA_iload dX2_exchange_82 rfl ?_
      refine zA_iload dX2_exchange_84 rfl ?_
      refine zA_cNi (st := [zR p]) kX2_74 (c_X8_cell (d + 1) ((b : Int)) ((c : Int)) (zup ν p (a * 5 + c) ((gP (μ p) a c) + ((gGv u (gP (μ p) b) n c) - (gGv u (gP (μ p) a) n c)))) (by omega) (by omega)) rfl rfl rfl dX2_exchange_86 (zfit0 (by omega) rfl) (fun v2 μ2 q2 => ?_)
      obtain ⟨rfl, rfl⟩ := q2
      refine zA_dup2 dX2_exchange_89 rfl rfl ?_
      refine zA_ialE (w := gP (μ p) b c) (j := b * 5 + c) hp (by omega) (by omega) dX2_exchange_90 rfl (by rw [zup_n (fun q => by omega), hpv]; exact xch_un (by omega)) ?_
      refine zA_iload dX2_exchange_91 rfl ?_
      refine zA_isubB dX2_exchange_93 ⟨by omega, by omega⟩ ?_
      refine zA_iasE (j := b * 5 + c) hp (by omega) (by omega) dX2_exchange_94 rfl ?_
      refine zA_iincB (ls' := [some (zR 1), some (zR p), some (zI g), some (zI (a : Int)), some (zI (b : Int)), some (zI ((c : Int) + 1)), some (zI ((gGv u (gP (μ p) b) n c) - (gGv u (gP (μ p) a) n c)))]) dX2_exchange_95 rfl rfl ⟨by omega, by omega⟩ rfl ?_
      refine zA_goto (tgt := 42) dX2_exchange_98 rfl ?_
      refine zA_dr (ls' := [some (zR 1), some (zR p), some (zI g), some (zI (a : Int)), some (zI (b : Int)), some (zI ((c : Int) + 1)), none]) 6 rfl ?_
      refine ih _ (by omega) (c + 1) rfl (by omega) _ ?_ ?_ ?_ ?_
      · funext i
        rw [xch_step (by omega) hab]
        by_cases e1 : i = b * 5 + c
        · subst e1
          rw [zup_s, if_pos rfl]
          rfl
        · rw [zup_n (fun q => e1 q.2), if_neg e1]
          by_cases e2 : i = a * 5 + c
          · subst e2
            rw [zup_s, if_pos rfl]
            rfl
          · rw [zup_n (fun q => e2 q.2), if_neg e2, hpv]
      · intro j hj
        rw [zup_k (Ne.symm hp5), zup_k (Ne.symm hp5)]
        exact h5v j hj
      · intro j hj
        rw [zup_k (Ne.symm hp6), zup_k (Ne.symm hp6)]
        exact h6v j hj
      · intro k h1 h2 h3 h4
        rw [← hfr k h1 h2 h3 h4]
        funext i
        rw [zup_k h1, zup_k h1]
theorem c_X2_exchange (d : Nat) (μ : zM) (p n m t : Nat) (u g : Int) (a b : Nat) (hp : znth TF p = some (10, 30, [])) (hH : zHs μ n m t u) (ha : a < m) (hb : b < m) (hab : a ≠ b) (hok : rOk n m (μ p)) : zMet (d + 3) 0 yX2_exchange cX2_exchange 7 none TF μ [zR 1, zR p, zI g, zI (a : Int), zI (b : Int)] (zPv (fun ν => ν p = xchG u n (μ p) g a b ∧ (∀ k, k ≠ p → k ≠ 5 → k ≠ 6 → k ≠ 7 → ν k = μ k))) := by
  obtain ⟨hn, hu, hm, ht, hn5, hm6, ht10, hu1, hdk⟩ := hH
  have hp1 := zne hp t_1 (by decide)
  have hp5 := zne hp t_5 (by decide)
  have hp6 := zne hp t_6 (by decide)
  have hp7 := zne hp t_7 (by decide)
  refine zMv_of RX2 rfl (by decide) rfl (ls := [some (zR 1), some (zR p), some (zI g), some (zI (a : Int)), some (zI (b : Int)), none, none]) rfl (fun hok0 => ?_)
  refine zA_iload_n dX2_exchange_0 rfl ?_
  refine zA_iload_n dX2_exchange_1 rfl ?_
  refine zA_cNb (st := []) kX2_70 (c_X8_isIn (d + 1) (g) ((a : Int)) μ) rfl rfl rfl dX2_exchange_2 (zfit0 (by omega) rfl) (fun v1 μ1 q1 => ?_)
  obtain ⟨b1, rfl⟩ := q1
  refine zA_ifb_ne (tgt := 17) dX2_exchange_5 rfl (fun h5 => ?_) (fun h5 => ?_)
  · exact zA_rv dX2_exchange_17 ⟨by unfold xchG; rw [if_pos (Or.inl (b1.mp h5))], fun _ _ _ _ _ => rfl⟩
  · refine zA_iload_n dX2_exchange_8 rfl ?_
    refine zA_iload dX2_exchange_9 rfl ?_
    refine zA_cNb (st := []) kX2_70 (c_X8_isIn (d + 1) (g) ((b : Int)) μ) rfl rfl rfl dX2_exchange_11 (zfit0 (by omega) rfl) (fun v2 μ2 q2 => ?_)
    obtain ⟨b2, rfl⟩ := q2
    refine zA_ifb_eq (tgt := 18) dX2_exchange_14 rfl (fun h14 => ?_) (fun h14 => ?_)
    · refine zA_aload_n dX2_exchange_18 rfl ?_
      refine zA_aload_n dX2_exchange_19 rfl ?_
      refine zA_iload_n dX2_exchange_20 rfl ?_
      refine zA_aload_n dX2_exchange_21 rfl ?_
      refine zA_getR fX2_21 t_1 rfl dX2_exchange_22 ?_
      refine zA_cVv (st := []) kX2_66 t_1 rfl rfl (c_X2_fillGift d μ p 5 a n u hp t_5 hp5 hp7 (by decide) (by decide) hn hn5 hu hu1 (by omega) (hok a ha)) rfl rfl rfl dX2_exchange_25 (zfit0 (by omega) rfl) (fun μ3 q3 => ?_)
      obtain ⟨q3a, q3b⟩ := q3
      refine zA_aload_n dX2_exchange_28 rfl ?_
      refine zA_aload_n dX2_exchange_29 rfl ?_
      refine zA_iload dX2_exchange_30 rfl ?_
      refine zA_aload_n dX2_exchange_32 rfl ?_
      refine zA_getR fX2_24 t_1 rfl dX2_exchange_33 ?_
      refine zA_cVv (st := []) kX2_66 t_1 rfl rfl (c_X2_fillGift d μ3 p 6 b n u hp t_6 hp6 hp7 (by decide) (by decide) (by rw [q3b 1 (by decide) (by decide)]; exact hn) hn5 (by rw [q3b 1 (by decide) (by decide)]; exact hu) hu1 (by omega) (by rw [q3b p hp5 hp7]; exact hok b hb)) rfl rfl rfl dX2_exchange_36 (zfit0 (by omega) rfl) (fun μ4 q4 => ?_)
      obtain ⟨q4a, q4b⟩ := q4
      refine zA_iconst dX2_exchange_39 rfl ?_
      refine zA_istore (ls' := [some (zR 1), some (zR p), some (zI g), some (zI (a : Int)), some (zI (b : Int)), some (zI 0), none]) dX2_exchange_40 rfl rfl ?_
      have hgl : ¬ (zbit g a = 1 ∨ zbit g b = 1) := by
        intro q
        rcases q with q | q
        · have := b1.mpr q; simp_all
        · have := b2.mpr q; simp_all
      exact l_X2_exchange d μ p n m t u g a b hp ⟨hn, hu, hm, ht, hn5, hm6, ht10, hu1, hdk⟩ ha hb hab hok hgl _ 0 rfl (by omega) μ4 (by rw [q4b p hp6 hp7, q3b p hp5 hp7, xch_0]) (fun j hj => by rw [q4b 5 (by decide) (by decide)]; exact q3a j hj) (fun j hj => by rw [q4a j hj, q3b p hp5 hp7]) (fun k h1 h2 h3 h4 => by rw [q4b k h3 h4, q3b k h2 h4])
    · exact zA_rv dX2_exchange_17 ⟨by unfold xchG; rw [if_pos (Or.inr (b2.mp (by simpa using h14)))], fun _ _ _ _ _ => rfl⟩
theorem c_X2_exchangeI (d : Nat) (μ : zM) (p n m t : Nat) (u g a b : Int) (hp : znth TF p = some (10, 30, [])) (hH : zHs μ n m t u) (ha : 0 ≤ a ∧ a < m) (hb : 0 ≤ b ∧ b < m) (hab : a ≠ b) (hok : rOk n m (μ p)) : zMet (d + 3) 0 yX2_exchange cX2_exchange 7 none TF μ [zR 1, zR p, zI g, zI a, zI b] (zPv (fun ν => ν p = xchG u n (μ p) g a.toNat b.toNat ∧ (∀ k, k ≠ p → k ≠ 5 → k ≠ 6 → k ≠ 7 → ν k = μ k))) := by
  obtain ⟨a', rfl⟩ := Int.eq_ofNat_of_zero_le ha.1
  obtain ⟨b', rfl⟩ := Int.eq_ofNat_of_zero_le hb.1
  exact c_X2_exchange d μ p n m t u g a' b' hp hH (by omega) (by omega) (by omega) hok
theorem c_X2_goPlanned (d : Nat) (μ : zM) (p n m t : Nat) (u g : Int) (k : Nat) (hp : znth TF p = some (10, 30, [])) (hH : zHs μ n m t u) (hk : k < t) (hok : rOk n m (μ p)) : zMet (d + 4) 0 yX2_goPlanned cX2_goPlanned 4 none TF μ [zR 1, zR p, zI g, zI (k : Int)] (zPv (fun ν => ν p = xchG u n (μ p) g (μ 3 k).toNat (μ 4 k).toNat ∧ (∀ k, k ≠ p → k ≠ 5 → k ≠ 6 → k ≠ 7 → ν k = μ k))) := by
  have hH0 := hH
  obtain ⟨hn, hu, hm, ht, hn5, hm6, ht10, hu1, hdk⟩ := hH0
  refine zMv_of RX2 rfl (by decide) rfl (ls := [some (zR 1), some (zR p), some (zI g), some (zI (k : Int))]) rfl (fun hok0 => ?_)
  refine zA_iload_n dX2_goPlanned_0 rfl ?_
  refine zA_if_lt (tgt := 30) dX2_goPlanned_1 rfl (fun h1 => False.elim (by omega)) fun h1 => ?_
  refine zA_iload_n dX2_goPlanned_4 rfl ?_
  refine zA_aload_n dX2_goPlanned_5 rfl ?_
  refine zA_getE (w := (t : Int)) fX2_46 t_1 dX2_goPlanned_6 ht ?_
  refine zA_icmp_ge (tgt := 30) dX2_goPlanned_9 rfl (fun h9 => False.elim (by omega)) fun h9 => ?_
  refine zA_aload_n dX2_goPlanned_12 rfl ?_
  refine zA_aload_n dX2_goPlanned_13 rfl ?_
  refine zA_iload_n dX2_goPlanned_14 rfl ?_
  refine zA_aload_n dX2_goPlanned_15 rfl ?_
  refine zA_getR fX2_15 t_1 rfl dX2_goPlanned_16 ?_
  refine zA_iload_n dX2_goPlanned_19 rfl ?_
  refine zA_ialE (w := μ 3 k) (j := k) t_3 (by omega) (by omega) dX2_goPlanned_20 rfl rfl ?_
  refine zA_aload_n dX2_goPlanned_21 rfl ?_
  refine zA_getR fX2_18 t_1 rfl dX2_goPlanned_22 ?_
  refine zA_iload_n dX2_goPlanned_25 rfl ?_
  refine zA_ialE (w := μ 4 k) (j := k) t_4 (by omega) (by omega) dX2_goPlanned_26 rfl rfl ?_
  refine zA_cVv (st := []) kX2_78 t_1 rfl rfl (c_X2_exchangeI d μ p n m t u g (μ 3 k) (μ 4 k) hp hH ⟨(hdk k hk).1, (hdk k hk).2.1⟩ ⟨(hdk k hk).2.2.1, (hdk k hk).2.2.2.1⟩ (hdk k hk).2.2.2.2 hok) rfl rfl rfl dX2_goPlanned_27 (zfit0 (by omega) rfl) (fun μ1 q1 => ?_)
  exact zA_rv dX2_goPlanned_30 q1
theorem l_X2_goThroughDay (d : Nat) (μ : zM) (p n m t : Nat) (u g wo : Int) (hp : znth TF p = some (10, 30, [])) (hH : zHs μ n m t u) (hok : rOk n m (μ p)) : ∀ (t0 k : Nat), t - k = t0 → k ≤ t → ∀ ν : zM, ν p = dRow u n g (μ 3) (μ 4) wo (μ p) k → (∀ k, k ≠ p → k ≠ 5 → k ≠ 6 → k ≠ 7 → ν k = μ k) → zA RX2 cX2_goThroughDay 5 (zRm (d + 5) 0) zN0 TF 0 ν 3 [some (zR 1), some (zR p), some (zI g), some (zI wo), some (zI (k : Int))] [] (zPv (fun ν => ν p = dRow u n g (μ 3) (μ 4) wo (μ p) t ∧ (∀ k, k ≠ p → k ≠ 5 → k ≠ 6 → k ≠ 7 → ν k = μ k))) := by
  have hH0 := hH
  obtain ⟨hn, hu, hm, ht, hn5, hm6, ht10, hu1, hdk⟩ := hH0
  have hp1 := zne hp t_1 (by decide)
  have hp3 := zne hp t_3 (by decide)
  have hp4 := zne hp t_4 (by decide)
  intro t0
  induction t0 using Nat.strongRecOn with
  | ind t0 ih =>
    intro k hk hkt ν hpv hfr
    have e1 := hfr 1 (Ne.symm hp1) (by decide) (by decide) (by decide)
    have e3 := hfr 3 (Ne.symm hp3) (by decide) (by decide) (by decide)
    have e4 := hfr 4 (Ne.symm hp4) (by decide) (by decide) (by decide)
    have ht2 : ν 1 11 = t := by rw [e1]; exact ht
    refine zA_iload dX2_goThroughDay_3 rfl ?_
    refine zA_aload_n dX2_goThroughDay_5 rfl ?_
    refine zA_getE (w := (t : Int)) fX2_46 t_1 dX2_goThroughDay_6 ht2 ?_
    refine zA_icmp_ge (tgt := 35) dX2_goThroughDay_9 rfl (fun h9 => ?_) (fun h9 => ?_)
    · exact zA_rv dX2_goThroughDay_35 ⟨by rw [hpv, show k = t by omega], hfr⟩
    · refine zA_iload_n dX2_goThroughDay_12 rfl ?_
      refine zA_iload dX2_goThroughDay_13 rfl ?_
      refine zA_cNb (st := []) kX2_70 (c_X8_isIn (d + 3) (wo) ((k : Int)) ν) rfl rfl rfl dX2_goThroughDay_15 (zfit0 (by omega) rfl) (fun v1 μ1 q1 => ?_)
      obtain ⟨b1, rfl⟩ := q1
      refine zA_ifb_ne (tgt := 29) dX2_goThroughDay_18 rfl (fun h18 => ?_) (fun h18 => ?_)
      · refine zA_iincB (ls' := [some (zR 1), some (zR p), some (zI g), some (zI wo), some (zI ((k : Int) + 1))]) dX2_goThroughDay_29 rfl rfl ⟨by omega, by omega⟩ rfl ?_
        refine zA_goto (tgt := 3) dX2_goThroughDay_32 rfl ?_
        exact ih _ (by omega) (k + 1) rfl (by omega) ν (by rw [hpv]; simp only [dRow]; rw [if_pos (b1.mp h18)]) hfr
      · refine zA_aload_n dX2_goThroughDay_21 rfl ?_
        refine zA_aload_n dX2_goThroughDay_22 rfl ?_
        refine zA_iload_n dX2_goThroughDay_23 rfl ?_
        refine zA_iload dX2_goThroughDay_24 rfl ?_
        refine zA_cVv (st := []) kX2_82 t_1 rfl rfl (c_X2_goPlanned d ν p n m t u g k hp (hH.keep e1 e3 e4) (by omega) (by rw [hpv]; exact dRow_ok hn5 hu1 hdk hok k (by omega))) rfl rfl rfl dX2_goThroughDay_26 (zfit0 (by omega) rfl) (fun μ2 q2 => ?_)
        obtain ⟨q2a, q2b⟩ := q2
        refine zA_iincB (ls' := [some (zR 1), some (zR p), some (zI g), some (zI wo), some (zI ((k : Int) + 1))]) dX2_goThroughDay_29 rfl rfl ⟨by omega, by omega⟩ rfl ?_
        refine zA_goto (tgt := 3) dX2_goThroughDay_32 rfl ?_
        exact ih _ (by omega) (k + 1) rfl (by omega) μ2 (by rw [q2a, hpv, e3, e4]; simp only [dRow]; rw [if_neg (fun q => by have := b1.mpr q; simp_all)]) (fun k' h1 h2 h3 h4 => by rw [q2b k' h1 h2 h3 h4, hfr k' h1 h2 h3 h4])
theorem c_X2_goThroughDay (d : Nat) (μ : zM) (p n m t : Nat) (u g wo : Int) (hp : znth TF p = some (10, 30, [])) (hH : zHs μ n m t u) (hok : rOk n m (μ p)) : zMet (d + 5) 0 yX2_goThroughDay cX2_goThroughDay 5 none TF μ [zR 1, zR p, zI g, zI wo] (zPv (fun ν => ν p = dRow u n g (μ 3) (μ 4) wo (μ p) t ∧ (∀ k, k ≠ p → k ≠ 5 → k ≠ 6 → k ≠ 7 → ν k = μ k))) := by
  refine zMv_of RX2 rfl (by decide) rfl (ls := [some (zR 1), some (zR p), some (zI g), some (zI wo), none]) rfl (fun hok0 => ?_)
  refine zA_iconst dX2_goThroughDay_0 rfl ?_
  refine zA_istore (ls' := [some (zR 1), some (zR p), some (zI g), some (zI wo), some (zI 0)]) dX2_goThroughDay_1 rfl rfl ?_
  exact l_X2_goThroughDay d μ p n m t u g wo hp hH hok _ 0 rfl (by omega) μ rfl (fun _ _ _ _ _ => rfl)
theorem c_X2_giftOf (d : Nat) (μ : zM) (p n m t : Nat) (u : Int) (a c : Nat) (hp : znth TF p = some (10, 30, [])) (hH : zHs μ n m t u) (ha : a < m) (hc : c < n) (hok : rOk n m (μ p)) : zMet (d + 3) 0 yX2_giftOf cX2_giftOf 4 (some .int) TF μ [zR 1, zR p, zI (a : Int), zI (c : Int)] (zPi (fun v ν => v = gGv u (gP (μ p) a) n c ∧ ∀ k, k ≠ 5 → k ≠ 7 → ν k = μ k)) := by
  obtain ⟨hn, hu, hm, ht, hn5, hm6, ht10, hu1, hdk⟩ := hH
  have hp5 := zne hp t_5 (by decide)
  have hp7 := zne hp t_7 (by decide)
  refine zMi_of RX2 rfl (by decide) rfl (ls := [some (zR 1), some (zR p), some (zI (a : Int)), some (zI (c : Int))]) rfl (fun hok0 => ?_)
  refine zA_aload_n dX2_giftOf_0 rfl ?_
  refine zA_aload_n dX2_giftOf_1 rfl ?_
  refine zA_iload_n dX2_giftOf_2 rfl ?_
  refine zA_aload_n dX2_giftOf_3 rfl ?_
  refine zA_getR fX2_21 t_1 rfl dX2_giftOf_4 ?_
  refine zA_cVv (st := []) kX2_66 t_1 rfl rfl (c_X2_fillGift d μ p 5 a n u hp t_5 hp5 hp7 (by decide) (by decide) hn hn5 hu hu1 (by omega) (hok a ha)) rfl rfl rfl dX2_giftOf_7 (zfit0 (by omega) rfl) (fun μ1 q1 => ?_)
  obtain ⟨q1a, q1b⟩ := q1
  refine zA_aload_n dX2_giftOf_10 rfl ?_
  refine zA_getR fX2_21 t_1 rfl dX2_giftOf_11 ?_
  refine zA_iload_n dX2_giftOf_14 rfl ?_
  refine zA_ialE (w := μ1 5 c) (j := c) t_5 (by omega) (by omega) dX2_giftOf_15 rfl rfl ?_
  exact zA_ri dX2_giftOf_16 ⟨q1a c hc, q1b⟩
