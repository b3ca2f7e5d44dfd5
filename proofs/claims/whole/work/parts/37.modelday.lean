/-! ===== the model: rubIn, begin, goOn ===== -/
theorem l_X9_rubIn (d : Nat) (μ : zM) (q n m t rl : Nat) (u : Int) (a b : Nat) (hq : znth TF q = some (10, rl, [])) (hrl : 30 ≤ rl) (hq119 : q ≠ 119) (hH : zMs μ n m t u) (ha : a < m) (hb : b < m) (hab : a ≠ b) (hok : rOk n m (μ q)) (hgl : ¬ (zbit (μ 114 30) a = 1 ∨ zbit (μ 114 30) b = 1)) : ∀ (t0 c : Nat), n - c = t0 → c ≤ n → ∀ ν : zM, ν q = xch u n c (μ q) a b → (∀ j, j < n → ν 119 j = gGv u (gP (μ q) a) n j) → (∀ j, j < n → ν 119 (5 + j) = gGv u (gP (μ q) b) n j) → (∀ k, k ≠ q → k ≠ 119 → ν k = μ k) → zA RX9 cX9_rubIn 5 (zRm (d + 3) 0) zN0 TF 0 ν 46 [some (zR 110), some (zR q), some (zI (a : Int)), some (zI (b : Int)), some (zI (c : Int))] [] (zPv (fun ν => ν q = xchG u n (μ q) (μ 114 30) a b ∧ (∀ k, k ≠ q → k ≠ 119 → ν k = μ k))) := by
  obtain ⟨hn, hu, hm, ht, hn5, hm6, ht10, hu1, hdk⟩ := hH
  have hq110 := zne hq t_110 (by simp)
  intro t0
  induction t0 using Nat.strongRecOn with
  | ind t0 ih =>
    intro c hk hcn ν hpv h5v h6v hfr
    have hn2 : ν 110 0 = n := by rw [hfr 110 (Ne.symm hq110) (by decide)]; exact hn
    refine zA_iload dX9_rubIn_46 rfl ?_
    refine zA_aload_n dX9_rubIn_48 rfl ?_
    refine zA_getE (w := (n : Int)) fX9_75 t_110 dX9_rubIn_49 hn2 ?_
    refine zA_icmp_ge (tgt := 117) dX9_rubIn_52 rfl (fun h52 => ?_) (fun h52 => ?_)
    · exact zA_rv dX9_rubIn_117 ⟨by unfold xchG; rw [if_neg hgl, hpv, show c = n by omega], hfr⟩
    · have hcn2 : c < n := by omega
      have g1 := gGv_rg (hok a ha) hu1 hcn2
      have g2 := gGv_rg (hok b hb) hu1 hcn2
      have g3 := gOk_le (hok a ha) hcn2
      have g4 := gOk_le (hok b hb) hcn2
      refine zA_aload_n dX9_rubIn_55 rfl ?_
      refine zA_iconst dX9_rubIn_56 rfl ?_
      refine zA_iload_n dX9_rubIn_57 rfl ?_
      refine zA_imulB dX9_rubIn_58 ⟨by omega, by omega⟩ ?_
      refine zA_iload dX9_rubIn_59 rfl ?_
      refine zA_iaddB dX9_rubIn_61 ⟨by omega, by omega⟩ ?_
      refine zA_dup2 dX9_rubIn_62 rfl rfl ?_
      refine zA_ialE (w := gP (μ q) a c) (j := 5 * a + c) hq (by omega) (by omega) dX9_rubIn_63 rfl (by rw [hpv, Nat.mul_comm 5 a]; exact xch_un (by omega)) ?_
      refine zA_aload_n dX9_rubIn_64 rfl ?_
      refine zA_getR fX9_38 t_110 rfl dX9_rubIn_65 ?_
      refine zA_iconst dX9_rubIn_68 rfl ?_
      refine zA_iload dX9_rubIn_69 rfl ?_
      refine zA_iaddB dX9_rubIn_71 ⟨by omega, by omega⟩ ?_
      refine zA_ialE (w := gGv u (gP (μ q) b) n c) (j := 5 + c) t_119 (by omega) (by omega) dX9_rubIn_72 rfl (h6v c hcn2) ?_
      refine zA_aload_n dX9_rubIn_73 rfl ?_
      refine zA_getR fX9_38 t_110 rfl dX9_rubIn_74 ?_
      refine zA_iload dX9_rubIn_77 rfl ?_
      refine zA_ialE (w := gGv u (gP (μ q) a) n c) (j := c) t_119 (by omega) (by omega) dX9_rubIn_79 rfl (h5v c hcn2) ?_
      refine zA_isubB dX9_rubIn_80 ⟨by omega, by omega⟩ ?_
      refine zA_iaddB dX9_rubIn_81 ⟨by omega, by omega⟩ ?_
      refine zA_iasE (j := 5 * a + c) hq (by omega) (by omega) dX9_rubIn_82 rfl ?_
      refine zA_aload_n dX9_rubIn_83 rfl ?_
      refine zA_iconst dX9_rubIn_84 rfl ?_
      refine zA_iload_n dX9_rubIn_85 rfl ?_
      refine zA_imulB dX9_rubIn_86 ⟨by omega, by omega⟩ ?_
      refine zA_iload dX9_rubIn_87 rfl ?_
      refine zA_iaddB dX9_rubIn_89 ⟨by omega, by omega⟩ ?_
      refine zA_dup2 dX9_rubIn_90 rfl rfl ?_
      refine zA_ialE (w := gP (μ q) b c) (j := 5 * b + c) hq (by omega) (by omega) dX9_rubIn_91 rfl (by rw [zup_n (fun w => by omega), hpv, Nat.mul_comm 5 b]; exact xch_un (by omega)) ?_
      refine zA_aload_n dX9_rubIn_92 rfl ?_
      refine zA_getR fX9_38 t_110 rfl dX9_rubIn_93 ?_
      refine zA_iload dX9_rubIn_96 rfl ?_
      refine zA_ialE (w := gGv u (gP (μ q) a) n c) (j := c) t_119 (by omega) (by omega) dX9_rubIn_98 rfl (by rw [zup_k (Ne.symm hq119)]; exact (h5v c hcn2)) ?_
      refine zA_aload_n dX9_rubIn_99 rfl ?_
      refine zA_getR fX9_38 t_110 rfl dX9_rubIn_100 ?_
      refine zA_iconst dX9_rubIn_103 rfl ?_
      refine zA_iload dX9_rubIn_104 rfl ?_
      refine zA_iaddB dX9_rubIn_106 ⟨by omega, by omega⟩ ?_
      refine zA_ialE (w := gGv u (gP (μ q) b) n c) (j := 5 + c) t_119 (by omega) (by omega) dX9_rubIn_107 rfl (by rw [zup_k (Ne.symm hq119)]; exact (h6v c hcn2)) ?_
      refine zA_isubB dX9_rubIn_108 ⟨by omega, by omega⟩ ?_
      refine zA_iaddE (w := gP (μ q) b c - (gGv u (gP (μ q) b) n c - gGv u (gP (μ q) a) n c)) dX9_rubIn_109 ⟨by omega, by omega⟩ (by omega) ?_
      refine zA_iasE (j := 5 * b + c) hq (by omega) (by omega) dX9_rubIn_110 rfl ?_
      refine zA_iincB (ls' := [some (zR 110), some (zR q), some (zI (a : Int)), some (zI (b : Int)), some (zI ((c : Int) + 1))]) dX9_rubIn_111 rfl rfl ⟨by omega, by omega⟩ rfl ?_
      refine zA_goto (tgt := 46) dX9_rubIn_114 rfl ?_
      refine ih _ (by omega) (c + 1) rfl (by omega) _ ?_ ?_ ?_ ?_
      · funext i
        rw [xch_step (by omega) hab, Nat.mul_comm 5 a, Nat.mul_comm 5 b]
        by_cases e1 : i = b * 5 + c
        · subst e1
          rw [zup_s, if_pos rfl]
          rfl
        · rw [zup_n (fun w => e1 w.2), if_neg e1]
          by_cases e2 : i = a * 5 + c
          · subst e2
            rw [zup_s, if_pos rfl]
            rfl
          · rw [zup_n (fun w => e2 w.2), if_neg e2, hpv]
      · intro j hj
        rw [zup_k (Ne.symm hq119), zup_k (Ne.symm hq119)]
        exact h5v j hj
      · intro j hj
        rw [zup_k (Ne.symm hq119), zup_k (Ne.symm hq119)]
        exact h6v j hj
      · intro k h1 h2
        rw [← hfr k h1 h2]
        funext i
        rw [zup_k h1, zup_k h1]
theorem c_X9_rubIn (d : Nat) (μ : zM) (q n m t rl : Nat) (u : Int) (a b : Nat) (hq : znth TF q = some (10, rl, [])) (hrl : 30 ≤ rl) (hq119 : q ≠ 119) (hH : zMs μ n m t u) (ha : a < m) (hb : b < m) (hab : a ≠ b) (hok : rOk n m (μ q)) : zMet (d + 3) 0 yX9_rubIn cX9_rubIn 5 none TF μ [zR 110, zR q, zI (a : Int), zI (b : Int)] (zPv (fun ν => ν q = xchG u n (μ q) (μ 114 30) a b ∧ (∀ k, k ≠ q → k ≠ 119 → ν k = μ k))) := by
  obtain ⟨hn, hu, hm, ht, hn5, hm6, ht10, hu1, hdk⟩ := hH
  refine zMv_of RX9 rfl (by decide) rfl (ls := [some (zR 110), some (zR q), some (zI (a : Int)), some (zI (b : Int)), none]) rfl (fun hok0 => ?_)
  refine zA_aload_n dX9_rubIn_0 rfl ?_
  refine zA_getR fX9_19 t_110 rfl dX9_rubIn_1 ?_
  refine zA_bipush dX9_rubIn_4 rfl ?_
  refine zA_ialE (w := μ 114 30) (j := 30) t_114 (by omega) (by omega) dX9_rubIn_6 rfl rfl ?_
  refine zA_iload_n dX9_rubIn_7 rfl ?_
  refine zA_cSb (st := []) kX9_140 (c_X9_has (d + 1) (μ 114 30) ((a : Int)) μ) rfl rfl rfl dX9_rubIn_8 (zfit0 (by omega) rfl) (fun v1 μ1 q1 => ?_)
  obtain ⟨b1, rfl⟩ := q1
  refine zA_ifb_ne (tgt := 28) dX9_rubIn_11 rfl (fun h11 => ?_) (fun h11 => ?_)
  · exact zA_rv dX9_rubIn_28 ⟨by unfold xchG; rw [if_pos (Or.inl (b1.mp h11))], fun _ _ _ => rfl⟩
  · refine zA_aload_n dX9_rubIn_14 rfl ?_
    refine zA_getR fX9_19 t_110 rfl dX9_rubIn_15 ?_
    refine zA_bipush dX9_rubIn_18 rfl ?_
    refine zA_ialE (w := μ 114 30) (j := 30) t_114 (by omega) (by omega) dX9_rubIn_20 rfl rfl ?_
    refine zA_iload_n dX9_rubIn_21 rfl ?_
    refine zA_cSb (st := []) kX9_140 (c_X9_has (d + 1) (μ 114 30) ((b : Int)) μ) rfl rfl rfl dX9_rubIn_22 (zfit0 (by omega) rfl) (fun v2 μ2 q2 => ?_)
    obtain ⟨b2, rfl⟩ := q2
    refine zA_ifb_eq (tgt := 29) dX9_rubIn_25 rfl (fun h25 => ?_) (fun h25 => ?_)
    · refine zA_aload_n dX9_rubIn_29 rfl ?_
      refine zA_aload_n dX9_rubIn_30 rfl ?_
      refine zA_iload_n dX9_rubIn_31 rfl ?_
      refine zA_iconst dX9_rubIn_32 rfl ?_
      refine zA_cVv (st := []) kX9_195 t_110 rfl rfl (c_X9_giveOf d μ q a 0 n rl u hq hrl hq119 (by decide) hn hn5 hu hu1 (by omega) (hok a ha)) rfl rfl rfl dX9_rubIn_33 (zfit0 (by omega) rfl) (fun μ3 q3 => ?_)
      obtain ⟨q3a, q3b, q3c⟩ := q3
      refine zA_aload_n dX9_rubIn_36 rfl ?_
      refine zA_aload_n dX9_rubIn_37 rfl ?_
      refine zA_iload_n dX9_rubIn_38 rfl ?_
      refine zA_iconst dX9_rubIn_39 rfl ?_
      refine zA_cVv (st := []) kX9_195 t_110 rfl rfl (c_X9_giveOf d μ3 q b 5 n rl u hq hrl hq119 (by decide) (by rw [q3b 110 (by decide)]; exact hn) hn5 (by rw [q3b 110 (by decide)]; exact hu) hu1 (by omega) (by rw [q3b q hq119]; exact hok b hb)) rfl rfl rfl dX9_rubIn_40 (zfit0 (by omega) rfl) (fun μ4 q4 => ?_)
      obtain ⟨q4a, q4b, q4c⟩ := q4
      refine zA_iconst dX9_rubIn_43 rfl ?_
      refine zA_istore (ls' := [some (zR 110), some (zR q), some (zI (a : Int)), some (zI (b : Int)), some (zI 0)]) dX9_rubIn_44 rfl rfl ?_
      have hgl : ¬ (zbit (μ 114 30) a = 1 ∨ zbit (μ 114 30) b = 1) := by
        intro w
        rcases w with w | w
        · have := b1.mpr w; simp_all
        · have := b2.mpr w; simp_all
      exact l_X9_rubIn d μ q n m t rl u a b hq hrl hq119 ⟨hn, hu, hm, ht, hn5, hm6, ht10, hu1, hdk⟩ ha hb hab hok hgl _ 0 rfl (by omega) μ4 (by rw [q4b q hq119, q3b q hq119, xch_0]) (fun j hj => by rw [q4c j (by omega), ← q3a j hj, Nat.zero_add]) (fun j hj => by rw [q4a j hj, q3b q hq119]) (fun k h1 h2 => by rw [q4b k h2, q3b k h2])
    · exact zA_rv dX9_rubIn_28 ⟨by unfold xchG; rw [if_pos (Or.inr (b2.mp (by simpa using h25)))], fun _ _ _ => rfl⟩
theorem c_X9_rubInI (d : Nat) (μ : zM) (q n m t rl : Nat) (u a b : Int) (hq : znth TF q = some (10, rl, [])) (hrl : 30 ≤ rl) (hq119 : q ≠ 119) (hH : zMs μ n m t u) (ha : 0 ≤ a ∧ a < m) (hb : 0 ≤ b ∧ b < m) (hab : a ≠ b) (hok : rOk n m (μ q)) : zMet (d + 3) 0 yX9_rubIn cX9_rubIn 5 none TF μ [zR 110, zR q, zI a, zI b] (zPv (fun ν => ν q = xchG u n (μ q) (μ 114 30) a.toNat b.toNat ∧ (∀ k, k ≠ q → k ≠ 119 → ν k = μ k))) := by
  obtain ⟨a', rfl⟩ := Int.eq_ofNat_of_zero_le ha.1
  obtain ⟨b', rfl⟩ := Int.eq_ofNat_of_zero_le hb.1
  exact c_X9_rubIn d μ q n m t rl u a' b' hq hrl hq119 hH (by omega) (by omega) (by omega) hok
theorem l_X9_begin (d : Nat) (μ : zM) : ∀ (t0 c : Nat), 30 - c = t0 → c ≤ 30 → ∀ ν : zM, (∀ i, i < c → ν 122 i = μ 114 i) → (∀ k, k ≠ 122 → ν k = μ k) → zA RX9 cX9_begin 2 (zRm (d + 1) 0) zN0 TF 0 ν 2 [some (zR 110), some (zI (c : Int))] [] (zPv (fun ν => (∀ i, i < 30 → ν 122 i = μ 114 i) ∧ ∀ k, k ≠ 122 → ν k = μ k)) := by
  intro t0
  induction t0 using Nat.strongRecOn with
  | ind t0 ih =>
    intro c hk hcn ν hv hfr
    have e114 := hfr 114 (by decide)
    refine zA_iload_n dX9_begin_2 rfl ?_
    refine zA_bipush dX9_begin_3 rfl ?_
    refine zA_icmp_ge (tgt := 26) dX9_begin_5 rfl (fun h5 => ?_) (fun h5 => ?_)
    · exact zA_rv dX9_begin_26 ⟨fun i hi => hv i (by omega), hfr⟩
    · refine zA_aload_n dX9_begin_8 rfl ?_
      refine zA_getR fX9_47 t_110 rfl dX9_begin_9 ?_
      refine zA_iload_n dX9_begin_12 rfl ?_
      refine zA_aload_n dX9_begin_13 rfl ?_
      refine zA_getR fX9_19 t_110 rfl dX9_begin_14 ?_
      refine zA_iload_n dX9_begin_17 rfl ?_
      refine zA_ialE (w := μ 114 c) (j := c) t_114 (by omega) (by omega) dX9_begin_18 rfl (by rw [e114]) ?_
      refine zA_iasE (j := c) t_122 (by omega) (by omega) dX9_begin_19 rfl ?_
      refine zA_iincB (ls' := [some (zR 110), some (zI ((c : Int) + 1))]) dX9_begin_20 rfl rfl ⟨by omega, by omega⟩ rfl ?_
      refine zA_goto (tgt := 2) dX9_begin_23 rfl ?_
      refine ih _ (by omega) (c + 1) rfl (by omega) _ ?_ ?_
      · intro i hi
        by_cases e : i = c
        · subst e
          rw [zup_s]
        · rw [zup_n (fun w => e w.2), hv i (by omega)]
      · intro k h1
        rw [← hfr k h1]
        funext i
        rw [zup_k h1]
theorem c_X9_begin (d : Nat) (μ : zM) : zMet (d + 1) 0 yX9_begin cX9_begin 2 none TF μ [zR 110] (zPv (fun ν => (∀ i, i < 30 → ν 122 i = μ 114 i) ∧ ∀ k, k ≠ 122 → ν k = μ k)) := by
  refine zMv_of RX9 rfl (by decide) rfl (ls := [some (zR 110), none]) rfl (fun hok0 => ?_)
  refine zA_iconst dX9_begin_0 rfl ?_
  refine zA_istore_n (ls' := [some (zR 110), some (zI 0)]) dX9_begin_1 rfl rfl ?_
  exact l_X9_begin d μ _ 0 rfl (by omega) μ (fun i hi => by omega) (fun _ _ => rfl)
def dStep (u : Int) (n : Nat) (g : Int) (f s : Nat → Int) (wo : Int) (k : Nat) (row : Nat → Int) : Nat → Int := if zbit wo k = 1 then row else xchG u n row g (f k).toNat (s k).toNat
def dSeg (u : Int) (n : Nat) (g : Int) (f s : Nat → Int) (wo : Int) (row : Nat → Int) (a : Nat) : Nat → Nat → Int
  | 0 => row
  | c + 1 => dStep u n g f s wo (a + c) (dSeg u n g f s wo row a c)
theorem dSeg_0 (u : Int) (n : Nat) (g : Int) (f s : Nat → Int) (wo : Int) (row : Nat → Int) : ∀ k, dSeg u n g f s wo row 0 k = dRow u n g f s wo row k
  | 0 => rfl
  | k + 1 => by simp only [dSeg, dStep, dRow, Nat.zero_add]; rw [dSeg_0 u n g f s wo row k]
theorem dStep_ok {u : Int} {n m t : Nat} {g : Int} {f s : Nat → Int} {wo : Int} {row : Nat → Int} (hn : n ≤ 5) (hu : 0 ≤ u ∧ u ≤ 30) (hd : dOk m t f s) (h : rOk n m row) {k : Nat} (hk : k < t) : rOk n m (dStep u n g f s wo k row) := by
  unfold dStep
  split
  · exact h
  · obtain ⟨h1, h2, h3, h4, h5⟩ := hd k hk
    exact xchG_ok hn hu (by omega) (by omega) (by omega) h
theorem dSeg_ok {u : Int} {n m t : Nat} {g : Int} {f s : Nat → Int} {wo : Int} {row : Nat → Int} (hn : n ≤ 5) (hu : 0 ≤ u ∧ u ≤ 30) (hd : dOk m t f s) (h : rOk n m row) {a : Nat} : ∀ c, a + c ≤ t → rOk n m (dSeg u n g f s wo row a c)
  | 0, _ => h
  | c + 1, hc => dStep_ok hn hu hd (dSeg_ok hn hu hd h c (by omega)) (by omega)
theorem l_X9_goOn (d : Nat) (μ : zM) (n m t fr c0 : Nat) (u wo : Int) (hH : zMs μ n m t u) (hc0 : fr + c0 ≤ t) (hok : rOk n m (μ 122)) : ∀ (t0 c : Nat), c0 - c = t0 → c ≤ c0 → ∀ ν : zM, ν 122 = dSeg u n (μ 114 30) (μ 112) (μ 113) wo (μ 122) fr c → (∀ k, k ≠ 122 → k ≠ 119 → ν k = μ k) → zA RX9 cX9_goOn 5 (zRm (d + 4) 0) zN0 TF 0 ν 3 [some (zR 110), some (zI (fr : Int)), some (zI (((fr + c0 : Nat) : Int))), some (zI wo), some (zI (((fr + c : Nat) : Int)))] [] (zPv (fun ν => ν 122 = dSeg u n (μ 114 30) (μ 112) (μ 113) wo (μ 122) fr c0 ∧ (∀ k, k ≠ 122 → k ≠ 119 → ν k = μ k))) := by
  have hH0 := hH
  obtain ⟨hn, hu, hm, ht, hn5, hm6, ht10, hu1, hdk⟩ := hH0
  intro t0
  induction t0 using Nat.strongRecOn with
  | ind t0 ih =>
    intro c hk hkt ν hpv hfr
    have e110 := hfr 110 (by decide) (by decide)
    have e112 := hfr 112 (by decide) (by decide)
    have e113 := hfr 113 (by decide) (by decide)
    have e114 := hfr 114 (by decide) (by decide)
    refine zA_iload dX9_goOn_3 rfl ?_
    refine zA_iload_n dX9_goOn_5 rfl ?_
    refine zA_icmp_ge (tgt := 46) dX9_goOn_6 rfl (fun h6 => ?_) (fun h6 => ?_)
    · exact zA_rv dX9_goOn_46 ⟨by rw [hpv, show c = c0 by omega], hfr⟩
    · refine zA_iload_n dX9_goOn_9 rfl ?_
      refine zA_iload dX9_goOn_10 rfl ?_
      refine zA_cSb (st := []) kX9_140 (c_X9_has (d + 2) (wo) (((fr + c : Nat) : Int)) ν) rfl rfl rfl dX9_goOn_12 (zfit0 (by omega) rfl) (fun v1 μ1 q1 => ?_)
      obtain ⟨b1, rfl⟩ := q1
      refine zA_ifb_ne (tgt := 40) dX9_goOn_15 rfl (fun h15 => ?_) (fun h15 => ?_)
      · refine zA_iincB (ls' := [some (zR 110), some (zI (fr : Int)), some (zI (((fr + c0 : Nat) : Int))), some (zI wo), some (zI (((fr + c : Nat) : Int) + 1))]) dX9_goOn_40 rfl rfl ⟨by omega, by omega⟩ rfl ?_
        refine zA_goto (tgt := 3) dX9_goOn_43 rfl ?_
        exact ih _ (by omega) (c + 1) rfl (by omega) ν (by rw [hpv]; simp only [dSeg, dStep]; rw [if_pos (b1.mp h15)]) hfr
      · refine zA_aload_n dX9_goOn_18 rfl ?_
        refine zA_aload_n dX9_goOn_19 rfl ?_
        refine zA_getR fX9_47 t_110 rfl dX9_goOn_20 ?_
        refine zA_aload_n dX9_goOn_23 rfl ?_
        refine zA_getR fX9_13 t_110 rfl dX9_goOn_24 ?_
        refine zA_iload dX9_goOn_27 rfl ?_
        refine zA_ialE (w := ν 112 (fr + c)) (j := (((fr + c : Nat) : Int)).toNat) t_112 (by omega) (by omega) dX9_goOn_29 rfl rfl ?_
        refine zA_aload_n dX9_goOn_30 rfl ?_
        refine zA_getR fX9_16 t_110 rfl dX9_goOn_31 ?_
        refine zA_iload dX9_goOn_34 rfl ?_
        refine zA_ialE (w := ν 113 (fr + c)) (j := (((fr + c : Nat) : Int)).toNat) t_113 (by omega) (by omega) dX9_goOn_36 rfl rfl ?_
        refine zA_cVv (st := []) kX9_202 t_110 rfl rfl (c_X9_rubInI d ν 122 n m t 30 u (ν 112 (fr + c)) (ν 113 (fr + c)) t_122 (by decide) (by decide) (hH.keep e110 e112 e113) (by rw [e112]; exact ⟨(hdk _ (by omega)).1, (hdk _ (by omega)).2.1⟩) (by rw [e113]; exact ⟨(hdk _ (by omega)).2.2.1, (hdk _ (by omega)).2.2.2.1⟩) (by rw [e112, e113]; exact (hdk _ (by omega)).2.2.2.2) (by rw [hpv]; exact dSeg_ok hn5 hu1 hdk hok c (by omega))) rfl rfl rfl dX9_goOn_37 (zfit0 (by omega) rfl) (fun μ2 q2 => ?_)
        obtain ⟨q2a, q2b⟩ := q2
        refine zA_iincB (ls' := [some (zR 110), some (zI (fr : Int)), some (zI (((fr + c0 : Nat) : Int))), some (zI wo), some (zI (((fr + c : Nat) : Int) + 1))]) dX9_goOn_40 rfl rfl ⟨by omega, by omega⟩ rfl ?_
        refine zA_goto (tgt := 3) dX9_goOn_43 rfl ?_
        exact ih _ (by omega) (c + 1) rfl (by omega) μ2 (by rw [q2a, hpv, e112, e113, e114]; simp only [dSeg, dStep]; rw [if_neg (fun q => by have := b1.mpr q; simp_all)]) (fun k' h1 h2 => by rw [q2b k' h1 h2, hfr k' h1 h2])
theorem c_X9_goOn (d : Nat) (μ : zM) (n m t fr c0 : Nat) (u wo : Int) (hH : zMs μ n m t u) (hc0 : fr + c0 ≤ t) (hok : rOk n m (μ 122)) : zMet (d + 4) 0 yX9_goOn cX9_goOn 5 none TF μ [zR 110, zI (fr : Int), zI ((fr + c0 : Nat) : Int), zI wo] (zPv (fun ν => ν 122 = dSeg u n (μ 114 30) (μ 112) (μ 113) wo (μ 122) fr c0 ∧ (∀ k, k ≠ 122 → k ≠ 119 → ν k = μ k))) := by
  refine zMv_of RX9 rfl (by decide) rfl (ls := [some (zR 110), some (zI (fr : Int)), some (zI (((fr + c0 : Nat) : Int))), some (zI wo), none]) rfl (fun hok0 => ?_)
  refine zA_iload_n dX9_goOn_0 rfl ?_
  refine zA_istore (ls' := [some (zR 110), some (zI (fr : Int)), some (zI (((fr + c0 : Nat) : Int))), some (zI wo), some (zI (fr : Int))]) dX9_goOn_1 rfl rfl ?_
  exact l_X9_goOn d μ n m t fr c0 u wo hH hc0 hok _ 0 rfl (by omega) μ rfl (fun _ _ _ => rfl)
