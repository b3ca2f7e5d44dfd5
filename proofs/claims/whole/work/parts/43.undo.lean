/-! ===== the model's remember; undo, keep, goBack ===== -/
theorem l_X9_remember2 (d y : Nat) (ξ : zM) (Q : zM → Prop) (hy : y < 20) (hξ : ξ 110 26 = y) (hQ : ∀ ν : zM, (∀ i, i < 33 → ν 120 (33 * y + i) = ξ 114 i) → (∀ i, i < 33 * y → ν 120 i = ξ 120 i) → (∀ c, c ≠ 120 → ν c = ξ c) → Q (zup ν 110 26 ((y : Int) + 1))) : ∀ (t0 k : Nat), 33 - k = t0 → k ≤ 33 → ∀ ν : zM, (∀ i, i < k → ν 120 (33 * y + i) = ξ 114 i) → (∀ i, i < 33 * y → ν 120 i = ξ 120 i) → (∀ c, c ≠ 120 → ν c = ξ c) → zA RX9 cX9_remember 2 (zRm (d + 1) 0) zN0 TF 0 ν 52 [some (zR 110), some (zI (k : Int))] [] (zPv Q) := by
  intro t0
  induction t0 using Nat.strongRecOn with
  | ind t0 ih =>
    intro k hk hk33 ν hv ho hfr
    have hu : ν 110 26 = y := by rw [hfr 110 (by decide)]; exact hξ
    refine zA_iload_n dX9_remember_52 rfl ?_
    refine zA_bipush dX9_remember_53 rfl ?_
    refine zA_icmp_ge (tgt := 84) dX9_remember_55 rfl (fun h55 => ?_) (fun h55 => ?_)
    · refine zA_aload_n dX9_remember_84 rfl ?_
      refine zA_dup dX9_remember_85 rfl ?_
      refine zA_getE (w := (y : Int)) fX9_184 t_110 dX9_remember_86 hu ?_
      refine zA_iconst dX9_remember_89 rfl ?_
      refine zA_iaddB dX9_remember_90 ⟨by omega, by omega⟩ ?_
      refine zA_putI wX9_184 t_110 dX9_remember_91 ?_
      exact zA_rv dX9_remember_94 (hQ ν (fun i hi => hv i (by omega)) ho hfr)
    · refine zA_aload_n dX9_remember_58 rfl ?_
      refine zA_getR fX9_41 t_110 rfl dX9_remember_59 ?_
      refine zA_bipush dX9_remember_62 rfl ?_
      refine zA_aload_n dX9_remember_64 rfl ?_
      refine zA_getE (w := (y : Int)) fX9_184 t_110 dX9_remember_65 hu ?_
      refine zA_imulB dX9_remember_68 ⟨by omega, by omega⟩ ?_
      refine zA_iload_n dX9_remember_69 rfl ?_
      refine zA_iaddB dX9_remember_70 ⟨by omega, by omega⟩ ?_
      refine zA_aload_n dX9_remember_71 rfl ?_
      refine zA_getR fX9_19 t_110 rfl dX9_remember_72 ?_
      refine zA_iload_n dX9_remember_75 rfl ?_
      refine zA_ialE (w := ξ 114 k) (j := k) t_114 (by omega) (by omega) dX9_remember_76 rfl (by rw [hfr 114 (by decide)]) ?_
      refine zA_iasE (j := 33 * y + k) t_120 (by omega) (by omega) dX9_remember_77 rfl ?_
      refine zA_iincB (ls' := [some (zR 110), some (zI ((k : Int) + 1))]) dX9_remember_78 rfl rfl ⟨by omega, by omega⟩ rfl ?_
      refine zA_goto (tgt := 52) dX9_remember_81 rfl ?_
      refine ih _ (by omega) (k + 1) rfl (by omega) _ ?_ ?_ ?_
      · intro i hi
        by_cases e : i = k
        · subst e
          rw [zup_s]
        · rw [zup_n (fun q => e (by omega)), hv i (by omega)]
      · intro i hi
        rw [zup_n (fun q => by omega), ho i hi]
      · intro c hc
        rw [← hfr c hc]
        funext i
        rw [zup_k hc]
theorem l_X9_remember1 (d z : Nat) (μ : zM) (hz : z = 20) (hz1 : μ 110 26 = z) : ∀ (t0 k : Nat), 627 - k = t0 → k ≤ 627 → ∀ ν : zM, (∀ i, i < k → ν 120 i = μ 120 (i + 33)) → (∀ i, k ≤ i → ν 120 i = μ 120 i) → (∀ c, c ≠ 120 → ν c = μ c) → zA RX9 cX9_remember 2 (zRm (d + 1) 0) zN0 TF 0 ν 12 [some (zR 110), some (zI (((33 + k : Nat) : Int)))] [] (zPv (fun ν => ν 110 26 = ((if z < 20 then z + 1 else 20 : Nat) : Int) ∧ (∀ i, i ≠ 26 → ν 110 i = μ 110 i) ∧ (∀ k, k ≠ 110 → k ≠ 120 → ν k = μ k) ∧ (z < 20 → (∀ i, i < 33 * z → ν 120 i = μ 120 i) ∧ ∀ i, i < 33 → ν 120 (33 * z + i) = μ 114 i) ∧ (z = 20 → (∀ i, i < 627 → ν 120 i = μ 120 (i + 33)) ∧ ∀ i, i < 33 → ν 120 (627 + i) = μ 114 i))) := by
  intro t0
  induction t0 using Nat.strongRecOn with
  | ind t0 ih =>
    intro k hk hk2 ν hv ho hfr
    have hu : ν 110 26 = z := by rw [hfr 110 (by decide)]; exact hz1
    refine zA_iload_n dX9_remember_12 rfl ?_
    refine zA_sipush dX9_remember_13 rfl ?_
    refine zA_icmp_ge (tgt := 40) dX9_remember_16 rfl (fun h16 => ?_) (fun h16 => ?_)
    · refine zA_aload_n dX9_remember_40 rfl ?_
      refine zA_dup dX9_remember_41 rfl ?_
      refine zA_getE (w := (z : Int)) fX9_184 t_110 dX9_remember_42 hu ?_
      refine zA_iconst dX9_remember_45 rfl ?_
      refine zA_isubB dX9_remember_46 ⟨by omega, by omega⟩ ?_
      refine zA_putI wX9_184 t_110 dX9_remember_47 ?_
      refine zA_iconst dX9_remember_50 rfl ?_
      refine zA_istore_n (ls' := [some (zR 110), some (zI 0)]) dX9_remember_51 rfl rfl ?_
      refine l_X9_remember2 d 19 _ _ (by decide) (by show zup ν 110 26 ((z : Int) - 1) 110 26 = _; rw [zup_s]; omega) (fun ξ h1 h2 h3 => ?_) _ 0 rfl (by omega) _ (fun i hi => by omega) (fun i _ => rfl) (fun _ _ => rfl)
      refine ⟨by rw [zup_s, if_neg (by omega)]; rfl, fun i hi => ?_, fun c c1 c2 => ?_, fun q => by omega, fun _ => ⟨fun i hi => ?_, fun i hi => ?_⟩⟩
      · rw [zup_n (fun q => hi q.2), h3 110 (by decide), zup_n (fun q => hi q.2), hfr 110 (by decide)]
      · funext i
        rw [zup_k c1, h3 c c2, zup_k c1, hfr c c2]
      · rw [zup_k (by decide), h2 i (by omega), zup_k (by decide)]
        exact hv i (by omega)
      · rw [zup_k (by decide), h1 i hi, zup_k (by decide), hfr 114 (by decide)]
    · refine zA_aload_n dX9_remember_19 rfl ?_
      refine zA_getR fX9_41 t_110 rfl dX9_remember_20 ?_
      refine zA_iload_n dX9_remember_23 rfl ?_
      refine zA_bipush dX9_remember_24 rfl ?_
      refine zA_isubE (w := (k : Int)) dX9_remember_26 ⟨by omega, by omega⟩ (by omega) ?_
      refine zA_aload_n dX9_remember_27 rfl ?_
      refine zA_getR fX9_41 t_110 rfl dX9_remember_28 ?_
      refine zA_iload_n dX9_remember_31 rfl ?_
      refine zA_ialE (w := ν 120 (33 + k)) (j := (((33 + k : Nat) : Int)).toNat) t_120 (by omega) (by omega) dX9_remember_32 rfl rfl ?_
      refine zA_iasE (j := k) t_120 (by omega) (by omega) dX9_remember_33 rfl ?_
      refine zA_iincB (ls' := [some (zR 110), some (zI (((33 + k : Nat) : Int) + 1))]) dX9_remember_34 rfl rfl ⟨by omega, by omega⟩ rfl ?_
      refine zA_goto (tgt := 12) dX9_remember_37 rfl ?_
      refine ih _ (by omega) (k + 1) rfl (by omega) _ ?_ ?_ ?_
      · intro i hi
        by_cases e : i = k
        · subst e
          rw [zup_s, ho _ (by omega), Nat.add_comm]
        · rw [zup_n (fun q => e q.2), hv i (by omega)]
      · intro i hi
        rw [zup_n (fun q => by omega), ho i (by omega)]
      · intro c hc
        rw [← hfr c hc]
        funext i
        rw [zup_k hc]
theorem c_X9_remember (d z : Nat) (μ : zM) (hz : z ≤ 20) (hz1 : μ 110 26 = z) : zMet (d + 1) 0 yX9_remember cX9_remember 2 none TF μ [zR 110] (zPv (fun ν => ν 110 26 = ((if z < 20 then z + 1 else 20 : Nat) : Int) ∧ (∀ i, i ≠ 26 → ν 110 i = μ 110 i) ∧ (∀ k, k ≠ 110 → k ≠ 120 → ν k = μ k) ∧ (z < 20 → (∀ i, i < 33 * z → ν 120 i = μ 120 i) ∧ ∀ i, i < 33 → ν 120 (33 * z + i) = μ 114 i) ∧ (z = 20 → (∀ i, i < 627 → ν 120 i = μ 120 (i + 33)) ∧ ∀ i, i < 33 → ν 120 (627 + i) = μ 114 i))) := by
  refine zMv_of RX9 rfl (by decide) rfl (ls := [some (zR 110), none]) rfl (fun hok => ?_)
  refine zA_aload_n dX9_remember_0 rfl ?_
  refine zA_getE (w := (z : Int)) fX9_184 t_110 dX9_remember_1 hz1 ?_
  refine zA_bipush dX9_remember_4 rfl ?_
  refine zA_icmp_ne (tgt := 50) dX9_remember_6 rfl (fun h6 => ?_) (fun h6 => ?_)
  · refine zA_iconst dX9_remember_50 rfl ?_
    refine zA_istore_n (ls' := [some (zR 110), some (zI 0)]) dX9_remember_51 rfl rfl ?_
    refine l_X9_remember2 d z μ _ (by omega) hz1 (fun ξ h1 h2 h3 => ?_) _ 0 rfl (by omega) μ (fun i hi => by omega) (fun i _ => rfl) (fun _ _ => rfl)
    refine ⟨by rw [zup_s, if_pos (by omega)]; rfl, fun i hi => ?_, fun c c1 c2 => ?_, fun _ => ⟨fun i hi => ?_, fun i hi => ?_⟩, fun q => by omega⟩
    · rw [zup_n (fun q => hi q.2), h3 110 (by decide)]
    · funext i
      rw [zup_k c1, h3 c c2]
    · rw [zup_k (by decide), h2 i hi]
    · rw [zup_k (by decide), h1 i hi]
  · refine zA_bipush dX9_remember_9 rfl ?_
    refine zA_istore_n (ls' := [some (zR 110), some (zI 33)]) dX9_remember_11 rfl rfl ?_
    exact l_X9_remember1 d z μ (by omega) hz1 _ 0 rfl (by omega) μ (fun i hi => by omega) (fun _ _ => rfl) (fun _ _ => rfl)
theorem iHis_rem {μ ξ : zM} {n m z x : Nat} (hz : z ≤ 20) (hx : x < 20) (hmap : ∀ j, j < z → iSt μ n m (56 + 2 * ((x + 20 - z + j) % 20)) 120 (33 * j)) (hnow : iSt μ n m 52 114 0)
    (c1 : ∀ i, i < 30 → ξ (56 + 2 * x + 1) i = μ 53 i) (c2 : ξ (56 + 2 * x) 1 = μ 52 1) (c3 : ξ (56 + 2 * x) 2 = μ 52 2) (c4 : ξ (56 + 2 * x) 3 = μ 52 3) (c5 : ∀ k, 56 ≤ k → k ≤ 95 → k ≠ 56 + 2 * x → k ≠ 56 + 2 * x + 1 → ξ k = μ k) (c6 : ξ 54 1 = (((x + 1) % 20 : Nat) : Int)) (c7 : ξ 54 2 = ((if z < 20 then z + 1 else 20 : Nat) : Int))
    (m1 : ξ 110 26 = ((if z < 20 then z + 1 else 20 : Nat) : Int)) (m2 : z < 20 → (∀ i, i < 33 * z → ξ 120 i = μ 120 i) ∧ ∀ i, i < 33 → ξ 120 (33 * z + i) = μ 114 i) (m3 : z = 20 → (∀ i, i < 627 → ξ 120 i = μ 120 (i + 33)) ∧ ∀ i, i < 33 → ξ 120 (627 + i) = μ 114 i) (hn : n ≤ 5) (hm : m ≤ 6) : iHis ξ n m := by
  have hlast : ∀ off, (∀ i, i < 33 → ξ 120 (off + i) = μ 114 i) → iSt ξ n m (56 + 2 * x) 120 off := by
    intro off ho
    obtain ⟨a1, a2, a3, a4, a5⟩ := hnow
    simp only [Nat.zero_add] at a1 a3 a4 a5
    refine ⟨fun i hi => by rw [c1 i (by omega), ho i (by omega)]; exact a1 i hi, rOk_congr hn hm (fun i hi => (c1 i hi).symm) a2, by rw [c2, ho 30 (by decide)]; exact a3, by rw [c3, ho 31 (by decide)]; exact a4, by rw [c4, ho 32 (by decide)]; exact a5⟩
  have hold : ∀ (p off off' : Nat), p < 20 → p ≠ x → (∀ i, i < 33 → ξ 120 (off + i) = μ 120 (off' + i)) → iSt μ n m (56 + 2 * p) 120 off' → iSt ξ n m (56 + 2 * p) 120 off := by
    intro p off off' hp hpx ho h
    obtain ⟨a1, a2, a3, a4, a5⟩ := h
    have e1 := c5 (56 + 2 * p) (by omega) (by omega) (by omega) (by omega)
    have e2 := c5 (56 + 2 * p + 1) (by omega) (by omega) (by omega) (by omega)
    refine ⟨fun i hi => by rw [e2, ho i (by omega)]; exact a1 i hi, by rw [e2]; exact a2, by rw [e1, ho 30 (by decide)]; exact a3, by rw [e1, ho 31 (by decide)]; exact a4, by rw [e1, ho 32 (by decide)]; exact a5⟩
  by_cases h20 : z < 20
  · rw [if_pos h20] at c7 m1
    obtain ⟨r1, r2⟩ := m2 h20
    refine ⟨z + 1, (x + 1) % 20, by omega, Nat.mod_lt _ (by decide), c7, m1, c6, fun j hj => ?_⟩
    by_cases e : j = z
    · subst e
      rw [show ((x + 1) % 20 + 20 - (j + 1) + j) % 20 = x by omega]
      exact hlast _ r2
    · rw [show ((x + 1) % 20 + 20 - (z + 1) + j) % 20 = (x + 20 - z + j) % 20 by omega]
      exact hold _ _ (33 * j) (Nat.mod_lt _ (by decide)) (by omega) (fun i hi => r1 _ (by omega)) (hmap j (by omega))
  · rw [if_neg h20] at c7 m1
    obtain ⟨r1, r2⟩ := m3 (by omega)
    refine ⟨20, (x + 1) % 20, by omega, Nat.mod_lt _ (by decide), c7, m1, c6, fun j hj => ?_⟩
    by_cases e : j = 19
    · subst e
      rw [show ((x + 1) % 20 + 20 - 20 + 19) % 20 = x by omega]
      exact hlast _ r2
    · rw [show ((x + 1) % 20 + 20 - 20 + j) % 20 = (x + 20 - z + (j + 1)) % 20 by omega]
      exact hold _ _ (33 * (j + 1)) (Nat.mod_lt _ (by decide)) (by omega) (fun i hi => by rw [r1 _ (by omega), show 33 * j + i + 33 = 33 * (j + 1) + i by omega]) (hmap (j + 1) (by omega))
theorem c_X8_undo (d : Nat) (x z : Nat) (μ : zM) (hx : x < 20) (hz : z ≤ 20) (hx1 : μ 54 1 = x) (hz1 : μ 54 2 = z) : zMet (d + 4) 0 yX8_undo cX8_undo 1 (some .int) TF μ [zR 0] (zPi (fun v ν => (z = 0 → v = -1000000003 ∧ μ = ν) ∧ (0 < z → v = (z : Int) - 1 ∧ (∀ i, i < 30 → ν 53 i = μ (56 + 2 * ((x + 19) % 20) + 1) i) ∧ ν 52 1 = μ (56 + 2 * ((x + 19) % 20)) 1 ∧ ν 52 2 = μ (56 + 2 * ((x + 19) % 20)) 2 ∧ ν 52 3 = μ (56 + 2 * ((x + 19) % 20)) 3 ∧ (∀ k, k ≠ 54 → k ≠ 52 → k ≠ 53 → ν k = μ k) ∧ ν 54 1 = (((x + 19) % 20 : Nat) : Int) ∧ ν 54 2 = (z : Int) - 1))) := by
  refine zMi_of RX8 rfl (by decide) rfl (ls := [some (zR 0)]) rfl (fun hok => ?_)
  refine zA_aload_n dX8_undo_0 rfl ?_
  refine zA_getR fX8_54 t_0 rfl dX8_undo_1 ?_
  refine zA_getE (w := (z : Int)) fX8_139 t_54 dX8_undo_4 hz1 ?_
  refine zA_if_ne (tgt := 13) dX8_undo_7 rfl (fun h7 => ?_) (fun h7 => ?_)
  · refine zA_aload_n dX8_undo_13 rfl ?_
    refine zA_getR fX8_54 t_0 rfl dX8_undo_14 ?_
    refine zA_aload_n dX8_undo_17 rfl ?_
    refine zA_getR fX8_47 t_0 rfl dX8_undo_18 ?_
    refine zA_cVv (st := []) kX8_203 t_54 rfl rfl (c_X1_takeBack d x z μ hx hz (by omega) hx1 hz1) rfl rfl rfl dX8_undo_21 (zfit0 (by omega) rfl) (fun μ1 q1 => ?_)
    refine zA_aload_n dX8_undo_24 rfl ?_
    refine zA_getR fX8_54 t_0 rfl dX8_undo_25 ?_
    refine zA_getE (w := (z : Int) - 1) fX8_139 t_54 dX8_undo_28 q1.2.2.2.2.2.2 ?_
    exact zA_ri dX8_undo_31 ⟨fun q => False.elim (by omega), fun _ => ⟨rfl, q1⟩⟩
  · refine zA_ldc cX8_192 dX8_undo_10 rfl ?_
    exact zA_ri dX8_undo_12 ⟨fun _ => ⟨rfl, rfl⟩, fun q => False.elim (by omega)⟩
theorem l_X9_undo (d z : Nat) (μ : zM) (hz : z ≤ 20) (hz0 : 0 < z) : ∀ (t0 k : Nat), 33 - k = t0 → k ≤ 33 → ∀ ν : zM, (∀ i, i < k → ν 114 i = μ 120 (33 * (z - 1) + i)) → (∀ i, i ≠ 26 → ν 110 i = μ 110 i) → ν 110 26 = (z : Int) - 1 → (∀ k, k ≠ 110 → k ≠ 114 → ν k = μ k) → zA RX9 cX9_undo 2 (zRm (d + 1) 0) zN0 TF 0 ν 22 [some (zR 110), some (zI (k : Int))] [] (zPi (fun v ν => (z = 0 → v = -1000000003 ∧ μ = ν) ∧ (0 < z → v = (z : Int) - 1 ∧ (∀ i, i < 33 → ν 114 i = μ 120 (33 * (z - 1) + i)) ∧ (∀ i, i ≠ 26 → ν 110 i = μ 110 i) ∧ ν 110 26 = (z : Int) - 1 ∧ ∀ k, k ≠ 110 → k ≠ 114 → ν k = μ k))) := by
  intro t0
  induction t0 using Nat.strongRecOn with
  | ind t0 ih =>
    intro k hk hk33 ν hv h110 hu hfr
    refine zA_iload_n dX9_undo_22 rfl ?_
    refine zA_bipush dX9_undo_23 rfl ?_
    refine zA_icmp_ge (tgt := 54) dX9_undo_25 rfl (fun h25 => ?_) (fun h25 => ?_)
    · refine zA_aload_n dX9_undo_54 rfl ?_
      refine zA_getE (w := (z : Int) - 1) fX9_184 t_110 dX9_undo_55 hu ?_
      exact zA_ri dX9_undo_58 ⟨fun q => False.elim (by omega), fun _ => ⟨rfl, fun i hi => hv i (by omega), h110, hu, hfr⟩⟩
    · refine zA_aload_n dX9_undo_28 rfl ?_
      refine zA_getR fX9_19 t_110 rfl dX9_undo_29 ?_
      refine zA_iload_n dX9_undo_32 rfl ?_
      refine zA_aload_n dX9_undo_33 rfl ?_
      refine zA_getR fX9_41 t_110 rfl dX9_undo_34 ?_
      refine zA_bipush dX9_undo_37 rfl ?_
      refine zA_aload_n dX9_undo_39 rfl ?_
      refine zA_getE (w := (z : Int) - 1) fX9_184 t_110 dX9_undo_40 hu ?_
      refine zA_imulB dX9_undo_43 ⟨by omega, by omega⟩ ?_
      refine zA_iload_n dX9_undo_44 rfl ?_
      refine zA_iaddB dX9_undo_45 ⟨by omega, by omega⟩ ?_
      refine zA_ialE (w := μ 120 (33 * (z - 1) + k)) (j := ((33 * ((z : Int) - 1)) + (k : Int)).toNat) t_120 (by omega) (by omega) dX9_undo_46 rfl (by rw [hfr 120 (by decide) (by decide), show (33 * ((z : Int) - 1) + (k : Int)).toNat = 33 * (z - 1) + k by omega]) ?_
      refine zA_iasE (j := k) t_114 (by omega) (by omega) dX9_undo_47 rfl ?_
      refine zA_iincB (ls' := [some (zR 110), some (zI ((k : Int) + 1))]) dX9_undo_48 rfl rfl ⟨by omega, by omega⟩ rfl ?_
      refine zA_goto (tgt := 22) dX9_undo_51 rfl ?_
      refine ih _ (by omega) (k + 1) rfl (by omega) _ ?_ ?_ ?_ ?_
      · intro i hi
        by_cases e : i = k
        · subst e
          rw [zup_s]
        · rw [zup_n (fun q => e q.2), hv i (by omega)]
      · intro i hi
        rw [zup_k (by decide)]
        exact h110 i hi
      · rw [zup_k (by decide)]
        exact hu
      · intro c c1 c2
        rw [← hfr c c1 c2]
        funext i
        rw [zup_k c2]
theorem c_X9_undo (d : Nat) (z : Nat) (μ : zM) (hz : z ≤ 20) (hz1 : μ 110 26 = z) : zMet (d + 1) 0 yX9_undo cX9_undo 2 (some .int) TF μ [zR 110] (zPi (fun v ν => (z = 0 → v = -1000000003 ∧ μ = ν) ∧ (0 < z → v = (z : Int) - 1 ∧ (∀ i, i < 33 → ν 114 i = μ 120 (33 * (z - 1) + i)) ∧ (∀ i, i ≠ 26 → ν 110 i = μ 110 i) ∧ ν 110 26 = (z : Int) - 1 ∧ ∀ k, k ≠ 110 → k ≠ 114 → ν k = μ k))) := by
  refine zMi_of RX9 rfl (by decide) rfl (ls := [some (zR 110), none]) rfl (fun hok => ?_)
  refine zA_aload_n dX9_undo_0 rfl ?_
  refine zA_getE (w := (z : Int)) fX9_184 t_110 dX9_undo_1 hz1 ?_
  refine zA_if_ne (tgt := 10) dX9_undo_4 rfl (fun h4 => ?_) (fun h4 => ?_)
  · refine zA_aload_n dX9_undo_10 rfl ?_
    refine zA_dup dX9_undo_11 rfl ?_
    refine zA_getE (w := (z : Int)) fX9_184 t_110 dX9_undo_12 hz1 ?_
    refine zA_iconst dX9_undo_15 rfl ?_
    refine zA_isubB dX9_undo_16 ⟨by omega, by omega⟩ ?_
    refine zA_putI wX9_184 t_110 dX9_undo_17 ?_
    refine zA_iconst dX9_undo_20 rfl ?_
    refine zA_istore_n (ls' := [some (zR 110), some (zI 0)]) dX9_undo_21 rfl rfl ?_
    refine l_X9_undo d z μ hz (by omega) _ 0 rfl (by omega) _ (fun i hi => by omega) (fun i hi => ?_) ?_ (fun c c1 c2 => ?_)
    · rw [zup_n (fun q => hi q.2)]
    · rw [zup_s]
    · funext i
      rw [zup_k c1]
  · refine zA_ldc cX9_205 dX9_undo_7 rfl ?_
    exact zA_ri dX9_undo_9 ⟨fun _ => ⟨rfl, rfl⟩, fun q => False.elim (by omega)⟩
theorem pr_undo (μ : zM)  (n m t : Nat) (u : Int) (hI : zInv μ n m t u) : zPair yX8_undo cX8_undo 1 yX9_undo cX9_undo 2 [] μ := by
  have hI0 := hI
  obtain ⟨hh, hst, ht, hm, h1, h2, h3, ⟨z, x, a1, a2, a3, a4, a5, a6⟩⟩ := hI
  have hn5 := hh.1.2.2.2.2.1
  have hm6 := hh.1.2.2.2.2.2.1
  refine zMi_mono (c_X8_undo 16 x z μ a2 a1 a5 a3) (fun v ν hv => ?_)
  by_cases hz : z = 0
  · obtain ⟨rfl, rfl⟩ := hv.1 hz
    refine zMi_mono (c_X9_undo 19 z μ a1 a4) (fun w ξ hw => ?_)
    obtain ⟨rfl, rfl⟩ := hw.1 hz
    exact ⟨rfl, n, m, t, u, hI0⟩
  · obtain ⟨rfl, r1, r2, r3, r4, r5, r6, r7⟩ := hv.2 (by omega)
    refine zMi_mono (c_X9_undo 19 z ν a1 (by rw [r5 110 (by decide) (by decide) (by decide)]; exact a4)) (fun w ξ hw => ?_)
    obtain ⟨rfl, s1, s2, s3, s4⟩ := hw.2 (by omega)
    have k : ∀ k, k ≠ 54 → k ≠ 52 → k ≠ 53 → k ≠ 110 → k ≠ 114 → ξ k = μ k := fun k e1 e2 e3 e4 e5 => by rw [s4 k e4 e5, r5 k e1 e2 e3]
    have kf : ∀ i, i ≠ 26 → ξ 110 i = μ 110 i := fun i hi => by rw [s2 i hi, r5 110 (by decide) (by decide) (by decide)]
    have hp : (x + 20 - z + (z - 1)) % 20 = (x + 19) % 20 := by omega
    have hl := a6 (z - 1) (by omega)
    rw [hp] at hl
    obtain ⟨b1, b2, b3, b4, b5⟩ := hl
    have e53 : ξ 53 = ν 53 := s4 53 (by decide) (by decide)
    have e52 : ξ 52 = ν 52 := s4 52 (by decide) (by decide)
    have e54 : ξ 54 = ν 54 := s4 54 (by decide) (by decide)
    have e120 : ν 120 = μ 120 := r5 120 (by decide) (by decide) (by decide)
    refine ⟨rfl, n, m, t, u, hh.keep (k _ (by decide) (by decide) (by decide) (by decide) (by decide)) (k _ (by decide) (by decide) (by decide) (by decide) (by decide)) (k _ (by decide) (by decide) (by decide) (by decide) (by decide)) (k _ (by decide) (by decide) (by decide) (by decide) (by decide)) (k _ (by decide) (by decide) (by decide) (by decide) (by decide)) (k _ (by decide) (by decide) (by decide) (by decide) (by decide)) (k _ (by decide) (by decide) (by decide) (by decide) (by decide)) (kf _ (by decide)) (kf _ (by decide)) (kf _ (by decide)) (kf _ (by decide)) (kf _ (by decide)), ⟨fun i hi => ?_, ?_, ?_, ?_, ?_⟩, ht.keep (by rw [k 8 (by decide) (by decide) (by decide) (by decide) (by decide)]) (k _ (by decide) (by decide) (by decide) (by decide) (by decide)) (k _ (by decide) (by decide) (by decide) (by decide) (by decide)) (kf _ (by decide)), hm.keep (by rw [k 0 (by decide) (by decide) (by decide) (by decide) (by decide)]) (by rw [k 0 (by decide) (by decide) (by decide) (by decide) (by decide)]) (kf _ (by decide)) (kf _ (by decide)), h1.keep (k _ (by decide) (by decide) (by decide) (by decide) (by decide)) (k _ (by decide) (by decide) (by decide) (by decide) (by decide)) (k _ (by decide) (by decide) (by decide) (by decide) (by decide)) (k _ (by decide) (by decide) (by decide) (by decide) (by decide)) (k _ (by decide) (by decide) (by decide) (by decide) (by decide)) (kf _ (by decide)), h2.keep (k _ (by decide) (by decide) (by decide) (by decide) (by decide)) (k _ (by decide) (by decide) (by decide) (by decide) (by decide)) (k _ (by decide) (by decide) (by decide) (by decide) (by decide)) (k _ (by decide) (by decide) (by decide) (by decide) (by decide)) (k _ (by decide) (by decide) (by decide) (by decide) (by decide)) (kf _ (by decide)), h3.keep (by rw [k 0 (by decide) (by decide) (by decide) (by decide) (by decide)]) (k _ (by decide) (by decide) (by decide) (by decide) (by decide)) (k _ (by decide) (by decide) (by decide) (by decide) (by decide)) (k _ (by decide) (by decide) (by decide) (by decide) (by decide)) (fun j _ _ => k j (by omega) (by omega) (by omega) (by omega) (by omega)), ⟨z - 1, (x + 19) % 20, by omega, Nat.mod_lt _ (by decide), by rw [e54, r7]; omega, by rw [s3]; omega, by rw [e54, r6], fun j hj => ?_⟩⟩
    · rw [Nat.zero_add, e53, r1 i (by omega), s1 i (by omega), e120]
      exact b1 i hi
    · show rOk n m (ξ 53)
      rw [e53]
      exact rOk_congr hn5 hm6 (fun i hi => (r1 i hi).symm) b2
    · rw [e52, r2, s1 (0 + 30) (by decide), e120]
      exact b3
    · rw [e52, r3, s1 (0 + 31) (by decide), e120]
      exact b4
    · rw [e52, r4, s1 (0 + 32) (by decide), e120]
      exact b5
    · rw [show ((x + 19) % 20 + 20 - (z - 1) + j) % 20 = (x + 20 - z + j) % 20 by omega]
      have h20 : (x + 20 - z + j) % 20 < 20 := Nat.mod_lt _ (by decide)
      exact (a6 j (by omega)).keep (k _ (by omega) (by omega) (by omega) (by omega) (by omega)) (k _ (by omega) (by omega) (by omega) (by omega) (by omega)) (k _ (by decide) (by decide) (by decide) (by decide) (by decide))
