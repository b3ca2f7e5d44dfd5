/-! ===== alike, trail ===== -/
def gAl (row : Nat → Int) (n a b : Nat) : Bool := decide (∀ j, j < n → row (a * 5 + j) = row (b * 5 + j))
theorem gAl_congr {r r' : Nat → Int} {n a b : Nat} (hn : n ≤ 5) (ha : a < 6) (hb : b < 6) (h : ∀ i, i < 30 → r i = r' i) : gAl r n a b = gAl r' n a b := by
  unfold gAl
  refine decide_eq_decide.mpr ⟨fun q j hj => ?_, fun q j hj => ?_⟩
  · rw [← h _ (by omega), ← h _ (by omega)]; exact q j hj
  · rw [h _ (by omega), h _ (by omega)]; exact q j hj
theorem gAl_congrL {r r' : Nat → Int} {n m a b : Nat} (hn : n ≤ 5) (ha : a < m) (hb : b < m) (h : ∀ i, lv n m i → r i = r' i) : gAl r n a b = gAl r' n a b := by
  unfold gAl
  refine decide_eq_decide.mpr ⟨fun q j hj => ?_, fun q j hj => ?_⟩
  · rw [← h _ (by omega), ← h _ (by omega)]; exact q j hj
  · rw [h _ (by omega), h _ (by omega)]; exact q j hj
theorem gOb_lt {p : Nat → Bool} {s : Nat} : gOb (fB p s) < s := by
  cases h : fB p s with
  | none => simp only [gOb]; omega
  | some j => have := (fB_lt h).1; simp only [gOb]; omega
theorem gOb_ge {o : Option Nat} : -1 ≤ gOb o := by cases o <;> simp only [gOb] <;> omega
theorem l_X8_lookAlike (d : Nat) (ν : zM) (n a b : Nat) (hn : ν 1 6 = n) (hn5 : n ≤ 5) (ha : a < 6) (hb : b < 6) : ∀ (t0 c : Nat), n - c = t0 → c ≤ n → (∀ j, j < c → ν 104 (a * 5 + j) = ν 104 (b * 5 + j)) → zA RX8 cX8_lookAlike 4 (zRm (d + 2) 0) zN0 TF 0 ν 2 [some (zR 0), some (zI (a : Int)), some (zI (b : Int)), some (zI (c : Int))] [] (zPb (fun v ξ => (v = true ↔ gAl (ν 104) n a b = true) ∧ ν = ξ)) := by
  intro t0
  induction t0 using Nat.strongRecOn with
  | ind t0 ih =>
    intro c hk hcn hv
    refine zA_iload_n dX8_lookAlike_2 rfl ?_
    refine zA_aload_n dX8_lookAlike_3 rfl ?_
    refine zA_getR fX8_12 t_0 rfl dX8_lookAlike_4 ?_
    refine zA_getE (w := (n : Int)) fX8_114 t_1 dX8_lookAlike_7 hn ?_
    refine zA_icmp_ge (tgt := 44) dX8_lookAlike_10 rfl (fun h10 => ?_) (fun h10 => ?_)
    · refine zA_iconst dX8_lookAlike_44 rfl ?_
      exact zA_rb (b := true) dX8_lookAlike_45 rfl ⟨⟨fun _ => by unfold gAl; exact decide_eq_true (fun j hj => hv j (by omega)), fun _ => rfl⟩, rfl⟩
    · refine zA_aload_n dX8_lookAlike_13 rfl ?_
      refine zA_getR fX8_78 t_0 rfl dX8_lookAlike_14 ?_
      refine zA_iload_n dX8_lookAlike_17 rfl ?_
      refine zA_iload_n dX8_lookAlike_18 rfl ?_
      refine zA_cSi (st := [zR 104]) kX8_147 (c_X8_cell d ((a : Int)) ((c : Int)) ν (by omega) (by omega)) rfl rfl rfl dX8_lookAlike_19 (zfit0 (by omega) rfl) (fun v1 μ1 q1 => ?_)
      obtain ⟨rfl, rfl⟩ := q1
      refine zA_ialE (w := ν 104 (a * 5 + c)) (j := a * 5 + c) t_104 (by omega) (by omega) dX8_lookAlike_22 rfl rfl ?_
      refine zA_aload_n dX8_lookAlike_23 rfl ?_
      refine zA_getR fX8_78 t_0 rfl dX8_lookAlike_24 ?_
      refine zA_iload_n dX8_lookAlike_27 rfl ?_
      refine zA_iload_n dX8_lookAlike_28 rfl ?_
      refine zA_cSi (st := [zR 104, zI (ν 104 (a * 5 + c))]) kX8_147 (c_X8_cell d ((b : Int)) ((c : Int)) ν (by omega) (by omega)) rfl rfl rfl dX8_lookAlike_29 (zfit0 (by omega) rfl) (fun v2 μ2 q2 => ?_)
      obtain ⟨rfl, rfl⟩ := q2
      refine zA_ialE (w := ν 104 (b * 5 + c)) (j := b * 5 + c) t_104 (by omega) (by omega) dX8_lookAlike_32 rfl rfl ?_
      refine zA_icmp_eq (tgt := 38) dX8_lookAlike_33 rfl (fun h33 => ?_) (fun h33 => ?_)
      · refine zA_iincB (ls' := [some (zR 0), some (zI (a : Int)), some (zI (b : Int)), some (zI ((c : Int) + 1))]) dX8_lookAlike_38 rfl rfl ⟨by omega, by omega⟩ rfl ?_
        refine zA_goto (tgt := 2) dX8_lookAlike_41 rfl ?_
        refine ih _ (by omega) (c + 1) rfl (by omega) (fun j hj => ?_)
        by_cases e : j = c
        · subst e; exact h33
        · exact hv j (by omega)
      · refine zA_iconst dX8_lookAlike_36 rfl ?_
        exact zA_rb (b := false) dX8_lookAlike_37 rfl ⟨⟨fun q => (by cases q), fun q => by unfold gAl at q; exact absurd (of_decide_eq_true q c (by omega)) h33⟩, rfl⟩
theorem c_X8_lookAlike (d : Nat) (ν : zM) (n a b : Nat) (hn : ν 1 6 = n) (hn5 : n ≤ 5) (ha : a < 6) (hb : b < 6) : zMet (d + 2) 0 yX8_lookAlike cX8_lookAlike 4 (some .boolean) TF ν [zR 0, zI (a : Int), zI (b : Int)] (zPb (fun v ξ => (v = true ↔ gAl (ν 104) n a b = true) ∧ ν = ξ)) := by
  refine zMb_of RX8 rfl (by decide) rfl (ls := [some (zR 0), some (zI (a : Int)), some (zI (b : Int)), none]) rfl (fun hok => ?_)
  refine zA_iconst dX8_lookAlike_0 rfl ?_
  refine zA_istore_n (ls' := [some (zR 0), some (zI (a : Int)), some (zI (b : Int)), some (zI 0)]) dX8_lookAlike_1 rfl rfl ?_
  exact l_X8_lookAlike d ν n a b hn hn5 ha hb _ 0 rfl (by omega) (fun j hj => by omega)
theorem l_X8_alike (d : Nat) (μ : zM) (n m t : Nat) (u : Int) (R : Nat → Int) (hH : zHs μ n m t u) (hR : rOk n m R) (a b : Nat) (ha : a < m) (hb : b < m) : ∀ (t0 k : Nat), t - k = t0 → k ≤ t → ∀ ν : zM, cTr μ ν n u R k → fB (fun k => gAl (dRow u n (μ 52 1) (μ 3) (μ 4) 0 R k) n a b) k = none → zA RX8 cX8_alike 4 (zRm (d + 5) 0) zN0 TF 0 ν 31 [some (zR 0), some (zI (a : Int)), some (zI (b : Int)), some (zI (k : Int))] [] (zPi (fun v ξ => v = gOb (fB (fun k => gAl (dRow u n (μ 52 1) (μ 3) (μ 4) 0 R k) n a b) (t + 1)) ∧ qC μ ξ)) := by
  have hH0 := hH
  obtain ⟨hn, hu, hm, ht, hn5, hm6, ht10, hu1, hdk⟩ := hH0
  intro t0
  induction t0 using Nat.strongRecOn with
  | ind t0 ih =>
    intro k hk hkt ν hT hF
    refine zA_iload_n dX8_alike_31 rfl ?_
    refine zA_aload_n dX8_alike_32 rfl ?_
    refine zA_getR fX8_12 t_0 rfl dX8_alike_33 ?_
    refine zA_getE (w := (t : Int)) fX8_120 t_1 dX8_alike_36 (by rw [hT.2 1 (by decide) (by decide) (by decide) (by decide) (by decide)]; exact ht) ?_
    refine zA_icmp_ge (tgt := 78) dX8_alike_39 rfl (fun h39 => ?_) (fun h39 => ?_)
    · refine zA_aload_n dX8_alike_78 rfl ?_
      refine zA_iload_n dX8_alike_79 rfl ?_
      refine zA_iload_n dX8_alike_80 rfl ?_
      refine zA_cVb (st := []) kX8_209 t_0 rfl rfl (c_X8_lookAlike (d + 2) ν n a b (by rw [hT.2 1 (by decide) (by decide) (by decide) (by decide) (by decide)]; exact hn) hn5 (by omega) (by omega)) rfl rfl rfl dX8_alike_81 (zfit0 (by omega) rfl) (fun v1 μ1 q1 => ?_)
      obtain ⟨b1, rfl⟩ := q1
      rw [hT.1] at b1
      refine zA_ifb_eq (tgt := 97) dX8_alike_84 rfl (fun h84 => ?_) (fun h84 => ?_)
      · refine zA_iconst dX8_alike_97 rfl ?_
        refine zA_ri dX8_alike_98 ⟨?_, hT.qc⟩
        obtain rfl : t = k := by omega
        have hx : gAl (dRow u n (μ 52 1) (μ 3) (μ 4) 0 R t) n a b = false := by
          cases hx : gAl (dRow u n (μ 52 1) (μ 3) (μ 4) 0 R t) n a b with
          | false => rfl
          | true => have := b1.mpr hx; simp_all
        rw [fB_no hF hx]
        rfl
      · refine zA_aload_n dX8_alike_87 rfl ?_
        refine zA_getR fX8_12 t_0 rfl dX8_alike_88 ?_
        refine zA_getE (w := (t : Int)) fX8_120 t_1 dX8_alike_91 (by rw [hT.2 1 (by decide) (by decide) (by decide) (by decide) (by decide)]; exact ht) ?_
        refine zA_goto (tgt := 98) dX8_alike_94 rfl ?_
        exact zA_ri dX8_alike_98 ⟨by rw [fB_yes hF (b1.mp (by simpa using h84)) (t + 1) (by omega), show t = k by omega]; rfl, hT.qc⟩
    · refine zA_aload_n dX8_alike_42 rfl ?_
      refine zA_iload_n dX8_alike_43 rfl ?_
      refine zA_iload_n dX8_alike_44 rfl ?_
      refine zA_cVb (st := []) kX8_209 t_0 rfl rfl (c_X8_lookAlike (d + 2) ν n a b (by rw [hT.2 1 (by decide) (by decide) (by decide) (by decide) (by decide)]; exact hn) hn5 (by omega) (by omega)) rfl rfl rfl dX8_alike_45 (zfit0 (by omega) rfl) (fun v2 μ2 q2 => ?_)
      obtain ⟨b2, rfl⟩ := q2
      rw [hT.1] at b2
      refine zA_ifb_eq (tgt := 53) dX8_alike_48 rfl (fun h48 => ?_) (fun h48 => ?_)
      · refine zA_aload_n dX8_alike_53 rfl ?_
        refine zA_getR fX8_12 t_0 rfl dX8_alike_54 ?_
        refine zA_aload_n dX8_alike_57 rfl ?_
        refine zA_getR fX8_78 t_0 rfl dX8_alike_58 ?_
        refine zA_aload_n dX8_alike_61 rfl ?_
        refine zA_getR fX8_47 t_0 rfl dX8_alike_62 ?_
        refine zA_getE (w := μ 52 1) fX8_126 t_52 dX8_alike_65 (by rw [hT.2 52 (by decide) (by decide) (by decide) (by decide) (by decide)]) ?_
        refine zA_iload_n dX8_alike_68 rfl ?_
        refine zA_cVv (st := []) kX8_206 t_1 rfl rfl (c_X2_goPlanned d ν 104 n m t u (μ 52 1) k t_104 (hT.zHs hH) (by omega) (by rw [hT.1]; exact dRow_ok hn5 hu1 hdk hR k (by omega))) rfl rfl rfl dX8_alike_69 (zfit0 (by omega) rfl) (fun μ3 q3 => ?_)
        refine zA_iincB (ls' := [some (zR 0), some (zI (a : Int)), some (zI (b : Int)), some (zI ((k : Int) + 1))]) dX8_alike_72 rfl rfl ⟨by omega, by omega⟩ rfl ?_
        refine zA_goto (tgt := 31) dX8_alike_75 rfl ?_
        exact ih _ (by omega) (k + 1) rfl (by omega) μ3 (hT.step (m := m) (t := t) (by omega) q3) (fB_no hF (by cases hx : gAl (dRow u n (μ 52 1) (μ 3) (μ 4) 0 R k) n a b with | false => rfl | true => exfalso; have := b2.mpr hx; simp_all))
      · refine zA_iload_n dX8_alike_51 rfl ?_
        exact zA_ri dX8_alike_52 ⟨by rw [fB_yes hF (b2.mp (by simpa using h48)) (t + 1) (by omega)]; rfl, hT.qc⟩
theorem c_X8_alikeY (d : Nat) (μ : zM) (n m t a b : Nat) (u : Int) (hH : zHs μ n m t u) (hok : rOk n m (μ 53)) (ha : a < m) (hb : b < m) (hab : a ≠ b) : zMet (d + 5) 0 yX8_alike cX8_alike 4 (some .int) TF μ [zR 0, zI (a : Int), zI (b : Int)] (zPi (fun v ξ => (∃ R, (∀ i, i < 30 → R i = μ 53 i) ∧ v = gOb (fB (fun k => gAl (dRow u n (μ 52 1) (μ 3) (μ 4) 0 R k) n a b) (t + 1))) ∧ qC μ ξ)) := by
  have hH0 := hH
  obtain ⟨hn, hu, hm, ht, hn5, hm6, ht10, hu1, hdk⟩ := hH0
  refine zMi_of RX8 rfl (by decide) rfl (ls := [some (zR 0), some (zI (a : Int)), some (zI (b : Int)), none]) rfl (fun hok0 => ?_)
  refine zA_aload_n dX8_alike_0 rfl ?_
  refine zA_getR fX8_12 t_0 rfl dX8_alike_1 ?_
  refine zA_iload_n dX8_alike_4 rfl ?_
  refine zA_iload_n dX8_alike_5 rfl ?_
  refine zA_cVb (st := []) kX8_165 t_1 rfl rfl (c_X2_hasPair (d + 2) (a : Int) (b : Int) μ) rfl rfl rfl dX8_alike_6 (zfit0 (by omega) rfl) (fun v1 μ1 q1 => ?_)
  obtain ⟨b1, rfl⟩ := q1
  refine zA_ifb_ne (tgt := 15) dX8_alike_9 rfl (fun h9 => ?_) (fun h9 => False.elim (by have := b1.mpr (by rw [hm]; omega); simp_all))
  refine zA_aload_n dX8_alike_15 rfl ?_
  refine zA_getR fX8_47 t_0 rfl dX8_alike_16 ?_
  refine zA_getR fX8_144 t_52 rfl dX8_alike_19 ?_
  refine zA_aload_n dX8_alike_22 rfl ?_
  refine zA_getR fX8_78 t_0 rfl dX8_alike_23 ?_
  refine zA_cSv (st := []) kX8_172 (c_X8_copyPartsR (d + 3) 53 104 μ t_53 t_104) rfl rfl rfl dX8_alike_26 (zfit0 (by omega) rfl) (fun μ2 q2 => ?_)
  obtain ⟨q2a, q2b⟩ := q2
  refine zA_iconst dX8_alike_29 rfl ?_
  refine zA_istore_n (ls' := [some (zR 0), some (zI (a : Int)), some (zI (b : Int)), some (zI 0)]) dX8_alike_30 rfl rfl ?_
  have hT0 : cTr μ μ2 n u (μ2 104) 0 := ⟨rfl, fun k h1 _ _ _ _ => q2b k h1⟩
  exact zAi_mono (l_X8_alike d μ n m t u (μ2 104) hH (rOk_congr hn5 hm6 (fun i hi => (q2a i hi).symm) hok) a b ha hb _ 0 rfl (by omega) μ2 hT0 rfl) (fun v ξ h => ⟨⟨μ2 104, q2a, h.1⟩, h.2⟩)
theorem c_X8_alikeN (d : Nat) (μ : zM) (m : Nat) (a b : Int) (hm : μ 1 8 = m) (hnp : ¬ ((0 ≤ a ∧ a < m) ∧ (0 ≤ b ∧ b < m) ∧ a ≠ b)) : zMet (d + 5) 0 yX8_alike cX8_alike 4 (some .int) TF μ [zR 0, zI a, zI b] (zPi (fun v ν => v = -1000000001 ∧ μ = ν)) := by
  refine zMi_of RX8 rfl (by decide) rfl (ls := [some (zR 0), some (zI a), some (zI b), none]) rfl (fun hok0 => ?_)
  refine zA_aload_n dX8_alike_0 rfl ?_
  refine zA_getR fX8_12 t_0 rfl dX8_alike_1 ?_
  refine zA_iload_n dX8_alike_4 rfl ?_
  refine zA_iload_n dX8_alike_5 rfl ?_
  refine zA_cVb (st := []) kX8_165 t_1 rfl rfl (c_X2_hasPair (d + 2) a b μ) rfl rfl rfl dX8_alike_6 (zfit0 (by omega) rfl) (fun v1 μ1 q1 => ?_)
  obtain ⟨b1, rfl⟩ := q1
  refine zA_ifb_ne (tgt := 15) dX8_alike_9 rfl (fun h9 => False.elim (by have := b1.mp h9; rw [hm] at this; exact hnp this)) fun h9 => ?_
  refine zA_ldc cX8_151 dX8_alike_12 rfl ?_
  exact zA_ri dX8_alike_14 ⟨rfl, rfl⟩
theorem l_X9_areAlike (d : Nat) (ν : zM) (n a b : Nat) (hn : ν 110 0 = n) (hn5 : n ≤ 5) (ha : a < 6) (hb : b < 6) : ∀ (t0 c : Nat) (al : Bool), decide (∀ j, j < c → ν 122 (a * 5 + j) = ν 122 (b * 5 + j)) = al → n - c = t0 → c ≤ n → zA RX9 cX9_areAlike 5 (zRm (d + 1) 0) zN0 TF 0 ν 5 [some (zR 110), some (zI (a : Int)), some (zI (b : Int)), some (zI (zb al)), some (zI (c : Int))] [] (zPb (fun v ξ => (v = true ↔ gAl (ν 122) n a b = true) ∧ ν = ξ)) := by
  intro t0
  induction t0 using Nat.strongRecOn with
  | ind t0 ih =>
    intro c al hx hk hcn
    cases al with
    | true =>
      show zA RX9 cX9_areAlike 5 (zRm (d + 1) 0) zN0 TF 0 ν 5 [some (zR 110), some (zI (a : Int)), some (zI (b : Int)), some (zI 1), some (zI (c : Int))] [] (zPb (fun v ξ => (v = true ↔ gAl (ν 122) n a b = true) ∧ ν = ξ))
      refine zA_iload dX9_areAlike_5 rfl ?_
      refine zA_aload_n dX9_areAlike_7 rfl ?_
      refine zA_getE (w := (n : Int)) fX9_75 t_110 dX9_areAlike_8 hn ?_
      refine zA_icmp_ge (tgt := 55) dX9_areAlike_11 rfl (fun h11 => ?_) (fun h11 => ?_)
      · refine zA_iload_n dX9_areAlike_55 rfl ?_
        exact zA_rb (b := true) dX9_areAlike_56 rfl ⟨⟨fun _ => by unfold gAl; rw [show n = c by omega]; exact hx, fun _ => rfl⟩, rfl⟩
      · refine zA_iload_n dX9_areAlike_14 rfl ?_
        refine zA_if_eq (tgt := 47) dX9_areAlike_15 rfl (fun h15 => False.elim (by omega)) fun h15 => ?_
        refine zA_aload_n dX9_areAlike_18 rfl ?_
        refine zA_getR fX9_47 t_110 rfl dX9_areAlike_19 ?_
        refine zA_iconst dX9_areAlike_22 rfl ?_
        refine zA_iload_n dX9_areAlike_23 rfl ?_
        refine zA_imulB dX9_areAlike_24 ⟨by omega, by omega⟩ ?_
        refine zA_iload dX9_areAlike_25 rfl ?_
        refine zA_iaddB dX9_areAlike_27 ⟨by omega, by omega⟩ ?_
        refine zA_ialE (w := ν 122 (5 * a + c)) (j := 5 * a + c) t_122 (by omega) (by omega) dX9_areAlike_28 rfl rfl ?_
        refine zA_aload_n dX9_areAlike_29 rfl ?_
        refine zA_getR fX9_47 t_110 rfl dX9_areAlike_30 ?_
        refine zA_iconst dX9_areAlike_33 rfl ?_
        refine zA_iload_n dX9_areAlike_34 rfl ?_
        refine zA_imulB dX9_areAlike_35 ⟨by omega, by omega⟩ ?_
        refine zA_iload dX9_areAlike_36 rfl ?_
        refine zA_iaddB dX9_areAlike_38 ⟨by omega, by omega⟩ ?_
        refine zA_ialE (w := ν 122 (5 * b + c)) (j := 5 * b + c) t_122 (by omega) (by omega) dX9_areAlike_39 rfl rfl ?_
        refine zA_icmp_ne (tgt := 47) dX9_areAlike_40 rfl (fun h40 => ?_) (fun h40 => ?_)
        · refine zA_iconst dX9_areAlike_47 rfl ?_
          refine zA_istore_n (ls' := [some (zR 110), some (zI (a : Int)), some (zI (b : Int)), some (zI 0), some (zI (c : Int))]) dX9_areAlike_48 rfl rfl ?_
          refine zA_iincB (ls' := [some (zR 110), some (zI (a : Int)), some (zI (b : Int)), some (zI 0), some (zI ((c : Int) + 1))]) dX9_areAlike_49 rfl rfl ⟨by omega, by omega⟩ rfl ?_
          refine zA_goto (tgt := 5) dX9_areAlike_52 rfl ?_
          exact ih _ (by omega) (c + 1) false (decide_eq_false (fun q => by first | exact of_decide_eq_false hx (fun j hj => q j (by omega)) | exact h40 (by rw [Nat.mul_comm 5 a, Nat.mul_comm 5 b]; exact q c (by omega)))) rfl (by omega)
        · refine zA_iconst dX9_areAlike_43 rfl ?_
          refine zA_goto (tgt := 48) dX9_areAlike_44 rfl ?_
          refine zA_istore_n (ls' := [some (zR 110), some (zI (a : Int)), some (zI (b : Int)), some (zI 1), some (zI (c : Int))]) dX9_areAlike_48 rfl rfl ?_
          refine zA_iincB (ls' := [some (zR 110), some (zI (a : Int)), some (zI (b : Int)), some (zI 1), some (zI ((c : Int) + 1))]) dX9_areAlike_49 rfl rfl ⟨by omega, by omega⟩ rfl ?_
          refine zA_goto (tgt := 5) dX9_areAlike_52 rfl ?_
          exact ih _ (by omega) (c + 1) true (decide_eq_true (fun j hj => by rw [Nat.mul_comm 5 a, Nat.mul_comm 5 b] at h40; rcases Nat.lt_or_eq_of_le (Nat.lt_succ_iff.mp hj) with q | q; exact (of_decide_eq_true hx) j q; rw [q]; exact h40)) rfl (by omega)
    | false =>
      show zA RX9 cX9_areAlike 5 (zRm (d + 1) 0) zN0 TF 0 ν 5 [some (zR 110), some (zI (a : Int)), some (zI (b : Int)), some (zI 0), some (zI (c : Int))] [] (zPb (fun v ξ => (v = true ↔ gAl (ν 122) n a b = true) ∧ ν = ξ))
      refine zA_iload dX9_areAlike_5 rfl ?_
      refine zA_aload_n dX9_areAlike_7 rfl ?_
      refine zA_getE (w := (n : Int)) fX9_75 t_110 dX9_areAlike_8 hn ?_
      refine zA_icmp_ge (tgt := 55) dX9_areAlike_11 rfl (fun h11 => ?_) (fun h11 => ?_)
      · refine zA_iload_n dX9_areAlike_55 rfl ?_
        exact zA_rb (b := false) dX9_areAlike_56 rfl ⟨⟨fun q => (by cases q), fun q => by unfold gAl at q; rw [show n = c by omega, hx] at q; cases q⟩, rfl⟩
      · refine zA_iload_n dX9_areAlike_14 rfl ?_
        refine zA_if_eq (tgt := 47) dX9_areAlike_15 rfl (fun h15 => ?_) (fun h15 => False.elim (by omega))
        refine zA_iconst dX9_areAlike_47 rfl ?_
        refine zA_istore_n (ls' := [some (zR 110), some (zI (a : Int)), some (zI (b : Int)), some (zI 0), some (zI (c : Int))]) dX9_areAlike_48 rfl rfl ?_
        refine zA_iincB (ls' := [some (zR 110), some (zI (a : Int)), some (zI (b : Int)), some (zI 0), some (zI ((c : Int) + 1))]) dX9_areAlike_49 rfl rfl ⟨by omega, by omega⟩ rfl ?_
        refine zA_goto (tgt := 5) dX9_areAlike_52 rfl ?_
        exact ih _ (by omega) (c + 1) false (decide_eq_false (fun q => by first | exact of_decide_eq_false hx (fun j hj => q j (by omega)) | exact h40 (by rw [Nat.mul_comm 5 a, Nat.mul_comm 5 b]; exact q c (by omega)))) rfl (by omega)
theorem c_X9_areAlike (d : Nat) (ν : zM) (n a b : Nat) (hn : ν 110 0 = n) (hn5 : n ≤ 5) (ha : a < 6) (hb : b < 6) : zMet (d + 1) 0 yX9_areAlike cX9_areAlike 5 (some .boolean) TF ν [zR 110, zI (a : Int), zI (b : Int)] (zPb (fun v ξ => (v = true ↔ gAl (ν 122) n a b = true) ∧ ν = ξ)) := by
  refine zMb_of RX9 rfl (by decide) rfl (ls := [some (zR 110), some (zI (a : Int)), some (zI (b : Int)), none, none]) rfl (fun hok => ?_)
  refine zA_iconst dX9_areAlike_0 rfl ?_
  refine zA_istore_n (ls' := [some (zR 110), some (zI (a : Int)), some (zI (b : Int)), some (zI 1), none]) dX9_areAlike_1 rfl rfl ?_
  refine zA_iconst dX9_areAlike_2 rfl ?_
  refine zA_istore (ls' := [some (zR 110), some (zI (a : Int)), some (zI (b : Int)), some (zI 1), some (zI 0)]) dX9_areAlike_3 rfl rfl ?_
  exact l_X9_areAlike d ν n a b hn hn5 ha hb _ 0 true (decide_eq_true (fun j hj => by omega)) rfl (by omega)
theorem l_X9_alike (d : Nat) (μ : zM) (n m t : Nat) (u : Int) (R : Nat → Int) (hH : zMs μ n m t u) (hR : rOk n m R) (a b : Nat) (ha : a < m) (hb : b < m) : ∀ (t0 k : Nat), t - k = t0 → k ≤ t → ∀ ν : zM, mTr μ ν n u R k → fB (fun k => gAl (dRow u n (μ 114 30) (μ 112) (μ 113) 0 R k) n a b) k = none → zA RX9 cX9_alike 4 (zRm (d + 5) 0) zN0 TF 0 ν 30 [some (zR 110), some (zI (a : Int)), some (zI (b : Int)), some (zI (k : Int))] [] (zPi (fun v ξ => v = gOb (fB (fun k => gAl (dRow u n (μ 114 30) (μ 112) (μ 113) 0 R k) n a b) (t + 1)) ∧ qM μ ξ)) := by
  have hH0 := hH
  obtain ⟨hn, hu, hm, ht, hn5, hm6, ht10, hu1, hdk⟩ := hH0
  intro t0
  induction t0 using Nat.strongRecOn with
  | ind t0 ih =>
    intro k hk hkt ν hT hF
    have hend : t = k → fB (fun k => gAl (dRow u n (μ 114 30) (μ 112) (μ 113) 0 R k) n a b) (k + 1) = none → ∀ ξ : zM, (∀ k, k ≠ 122 → k ≠ 119 → ξ k = ν k) → zA RX9 cX9_alike 4 (zRm (d + 5) 0) zN0 TF 0 ξ 30 [some (zR 110), some (zI (a : Int)), some (zI (b : Int)), some (zI ((k : Int) + 1))] [] (zPi (fun v ξ => v = gOb (fB (fun k => gAl (dRow u n (μ 114 30) (μ 112) (μ 113) 0 R k) n a b) (t + 1)) ∧ qM μ ξ)) := by
      intro htk hF1 ξ hξ
      have hq : qM μ ξ := ⟨fun k _ h2 _ h4 h5 _ => by rw [hξ k h4 h2, hT.2 k h4 h2 h5], fun i _ _ => by rw [hξ 110 (by decide) (by decide), hT.2 110 (by decide) (by decide) (by decide)]⟩
      have ht3 : ξ 110 5 = t := by rw [hξ 110 (by decide) (by decide), hT.2 110 (by decide) (by decide) (by decide)]; exact ht
      refine zA_iload_n dX9_alike_30 rfl ?_
      refine zA_aload_n dX9_alike_31 rfl ?_
      refine zA_getE (w := (t : Int)) fX9_169 t_110 dX9_alike_32 ht3 ?_
      refine zA_icmp_gt (tgt := 76) dX9_alike_35 rfl (fun h35 => ?_) (fun h35 => False.elim (by omega))
      refine zA_iconst dX9_alike_76 rfl ?_
      exact zA_ri dX9_alike_77 ⟨by rw [show t = k by omega, hF1]; rfl, hq⟩
    refine zA_iload_n dX9_alike_30 rfl ?_
    refine zA_aload_n dX9_alike_31 rfl ?_
    refine zA_getE (w := (t : Int)) fX9_169 t_110 dX9_alike_32 (by rw [hT.2 110 (by decide) (by decide) (by decide)]; exact ht) ?_
    refine zA_icmp_gt (tgt := 76) dX9_alike_35 rfl (fun h35 => False.elim (by omega)) fun h35 => ?_
    refine zA_aload_n dX9_alike_38 rfl ?_
    refine zA_iload_n dX9_alike_39 rfl ?_
    refine zA_iload_n dX9_alike_40 rfl ?_
    refine zA_cVb (st := []) kX9_232 t_110 rfl rfl (c_X9_areAlike (d + 3) ν n a b (by rw [hT.2 110 (by decide) (by decide) (by decide)]; exact hn) hn5 (by omega) (by omega)) rfl rfl rfl dX9_alike_41 (zfit0 (by omega) rfl) (fun v1 μ1 q1 => ?_)
    obtain ⟨b1, rfl⟩ := q1
    rw [hT.1] at b1
    refine zA_ifb_eq (tgt := 49) dX9_alike_44 rfl (fun h44 => ?_) (fun h44 => ?_)
    · refine zA_aload_n dX9_alike_49 rfl ?_
      refine zA_iload_n dX9_alike_50 rfl ?_
      refine zA_iload_n dX9_alike_51 rfl ?_
      refine zA_aload_n dX9_alike_52 rfl ?_
      refine zA_getE (w := (t : Int)) fX9_169 t_110 dX9_alike_53 (by rw [hT.2 110 (by decide) (by decide) (by decide)]; exact ht) ?_
      refine zA_icmp_ge (tgt := 65) dX9_alike_56 rfl (fun h56 => ?_) (fun h56 => ?_)
      · refine zA_iload_n dX9_alike_65 rfl ?_
        refine zA_iconst dX9_alike_66 rfl ?_
        refine zA_cVv (st := []) kX9_228 t_110 rfl rfl (c_X9_goOn d ν n m t k 0 u 0 (hT.zMs hH) (by omega) (by rw [hT.1]; exact dRow_ok hn5 hu1 hdk hR k (by omega))) rfl rfl rfl dX9_alike_67 (zfit0 (by omega) rfl) (fun μ2 q2 => ?_)
        refine zA_iincB (ls' := [some (zR 110), some (zI (a : Int)), some (zI (b : Int)), some (zI ((k : Int) + 1))]) dX9_alike_70 rfl rfl ⟨by omega, by omega⟩ rfl ?_
        refine zA_goto (tgt := 30) dX9_alike_73 rfl ?_
        exact hend (by omega) (fB_no hF (by cases hx : gAl (dRow u n (μ 114 30) (μ 112) (μ 113) 0 R k) n a b with | false => rfl | true => exfalso; have := b1.mpr hx; simp_all)) μ2 q2.2
      · refine zA_iload_n dX9_alike_59 rfl ?_
        refine zA_iconst dX9_alike_60 rfl ?_
        refine zA_iaddB dX9_alike_61 ⟨by omega, by omega⟩ ?_
        refine zA_goto (tgt := 66) dX9_alike_62 rfl ?_
        refine zA_iconst dX9_alike_66 rfl ?_
        refine zA_cVv (st := []) kX9_228 t_110 rfl rfl (c_X9_goOn d ν n m t k 1 u 0 (hT.zMs hH) (by omega) (by rw [hT.1]; exact dRow_ok hn5 hu1 hdk hR k (by omega))) rfl rfl rfl dX9_alike_67 (zfit0 (by omega) rfl) (fun μ3 q3 => ?_)
        refine zA_iincB (ls' := [some (zR 110), some (zI (a : Int)), some (zI (b : Int)), some (zI ((k : Int) + 1))]) dX9_alike_70 rfl rfl ⟨by omega, by omega⟩ rfl ?_
        refine zA_goto (tgt := 30) dX9_alike_73 rfl ?_
        exact ih _ (by omega) (k + 1) rfl (by omega) μ3 (hT.step (m := m) (t := t) (by omega) q3) (fB_no hF (by cases hx : gAl (dRow u n (μ 114 30) (μ 112) (μ 113) 0 R k) n a b with | false => rfl | true => exfalso; have := b1.mpr hx; simp_all))
    · refine zA_iload_n dX9_alike_47 rfl ?_
      exact zA_ri dX9_alike_48 ⟨by rw [fB_yes hF (b1.mp (by simpa using h44)) (t + 1) (by omega)]; rfl, hT.qm⟩
theorem c_X9_alikeY (d : Nat) (μ : zM) (n m t a b : Nat) (u : Int) (hH : zMs μ n m t u) (hok : rOk n m (μ 114)) (ha : a < m) (hb : b < m) (hab : a ≠ b) : zMet (d + 5) 0 yX9_alike cX9_alike 4 (some .int) TF μ [zR 110, zI (a : Int), zI (b : Int)] (zPi (fun v ξ => (∃ R, (∀ i, i < 30 → R i = μ 114 i) ∧ v = gOb (fB (fun k => gAl (dRow u n (μ 114 30) (μ 112) (μ 113) 0 R k) n a b) (t + 1))) ∧ qM μ ξ)) := by
  have hH0 := hH
  obtain ⟨hn, hu, hm, ht, hn5, hm6, ht10, hu1, hdk⟩ := hH0
  refine zMi_of RX9 rfl (by decide) rfl (ls := [some (zR 110), some (zI (a : Int)), some (zI (b : Int)), none]) rfl (fun hok0 => ?_)
  refine zA_aload_n dX9_alike_0 rfl ?_
  refine zA_iload_n dX9_alike_1 rfl ?_
  refine zA_cVb (st := []) kX9_187 t_110 rfl rfl (c_X9_isCoat (d + 2) (a : Int) μ (by omega)) rfl rfl rfl dX9_alike_2 (zfit0 (by omega) rfl) (fun v1 μ1 q1 => ?_)
  obtain ⟨b1, rfl⟩ := q1
  rw [hm] at b1
  refine zA_ifb_eq (tgt := 21) dX9_alike_5 rfl (fun h5 => False.elim (by have := b1.mpr (by omega); simp_all)) fun h5 => ?_
  refine zA_aload_n dX9_alike_8 rfl ?_
  refine zA_iload_n dX9_alike_9 rfl ?_
  refine zA_cVb (st := []) kX9_187 t_110 rfl rfl (c_X9_isCoat (d + 2) (b : Int) μ (by omega)) rfl rfl rfl dX9_alike_10 (zfit0 (by omega) rfl) (fun v2 μ2 q2 => ?_)
  obtain ⟨b2, rfl⟩ := q2
  rw [hm] at b2
  refine zA_ifb_eq (tgt := 21) dX9_alike_13 rfl (fun h13 => False.elim (by have := b2.mpr (by omega); simp_all)) fun h13 => ?_
  refine zA_iload_n dX9_alike_16 rfl ?_
  refine zA_iload_n dX9_alike_17 rfl ?_
  refine zA_icmp_ne (tgt := 24) dX9_alike_18 rfl (fun h18 => ?_) (fun h18 => False.elim (by omega))
  refine zA_aload_n dX9_alike_24 rfl ?_
  refine zA_cVv (st := []) kX9_225 t_110 rfl rfl (c_X9_begin (d + 3) μ) rfl rfl rfl dX9_alike_25 (zfit0 (by omega) rfl) (fun μ3 q3 => ?_)
  obtain ⟨q3a, q3b⟩ := q3
  refine zA_iconst dX9_alike_28 rfl ?_
  refine zA_istore_n (ls' := [some (zR 110), some (zI (a : Int)), some (zI (b : Int)), some (zI 0)]) dX9_alike_29 rfl rfl ?_
  have hT0 : mTr μ μ3 n u (μ3 122) 0 := ⟨rfl, fun k h1 _ _ => q3b k h1⟩
  exact zAi_mono (l_X9_alike d μ n m t u (μ3 122) hH (rOk_congr hn5 hm6 (fun i hi => (q3a i hi).symm) hok) a b ha hb _ 0 rfl (by omega) μ3 hT0 rfl) (fun v ξ h => ⟨⟨μ3 122, q3a, h.1⟩, h.2⟩)
theorem c_X9_alikeN (d : Nat) (μ : zM) (m : Nat) (a b : Int) (hm : μ 110 2 = m) (hnp : ¬ ((0 ≤ a ∧ a < m) ∧ (0 ≤ b ∧ b < m) ∧ a ≠ b)) : zMet (d + 5) 0 yX9_alike cX9_alike 4 (some .int) TF μ [zR 110, zI a, zI b] (zPi (fun v ν => v = -1000000001 ∧ μ = ν)) := by
  refine zMi_of RX9 rfl (by decide) rfl (ls := [some (zR 110), some (zI a), some (zI b), none]) rfl (fun hok0 => ?_)
  refine zA_aload_n dX9_alike_0 rfl ?_
  refine zA_iload_n dX9_alike_1 rfl ?_
  refine zA_cVb (st := []) kX9_187 t_110 rfl rfl (c_X9_isCoat (d + 2) a μ (by omega)) rfl rfl rfl dX9_alike_2 (zfit0 (by omega) rfl) (fun v1 μ1 q1 => ?_)
  obtain ⟨b1, rfl⟩ := q1
  rw [hm] at b1
  refine zA_ifb_eq (tgt := 21) dX9_alike_5 rfl (fun h5 => ?_) (fun h5 => ?_)
  · refine zA_ldc cX9_194 dX9_alike_21 rfl ?_
    exact zA_ri dX9_alike_23 ⟨rfl, rfl⟩
  · refine zA_aload_n dX9_alike_8 rfl ?_
    refine zA_iload_n dX9_alike_9 rfl ?_
    refine zA_cVb (st := []) kX9_187 t_110 rfl rfl (c_X9_isCoat (d + 2) b μ (by omega)) rfl rfl rfl dX9_alike_10 (zfit0 (by omega) rfl) (fun v2 μ2 q2 => ?_)
    obtain ⟨b2, rfl⟩ := q2
    rw [hm] at b2
    refine zA_ifb_eq (tgt := 21) dX9_alike_13 rfl (fun h13 => ?_) (fun h13 => ?_)
    · refine zA_ldc cX9_194 dX9_alike_21 rfl ?_
      exact zA_ri dX9_alike_23 ⟨rfl, rfl⟩
    · refine zA_iload_n dX9_alike_16 rfl ?_
      refine zA_iload_n dX9_alike_17 rfl ?_
      refine zA_icmp_ne (tgt := 24) dX9_alike_18 rfl (fun h18 => False.elim (hnp ⟨b1.mp (by simpa using h5), b2.mp (by simpa using h13), h18⟩)) fun h18 => ?_
      refine zA_ldc cX9_194 dX9_alike_21 rfl ?_
      exact zA_ri dX9_alike_23 ⟨rfl, rfl⟩
theorem pr_alike (μ : zM) (a b : Int) (n m t : Nat) (u : Int) (hI : zInv μ n m t u) : zPair yX8_alike cX8_alike 4 yX9_alike cX9_alike 4 [zI a, zI b] μ := by
  obtain ⟨hn, hu, hm, ht0, hn5, hm6, ht10, hu1, hdk⟩ := hI.1.1
  have hmM := hI.1.2.1.2.2.1
  by_cases hb : (0 ≤ a ∧ a < m) ∧ (0 ≤ b ∧ b < m) ∧ a ≠ b
  · obtain ⟨a', rfl⟩ := Int.eq_ofNat_of_zero_le hb.1.1
    obtain ⟨b', rfl⟩ := Int.eq_ofNat_of_zero_le hb.2.1.1
    refine zPair_q hI (gOb (fB (fun k => gAl (dRow u n (μ 114 30) (μ 112) (μ 113) 0 (μ 114) k) n a' b') (t + 1))) (zMi_mono (c_X8_alikeY 15 μ n m t a' b' u hI.1.1 hI.2.1.2.1 (by omega) (by omega) (by omega)) ?_) (fun ν hq hν => zMi_mono (c_X9_alikeY 15 ν n m t a' b' u hν.1.2.1 hν.mrow (by omega) (by omega) (by omega)) ?_)
    · rintro v ν ⟨⟨R, hR, rfl⟩, hq⟩
      refine ⟨?_, hq⟩
      rw [fB_congr (fun k hk => ?_)]
      exact gAl_congrL hn5 (by omega) (by omega) (tr_eq hI (fun i hi => by rw [hR i (by omega)]; exact hI.row i hi) (by omega))
    · rintro v ξ ⟨⟨R, hR, rfl⟩, hx⟩
      refine ⟨?_, hx⟩
      have e114 : ν 114 = μ 114 := hq 114 (by unfold cScr; omega)
      have e112 : ν 112 = μ 112 := hq 112 (by unfold cScr; omega)
      have e113 : ν 113 = μ 113 := hq 113 (by unfold cScr; omega)
      rw [← e114, ← e112, ← e113]
      rw [fB_congr (fun k hk => ?_)]
      exact gAl_congr hn5 (by omega) (by omega) (dRow_congrR hn5 hm6 hν.1.2.1.2.2.2.2.2.2.2.2 hR (by omega))
  · refine zPair_q hI (-1000000001) (zMi_mono (c_X8_alikeN 15 μ m a b hm hb) ?_) (fun ν hq hν => zMi_mono (c_X9_alikeN 15 ν m a b hν.1.2.1.2.2.1 hb) ?_)
    · rintro v ν ⟨rfl, rfl⟩
      exact ⟨rfl, qC.refl _⟩
    · rintro v ξ ⟨rfl, rfl⟩
      exact ⟨rfl, qM.refl _⟩
