/-! ===== the model: giveOf, rubIn, begin, goOn ===== -/
/-- the model's house -/
def zMs (μ : zM) (n m t : Nat) (u : Int) : Prop := μ 110 0 = n ∧ μ 110 1 = u ∧ μ 110 2 = m ∧ μ 110 5 = t ∧ n ≤ 5 ∧ m ≤ 6 ∧ t ≤ 10 ∧ (0 ≤ u ∧ u ≤ 30) ∧ dOk m t (μ 112) (μ 113)
theorem zMs.keep {μ ν : zM} {n m t : Nat} {u : Int} (h : zMs μ n m t u) (h1 : ν 110 = μ 110) (h3 : ν 112 = μ 112) (h4 : ν 113 = μ 113) : zMs ν n m t u := by
  unfold zMs at *
  rw [h1, h3, h4]
  exact h
def gOb : Option Nat → Int
  | none => -1
  | some b => b
theorem zor2_bit {s b j : Nat} (hs : s < 2 ^ 31) (hb : b < 31) (hj : j < 31) : zbit ((s ||| 2 ^ b : Nat) : Int) (j : Int) = 1 ↔ (zbit (s : Int) (j : Int) = 1 ∨ j = b) := by
  have h := zor_bit hs hb hj
  rw [zshl_1 b hb, zor_nat hs (Nat.pow_lt_pow_right (by decide) hb)] at h
  exact h
theorem l_X9_giveOf3 (d : Nat) (μ : zM) (q a to n rl : Nat) (u : Int) (hq : znth TF q = some (10, rl, [])) (hrl : 30 ≤ rl) (hq119 : q ≠ 119) (hto : to ≤ 5) (hn : μ 110 0 = n) (h5 : n ≤ 5) (hu : μ 110 1 = u) (hu1 : 0 ≤ u ∧ u ≤ 30) (ha : a < 6) (hok : gOk (gP (μ q) a) n) (k D : Nat) (ν : zM) (hD : ∀ j, j < n → (zbit (D : Int) (j : Int) = 1 ↔ gDone (gRs u (gP (μ q) a)) n k j = true)) (hfr : (∀ k, k ≠ 119 → ν k = μ k) ∧ (∀ i, (i < to ∨ to + n ≤ i) → ν 119 i = μ 119 i)) (hx : zA RX9 cX9_giveOf 9 (zRm (d + 2) 0) zN0 TF 0 ν 163 [some (zR 110), some (zR q), some (zI (a : Int)), some (zI (to : Int)), some (zI (gLf u (gP (μ q) a) n - k)), some (zI (D : Int)), some (zI (gOb (gBest (gRs u (gP (μ q) a)) (gDone (gRs u (gP (μ q) a)) n k) n))), some (zI (n : Int)), none] [] (zPv (fun ν => (∀ j, j < n → ν 119 (to + j) = gGv u (gP (μ q) a) n j) ∧ (∀ k, k ≠ 119 → ν k = μ k) ∧ (∀ i, (i < to ∨ to + n ≤ i) → ν 119 i = μ 119 i)))) : ∀ (t0 c : Nat) (eb : Option Nat), gBest (gRs u (gP (μ q) a)) (gDone (gRs u (gP (μ q) a)) n k) c = eb → n - c = t0 → c ≤ n → zA RX9 cX9_giveOf 9 (zRm (d + 2) 0) zN0 TF 0 ν 77 [some (zR 110), some (zR q), some (zI (a : Int)), some (zI (to : Int)), some (zI (gLf u (gP (μ q) a) n - k)), some (zI (D : Int)), some (zI (gOb eb)), some (zI (c : Int)), none] [] (zPv (fun ν => (∀ j, j < n → ν 119 (to + j) = gGv u (gP (μ q) a) n j) ∧ (∀ k, k ≠ 119 → ν k = μ k) ∧ (∀ i, (i < to ∨ to + n ≤ i) → ν 119 i = μ 119 i))) := by
  have hn2 : ν 110 0 = n := by rw [hfr.1 110 (by decide)]; exact hn
  have hu2 : ν 110 1 = u := by rw [hfr.1 110 (by decide)]; exact hu
  intro t0
  induction t0 using Nat.strongRecOn with
  | ind t0 ih =>
    intro c eb hE hk hcn
    cases eb with
    | none =>
      show zA RX9 cX9_giveOf 9 (zRm (d + 2) 0) zN0 TF 0 ν 77 [some (zR 110), some (zR q), some (zI (a : Int)), some (zI (to : Int)), some (zI (gLf u (gP (μ q) a) n - k)), some (zI (D : Int)), some (zI (-1)), some (zI (c : Int)), none] [] (zPv (fun ν => (∀ j, j < n → ν 119 (to + j) = gGv u (gP (μ q) a) n j) ∧ (∀ k, k ≠ 119 → ν k = μ k) ∧ (∀ i, (i < to ∨ to + n ≤ i) → ν 119 i = μ 119 i)))
      refine zA_iload dX9_giveOf_77 rfl ?_
      refine zA_aload_n dX9_giveOf_79 rfl ?_
      refine zA_getE (w := (n : Int)) fX9_75 t_110 dX9_giveOf_80 hn2 ?_
      refine zA_icmp_ge (tgt := 163) dX9_giveOf_83 rfl (fun h83 => ?_) (fun h83 => ?_)
      · obtain rfl : n = c := by omega
        rw [hE] at hx
        exact hx
      · have hcn2 : c < n := by omega
        have hbs := gBs_rg hok hu1 hcn2
        have hble := gOk_le hok hcn2
        refine zA_iload dX9_giveOf_86 rfl ?_
        refine zA_iload dX9_giveOf_88 rfl ?_
        refine zA_cSb (st := []) kX9_140 (c_X9_has d ((D : Int)) ((c : Int)) ν) rfl rfl rfl dX9_giveOf_90 (zfit0 (by omega) rfl) (fun v1 μ1 q1 => ?_)
        obtain ⟨b1, rfl⟩ := q1
        refine zA_ifb_ne (tgt := 140) dX9_giveOf_93 rfl (fun h93 => ?_) (fun h93 => ?_)
        · have hdc : gDone (gRs u (gP (μ q) a)) n k c = true := (hD c hcn2).mp (b1.mp h93)
          refine zA_iconst dX9_giveOf_140 rfl ?_
          refine zA_istore (ls' := [some (zR 110), some (zR q), some (zI (a : Int)), some (zI (to : Int)), some (zI (gLf u (gP (μ q) a) n - k)), some (zI (D : Int)), some (zI (-1)), some (zI (c : Int)), some (zI 0)]) dX9_giveOf_141 rfl rfl ?_
          refine zA_iload dX9_giveOf_143 rfl ?_
          refine zA_if_eq (tgt := 153) dX9_giveOf_145 rfl (fun h145 => ?_) (fun h145 => False.elim (by omega))
          refine zA_iload dX9_giveOf_153 rfl ?_
          refine zA_istore (ls' := [some (zR 110), some (zR q), some (zI (a : Int)), some (zI (to : Int)), some (zI (gLf u (gP (μ q) a) n - k)), some (zI (D : Int)), some (zI (-1)), some (zI (c : Int)), some (zI 0)]) dX9_giveOf_155 rfl rfl ?_
          refine zA_iincB (ls' := [some (zR 110), some (zR q), some (zI (a : Int)), some (zI (to : Int)), some (zI (gLf u (gP (μ q) a) n - k)), some (zI (D : Int)), some (zI (-1)), some (zI ((c : Int) + 1)), some (zI 0)]) dX9_giveOf_157 rfl rfl ⟨by omega, by omega⟩ rfl ?_
          refine zA_goto (tgt := 77) dX9_giveOf_160 rfl ?_
          refine zA_dr (ls' := [some (zR 110), some (zR q), some (zI (a : Int)), some (zI (to : Int)), some (zI (gLf u (gP (μ q) a) n - k)), some (zI (D : Int)), some (zI (-1)), some (zI ((c : Int) + 1)), none]) 8 rfl ?_
          exact ih _ (by omega) (c + 1) none (by simp only [gBest]; rw [hE]; simp only; rw [hdc]; rfl) rfl (by omega)
        · have hdc : gDone (gRs u (gP (μ q) a)) n k c = false := by
            cases hx : gDone (gRs u (gP (μ q) a)) n k c with
            | false => rfl
            | true => have := b1.mpr ((hD c hcn2).mpr hx); simp_all
          refine zA_iload dX9_giveOf_96 rfl ?_
          refine zA_if_lt (tgt := 136) dX9_giveOf_98 rfl (fun h98 => ?_) (fun h98 => False.elim (by omega))
          refine zA_iconst dX9_giveOf_136 rfl ?_
          refine zA_goto (tgt := 141) dX9_giveOf_137 rfl ?_
          refine zA_istore (ls' := [some (zR 110), some (zR q), some (zI (a : Int)), some (zI (to : Int)), some (zI (gLf u (gP (μ q) a) n - k)), some (zI (D : Int)), some (zI (-1)), some (zI (c : Int)), some (zI 1)]) dX9_giveOf_141 rfl rfl ?_
          refine zA_iload dX9_giveOf_143 rfl ?_
          refine zA_if_eq (tgt := 153) dX9_giveOf_145 rfl (fun h145 => False.elim (by omega)) fun h145 => ?_
          refine zA_iload dX9_giveOf_148 rfl ?_
          refine zA_goto (tgt := 155) dX9_giveOf_150 rfl ?_
          refine zA_istore (ls' := [some (zR 110), some (zR q), some (zI (a : Int)), some (zI (to : Int)), some (zI (gLf u (gP (μ q) a) n - k)), some (zI (D : Int)), some (zI (c : Int)), some (zI (c : Int)), some (zI 1)]) dX9_giveOf_155 rfl rfl ?_
          refine zA_iincB (ls' := [some (zR 110), some (zR q), some (zI (a : Int)), some (zI (to : Int)), some (zI (gLf u (gP (μ q) a) n - k)), some (zI (D : Int)), some (zI (c : Int)), some (zI ((c : Int) + 1)), some (zI 1)]) dX9_giveOf_157 rfl rfl ⟨by omega, by omega⟩ rfl ?_
          refine zA_goto (tgt := 77) dX9_giveOf_160 rfl ?_
          refine zA_dr (ls' := [some (zR 110), some (zR q), some (zI (a : Int)), some (zI (to : Int)), some (zI (gLf u (gP (μ q) a) n - k)), some (zI (D : Int)), some (zI (c : Int)), some (zI ((c : Int) + 1)), none]) 8 rfl ?_
          exact ih _ (by omega) (c + 1) (some c) (by simp only [gBest]; rw [hE]; simp only; rw [hdc]; rfl) rfl (by omega)
    | some e =>
      have he := (gBest_is hE).1
      show zA RX9 cX9_giveOf 9 (zRm (d + 2) 0) zN0 TF 0 ν 77 [some (zR 110), some (zR q), some (zI (a : Int)), some (zI (to : Int)), some (zI (gLf u (gP (μ q) a) n - k)), some (zI (D : Int)), some (zI (e : Int)), some (zI (c : Int)), none] [] (zPv (fun ν => (∀ j, j < n → ν 119 (to + j) = gGv u (gP (μ q) a) n j) ∧ (∀ k, k ≠ 119 → ν k = μ k) ∧ (∀ i, (i < to ∨ to + n ≤ i) → ν 119 i = μ 119 i)))
      refine zA_iload dX9_giveOf_77 rfl ?_
      refine zA_aload_n dX9_giveOf_79 rfl ?_
      refine zA_getE (w := (n : Int)) fX9_75 t_110 dX9_giveOf_80 hn2 ?_
      refine zA_icmp_ge (tgt := 163) dX9_giveOf_83 rfl (fun h83 => ?_) (fun h83 => ?_)
      · obtain rfl : n = c := by omega
        rw [hE] at hx
        exact hx
      · have hcn2 : c < n := by omega
        have hbs := gBs_rg hok hu1 hcn2
        have hble := gOk_le hok hcn2
        have hbe := gBs_rg hok hu1 (show e < n by omega)
        have hble2 := gOk_le hok (show e < n by omega)
        refine zA_iload dX9_giveOf_86 rfl ?_
        refine zA_iload dX9_giveOf_88 rfl ?_
        refine zA_cSb (st := []) kX9_140 (c_X9_has d ((D : Int)) ((c : Int)) ν) rfl rfl rfl dX9_giveOf_90 (zfit0 (by omega) rfl) (fun v1 μ1 q1 => ?_)
        obtain ⟨b1, rfl⟩ := q1
        refine zA_ifb_ne (tgt := 140) dX9_giveOf_93 rfl (fun h93 => ?_) (fun h93 => ?_)
        · have hdc : gDone (gRs u (gP (μ q) a)) n k c = true := (hD c hcn2).mp (b1.mp h93)
          refine zA_iconst dX9_giveOf_140 rfl ?_
          refine zA_istore (ls' := [some (zR 110), some (zR q), some (zI (a : Int)), some (zI (to : Int)), some (zI (gLf u (gP (μ q) a) n - k)), some (zI (D : Int)), some (zI (e : Int)), some (zI (c : Int)), some (zI 0)]) dX9_giveOf_141 rfl rfl ?_
          refine zA_iload dX9_giveOf_143 rfl ?_
          refine zA_if_eq (tgt := 153) dX9_giveOf_145 rfl (fun h145 => ?_) (fun h145 => False.elim (by omega))
          refine zA_iload dX9_giveOf_153 rfl ?_
          refine zA_istore (ls' := [some (zR 110), some (zR q), some (zI (a : Int)), some (zI (to : Int)), some (zI (gLf u (gP (μ q) a) n - k)), some (zI (D : Int)), some (zI (e : Int)), some (zI (c : Int)), some (zI 0)]) dX9_giveOf_155 rfl rfl ?_
          refine zA_iincB (ls' := [some (zR 110), some (zR q), some (zI (a : Int)), some (zI (to : Int)), some (zI (gLf u (gP (μ q) a) n - k)), some (zI (D : Int)), some (zI (e : Int)), some (zI ((c : Int) + 1)), some (zI 0)]) dX9_giveOf_157 rfl rfl ⟨by omega, by omega⟩ rfl ?_
          refine zA_goto (tgt := 77) dX9_giveOf_160 rfl ?_
          refine zA_dr (ls' := [some (zR 110), some (zR q), some (zI (a : Int)), some (zI (to : Int)), some (zI (gLf u (gP (μ q) a) n - k)), some (zI (D : Int)), some (zI (e : Int)), some (zI ((c : Int) + 1)), none]) 8 rfl ?_
          exact ih _ (by omega) (c + 1) (some e) (by simp only [gBest]; rw [hE]; simp only; first | (rw [hdc]; rfl) | (rw [hdc, if_neg (by decide), if_neg (by omega)])) rfl (by omega)
        · have hdc : gDone (gRs u (gP (μ q) a)) n k c = false := by
            cases hx : gDone (gRs u (gP (μ q) a)) n k c with
            | false => rfl
            | true => have := b1.mpr ((hD c hcn2).mpr hx); simp_all
          refine zA_iload dX9_giveOf_96 rfl ?_
          refine zA_if_lt (tgt := 136) dX9_giveOf_98 rfl (fun h98 => ?_) (fun h98 => ?_)
          · refine zA_iconst dX9_giveOf_136 rfl ?_
            refine zA_goto (tgt := 141) dX9_giveOf_137 rfl ?_
            refine zA_istore (ls' := [some (zR 110), some (zR q), some (zI (a : Int)), some (zI (to : Int)), some (zI (gLf u (gP (μ q) a) n - k)), some (zI (D : Int)), some (zI (e : Int)), some (zI (c : Int)), some (zI 1)]) dX9_giveOf_141 rfl rfl ?_
            refine zA_iload dX9_giveOf_143 rfl ?_
            refine zA_if_eq (tgt := 153) dX9_giveOf_145 rfl (fun h145 => False.elim (by omega)) fun h145 => ?_
            refine zA_iload dX9_giveOf_148 rfl ?_
            refine zA_goto (tgt := 155) dX9_giveOf_150 rfl ?_
            refine zA_istore (ls' := [some (zR 110), some (zR q), some (zI (a : Int)), some (zI (to : Int)), some (zI (gLf u (gP (μ q) a) n - k)), some (zI (D : Int)), some (zI (c : Int)), some (zI (c : Int)), some (zI 1)]) dX9_giveOf_155 rfl rfl ?_
            refine zA_iincB (ls' := [some (zR 110), some (zR q), some (zI (a : Int)), some (zI (to : Int)), some (zI (gLf u (gP (μ q) a) n - k)), some (zI (D : Int)), some (zI (c : Int)), some (zI ((c : Int) + 1)), some (zI 1)]) dX9_giveOf_157 rfl rfl ⟨by omega, by omega⟩ rfl ?_
            refine zA_goto (tgt := 77) dX9_giveOf_160 rfl ?_
            refine zA_dr (ls' := [some (zR 110), some (zR q), some (zI (a : Int)), some (zI (to : Int)), some (zI (gLf u (gP (μ q) a) n - k)), some (zI (D : Int)), some (zI (c : Int)), some (zI ((c : Int) + 1)), none]) 8 rfl ?_
            exact ih _ (by omega) (c + 1) (some c) (by simp only [gBest]; rw [hE]; simp only; rw [hdc, if_neg (by decide), if_pos (by omega)]) rfl (by omega)
          · refine zA_aload_n dX9_giveOf_101 rfl ?_
            refine zA_getE (w := u) fX9_163 t_110 dX9_giveOf_102 hu2 ?_
            refine zA_aload_n dX9_giveOf_105 rfl ?_
            refine zA_iconst dX9_giveOf_106 rfl ?_
            refine zA_iload_n dX9_giveOf_107 rfl ?_
            refine zA_imulB dX9_giveOf_108 ⟨by omega, by omega⟩ ?_
            refine zA_iload dX9_giveOf_109 rfl ?_
            refine zA_iaddB dX9_giveOf_111 ⟨by omega, by omega⟩ ?_
            refine zA_ialE (w := gP (μ q) a c) (j := 5 * a + c) hq (by omega) (by omega) dX9_giveOf_112 rfl (by rw [hfr.1 q hq119, Nat.mul_comm 5 a]; rfl) ?_
            refine zA_imulB dX9_giveOf_113 ⟨by omega, by omega⟩ ?_
            refine zA_bipush dX9_giveOf_114 rfl ?_
            refine zA_iremE (w := gRs u (gP (μ q) a) c) dX9_giveOf_116 (by omega) (by omega) rfl ?_
            refine zA_aload_n dX9_giveOf_117 rfl ?_
            refine zA_getE (w := u) fX9_163 t_110 dX9_giveOf_118 hu2 ?_
            refine zA_aload_n dX9_giveOf_121 rfl ?_
            refine zA_iconst dX9_giveOf_122 rfl ?_
            refine zA_iload_n dX9_giveOf_123 rfl ?_
            refine zA_imulB dX9_giveOf_124 ⟨by omega, by omega⟩ ?_
            refine zA_iload dX9_giveOf_125 rfl ?_
            refine zA_iaddB dX9_giveOf_127 ⟨by omega, by omega⟩ ?_
            refine zA_ialE (w := gP (μ q) a e) (j := 5 * a + e) hq (by omega) (by omega) dX9_giveOf_128 rfl (by rw [hfr.1 q hq119, Nat.mul_comm 5 a]; rfl) ?_
            refine zA_imulB dX9_giveOf_129 ⟨by omega, by omega⟩ ?_
            refine zA_bipush dX9_giveOf_130 rfl ?_
            refine zA_iremE (w := gRs u (gP (μ q) a) e) dX9_giveOf_132 (by omega) (by omega) rfl ?_
            refine zA_icmp_le (tgt := 140) dX9_giveOf_133 rfl (fun h133 => ?_) (fun h133 => ?_)
            · have hle := h133
              refine zA_iconst dX9_giveOf_140 rfl ?_
              refine zA_istore (ls' := [some (zR 110), some (zR q), some (zI (a : Int)), some (zI (to : Int)), some (zI (gLf u (gP (μ q) a) n - k)), some (zI (D : Int)), some (zI (e : Int)), some (zI (c : Int)), some (zI 0)]) dX9_giveOf_141 rfl rfl ?_
              refine zA_iload dX9_giveOf_143 rfl ?_
              refine zA_if_eq (tgt := 153) dX9_giveOf_145 rfl (fun h145 => ?_) (fun h145 => False.elim (by omega))
              refine zA_iload dX9_giveOf_153 rfl ?_
              refine zA_istore (ls' := [some (zR 110), some (zR q), some (zI (a : Int)), some (zI (to : Int)), some (zI (gLf u (gP (μ q) a) n - k)), some (zI (D : Int)), some (zI (e : Int)), some (zI (c : Int)), some (zI 0)]) dX9_giveOf_155 rfl rfl ?_
              refine zA_iincB (ls' := [some (zR 110), some (zR q), some (zI (a : Int)), some (zI (to : Int)), some (zI (gLf u (gP (μ q) a) n - k)), some (zI (D : Int)), some (zI (e : Int)), some (zI ((c : Int) + 1)), some (zI 0)]) dX9_giveOf_157 rfl rfl ⟨by omega, by omega⟩ rfl ?_
              refine zA_goto (tgt := 77) dX9_giveOf_160 rfl ?_
              refine zA_dr (ls' := [some (zR 110), some (zR q), some (zI (a : Int)), some (zI (to : Int)), some (zI (gLf u (gP (μ q) a) n - k)), some (zI (D : Int)), some (zI (e : Int)), some (zI ((c : Int) + 1)), none]) 8 rfl ?_
              exact ih _ (by omega) (c + 1) (some e) (by simp only [gBest]; rw [hE]; simp only; first | (rw [hdc]; rfl) | (rw [hdc, if_neg (by decide), if_neg (by omega)])) rfl (by omega)
            · refine zA_iconst dX9_giveOf_136 rfl ?_
              refine zA_goto (tgt := 141) dX9_giveOf_137 rfl ?_
              refine zA_istore (ls' := [some (zR 110), some (zR q), some (zI (a : Int)), some (zI (to : Int)), some (zI (gLf u (gP (μ q) a) n - k)), some (zI (D : Int)), some (zI (e : Int)), some (zI (c : Int)), some (zI 1)]) dX9_giveOf_141 rfl rfl ?_
              refine zA_iload dX9_giveOf_143 rfl ?_
              refine zA_if_eq (tgt := 153) dX9_giveOf_145 rfl (fun h145 => False.elim (by omega)) fun h145 => ?_
              refine zA_iload dX9_giveOf_148 rfl ?_
              refine zA_goto (tgt := 155) dX9_giveOf_150 rfl ?_
              refine zA_istore (ls' := [some (zR 110), some (zR q), some (zI (a : Int)), some (zI (to : Int)), some (zI (gLf u (gP (μ q) a) n - k)), some (zI (D : Int)), some (zI (c : Int)), some (zI (c : Int)), some (zI 1)]) dX9_giveOf_155 rfl rfl ?_
              refine zA_iincB (ls' := [some (zR 110), some (zR q), some (zI (a : Int)), some (zI (to : Int)), some (zI (gLf u (gP (μ q) a) n - k)), some (zI (D : Int)), some (zI (c : Int)), some (zI ((c : Int) + 1)), some (zI 1)]) dX9_giveOf_157 rfl rfl ⟨by omega, by omega⟩ rfl ?_
              refine zA_goto (tgt := 77) dX9_giveOf_160 rfl ?_
              refine zA_dr (ls' := [some (zR 110), some (zR q), some (zI (a : Int)), some (zI (to : Int)), some (zI (gLf u (gP (μ q) a) n - k)), some (zI (D : Int)), some (zI (c : Int)), some (zI ((c : Int) + 1)), none]) 8 rfl ?_
              exact ih _ (by omega) (c + 1) (some c) (by simp only [gBest]; rw [hE]; simp only; rw [hdc, if_neg (by decide), if_pos (by omega)]) rfl (by omega)
theorem l_X9_giveOf2 (d : Nat) (μ : zM) (q a to n rl : Nat) (u : Int) (hq : znth TF q = some (10, rl, [])) (hrl : 30 ≤ rl) (hq119 : q ≠ 119) (hto : to ≤ 5) (hn : μ 110 0 = n) (h5 : n ≤ 5) (hu : μ 110 1 = u) (hu1 : 0 ≤ u ∧ u ≤ 30) (ha : a < 6) (hok : gOk (gP (μ q) a) n) : ∀ (t0 k : Nat), (gLf u (gP (μ q) a) n).toNat - k = t0 → (k : Int) ≤ gLf u (gP (μ q) a) n → ∀ D : Nat, D < 32 → ∀ ν : zM, (∀ j, j < n → (zbit (D : Int) (j : Int) = 1 ↔ gDone (gRs u (gP (μ q) a)) n k j = true)) → (∀ j, j < n → ν 119 (to + j) = gBs u (gP (μ q) a) j + (if gDone (gRs u (gP (μ q) a)) n k j then 1 else 0)) → (∀ k, k ≠ 119 → ν k = μ k) ∧ (∀ i, (i < to ∨ to + n ≤ i) → ν 119 i = μ 119 i) → zA RX9 cX9_giveOf 9 (zRm (d + 2) 0) zN0 TF 0 ν 66 [some (zR 110), some (zR q), some (zI (a : Int)), some (zI (to : Int)), some (zI (gLf u (gP (μ q) a) n - k)), some (zI (D : Int)), none, none, none] [] (zPv (fun ν => (∀ j, j < n → ν 119 (to + j) = gGv u (gP (μ q) a) n j) ∧ (∀ k, k ≠ 119 → ν k = μ k) ∧ (∀ i, (i < to ∨ to + n ≤ i) → ν 119 i = μ 119 i))) := by
  intro t0
  induction t0 using Nat.strongRecOn with
  | ind t0 ih =>
    intro k hk hkl D hD5 ν hD hgv hfr
    have hlf0 := gLf_rg (u := u) hok
    refine zA_iload dX9_giveOf_66 rfl ?_
    refine zA_if_le (tgt := 191) dX9_giveOf_68 rfl (fun h68 => ?_) (fun h68 => ?_)
    · exact zA_rv dX9_giveOf_191 ⟨fun j hj => by rw [hgv j hj]; unfold gGv; rw [show (gLf u (gP (μ q) a) n).toNat = k by omega], hfr⟩
    · refine zA_iconst dX9_giveOf_71 rfl ?_
      refine zA_istore (ls' := [some (zR 110), some (zR q), some (zI (a : Int)), some (zI (to : Int)), some (zI (gLf u (gP (μ q) a) n - k)), some (zI (D : Int)), some (zI (-1)), none, none]) dX9_giveOf_72 rfl rfl ?_
      refine zA_iconst dX9_giveOf_74 rfl ?_
      refine zA_istore (ls' := [some (zR 110), some (zR q), some (zI (a : Int)), some (zI (to : Int)), some (zI (gLf u (gP (μ q) a) n - k)), some (zI (D : Int)), some (zI (-1)), some (zI 0), none]) dX9_giveOf_75 rfl rfl ?_
      have hlf := gLf_rg (u := u) hok
      obtain ⟨b, hb, hbr⟩ := (gNext (fun j hj => gRs_rg u (gP (μ q) a) j) (gRs_sum (u := u) hok) k (by omega)).2 (by omega)
      have hbe := gBest_of hb
      have hb1 := hb.1
      have hgb := hgv b hb.1
      rw [hb.2.1, if_neg (by decide), Int.add_zero] at hgb
      have hbs := gBs_rg hok hu1 hb.1
      have hble := gOk_le hok hb.1
      refine l_X9_giveOf3 d μ q a to n rl u hq hrl hq119 hto hn h5 hu hu1 ha hok k D ν hD hfr ?_ _ 0 none rfl rfl (by omega)
      rw [hbe]
      show zA RX9 cX9_giveOf 9 (zRm (d + 2) 0) zN0 TF 0 ν 163 [some (zR 110), some (zR q), some (zI (a : Int)), some (zI (to : Int)), some (zI (gLf u (gP (μ q) a) n - k)), some (zI (D : Int)), some (zI (b : Int)), some (zI (n : Int)), none] [] (zPv (fun ν => (∀ j, j < n → ν 119 (to + j) = gGv u (gP (μ q) a) n j) ∧ (∀ k, k ≠ 119 → ν k = μ k) ∧ (∀ i, (i < to ∨ to + n ≤ i) → ν 119 i = μ 119 i)))
      refine zA_iload dX9_giveOf_163 rfl ?_
      refine zA_iconst dX9_giveOf_165 rfl ?_
      refine zA_iload dX9_giveOf_166 rfl ?_
      refine zA_ishl dX9_giveOf_168 ?_
      refine zA_iorE (w := ((D ||| 2 ^ b : Nat) : Int)) dX9_giveOf_169 (by rw [zshl_1 b (by omega), zor_nat (by omega) (Nat.pow_lt_pow_right (by decide) (by omega))]) ?_
      refine zA_istore (ls' := [some (zR 110), some (zR q), some (zI (a : Int)), some (zI (to : Int)), some (zI (gLf u (gP (μ q) a) n - k)), some (zI (((D ||| 2 ^ b : Nat) : Int))), some (zI (b : Int)), some (zI (n : Int)), none]) dX9_giveOf_170 rfl rfl ?_
      refine zA_aload_n dX9_giveOf_172 rfl ?_
      refine zA_getR fX9_38 t_110 rfl dX9_giveOf_173 ?_
      refine zA_iload_n dX9_giveOf_176 rfl ?_
      refine zA_iload dX9_giveOf_177 rfl ?_
      refine zA_iaddB dX9_giveOf_179 ⟨by omega, by omega⟩ ?_
      refine zA_dup2 dX9_giveOf_180 rfl rfl ?_
      refine zA_ialE (w := gBs u (gP (μ q) a) b) (j := to + b) t_119 (by omega) (by omega) dX9_giveOf_181 rfl hgb ?_
      refine zA_iconst dX9_giveOf_182 rfl ?_
      refine zA_iaddB dX9_giveOf_183 ⟨by omega, by omega⟩ ?_
      refine zA_iasE (j := to + b) t_119 (by omega) (by omega) dX9_giveOf_184 rfl ?_
      refine zA_iincE (ls' := [some (zR 110), some (zR q), some (zI (a : Int)), some (zI (to : Int)), some (zI (gLf u (gP (μ q) a) n - ((k + 1 : Nat) : Int))), some (zI (((D ||| 2 ^ b : Nat) : Int))), some (zI (b : Int)), some (zI (n : Int)), none]) (w := gLf u (gP (μ q) a) n - ((k + 1 : Nat) : Int)) dX9_giveOf_185 rfl rfl ⟨by omega, by omega⟩ (by omega) rfl ?_
      refine zA_goto (tgt := 66) dX9_giveOf_188 rfl ?_
      refine zA_dr (ls' := [some (zR 110), some (zR q), some (zI (a : Int)), some (zI (to : Int)), some (zI (gLf u (gP (μ q) a) n - ((k + 1 : Nat) : Int))), some (zI (((D ||| 2 ^ b : Nat) : Int))), none, some (zI (n : Int)), none]) 6 rfl ?_
      refine zA_dr (ls' := [some (zR 110), some (zR q), some (zI (a : Int)), some (zI (to : Int)), some (zI (gLf u (gP (μ q) a) n - ((k + 1 : Nat) : Int))), some (zI (((D ||| 2 ^ b : Nat) : Int))), none, none, none]) 7 rfl ?_
      refine ih _ (by omega) (k + 1) rfl (by omega) (D ||| 2 ^ b) (by have h1 := Nat.or_lt_two_pow (x := D) (y := 2 ^ b) (n := 5) hD5 (Nat.pow_lt_pow_right (by decide) (by omega)); exact h1) _ ?_ ?_ ⟨?_, ?_⟩
      · intro j hj
        rw [zor2_bit (by omega) (by omega) (by omega), hD j hj]
        by_cases e : j = b
        · subst e; simp [gDone_b hbe]
        · rw [gDone_ne hbe e]; simp [e]
      · intro j hj
        by_cases e : j = b
        · subst e
          rw [zup_s, gDone_b hbe, if_pos rfl]
        · rw [zup_n (fun w => e (by omega)), hgv j hj, gDone_ne hbe e]
      · intro k' h1
        rw [← hfr.1 k' h1]
        funext i
        rw [zup_k h1]
      · intro i hi
        rw [zup_n (fun w => by omega)]
        exact hfr.2 i hi
theorem l_X9_giveOf1 (d : Nat) (μ : zM) (q a to n rl : Nat) (u : Int) (hq : znth TF q = some (10, rl, [])) (hrl : 30 ≤ rl) (hq119 : q ≠ 119) (hto : to ≤ 5) (hn : μ 110 0 = n) (h5 : n ≤ 5) (hu : μ 110 1 = u) (hu1 : 0 ≤ u ∧ u ≤ 30) (ha : a < 6) (hok : gOk (gP (μ q) a) n) : ∀ (t0 c : Nat), n - c = t0 → c ≤ n → ∀ ν : zM, (∀ j, j < c → ν 119 (to + j) = gBs u (gP (μ q) a) j) → (∀ k, k ≠ 119 → ν k = μ k) ∧ (∀ i, (i < to ∨ to + n ≤ i) → ν 119 i = μ 119 i) → zA RX9 cX9_giveOf 9 (zRm (d + 2) 0) zN0 TF 0 ν 12 [some (zR 110), some (zR q), some (zI (a : Int)), some (zI (to : Int)), some (zI (u - gS (gBs u (gP (μ q) a)) c)), some (zI 0), some (zI (c : Int)), none, none] [] (zPv (fun ν => (∀ j, j < n → ν 119 (to + j) = gGv u (gP (μ q) a) n j) ∧ (∀ k, k ≠ 119 → ν k = μ k) ∧ (∀ i, (i < to ∨ to + n ≤ i) → ν 119 i = μ 119 i))) := by
  intro t0
  induction t0 using Nat.strongRecOn with
  | ind t0 ih =>
    intro c hk hcn ν hgv hfr
    have hn2 : ν 110 0 = n := by rw [hfr.1 110 (by decide)]; exact hn
    have hu2 : ν 110 1 = u := by rw [hfr.1 110 (by decide)]; exact hu
    refine zA_iload dX9_giveOf_12 rfl ?_
    refine zA_aload_n dX9_giveOf_14 rfl ?_
    refine zA_getE (w := (n : Int)) fX9_75 t_110 dX9_giveOf_15 hn2 ?_
    refine zA_icmp_ge (tgt := 66) dX9_giveOf_18 rfl (fun h18 => ?_) (fun h18 => ?_)
    · refine zA_dr (ls' := [some (zR 110), some (zR q), some (zI (a : Int)), some (zI (to : Int)), some (zI (u - gS (gBs u (gP (μ q) a)) c)), some (zI 0), none, none, none]) 6 rfl ?_
      obtain rfl : n = c := by omega
      refine zA_leq (ls' := [some (zR 110), some (zR q), some (zI (a : Int)), some (zI (to : Int)), some (zI (gLf u (gP (μ q) a) n - ((0 : Nat) : Int))), some (zI (((0 : Nat) : Int))), none, none, none]) (by unfold gLf; simp) ?_
      exact l_X9_giveOf2 d μ q a to n rl u hq hrl hq119 hto hn h5 hu hu1 ha hok _ 0 rfl (by have := gLf_rg (u := u) hok; omega) 0 (by decide) ν (fun j hj => by simp only [gDone]; rw [show ((0 : Nat) : Int) = 0 from rfl, zbit_z j (by omega)]; simp) (fun j hj => by simp [gDone, hgv j hj]) hfr
    · have hcn2 : c < n := by omega
      have hbs := gBs_rg hok hu1 hcn2
      have hble := gOk_le hok hcn2
      have hS := gS_bd (f := gBs u (gP (μ q) a)) (n := c) (fun j hj => by have h1 := gBs_rg hok hu1 (show j < n by omega); have h2 := gOk_le hok (show j < n by omega); omega)
      refine zA_aload_n dX9_giveOf_21 rfl ?_
      refine zA_getR fX9_38 t_110 rfl dX9_giveOf_22 ?_
      refine zA_iload_n dX9_giveOf_25 rfl ?_
      refine zA_iload dX9_giveOf_26 rfl ?_
      refine zA_iaddB dX9_giveOf_28 ⟨by omega, by omega⟩ ?_
      refine zA_aload_n dX9_giveOf_29 rfl ?_
      refine zA_getE (w := u) fX9_163 t_110 dX9_giveOf_30 hu2 ?_
      refine zA_aload_n dX9_giveOf_33 rfl ?_
      refine zA_iconst dX9_giveOf_34 rfl ?_
      refine zA_iload_n dX9_giveOf_35 rfl ?_
      refine zA_imulB dX9_giveOf_36 ⟨by omega, by omega⟩ ?_
      refine zA_iload dX9_giveOf_37 rfl ?_
      refine zA_iaddB dX9_giveOf_39 ⟨by omega, by omega⟩ ?_
      refine zA_ialE (w := gP (μ q) a c) (j := 5 * a + c) hq (by omega) (by omega) dX9_giveOf_40 rfl (by rw [hfr.1 q hq119, Nat.mul_comm 5 a]; rfl) ?_
      refine zA_imulB dX9_giveOf_41 ⟨by omega, by omega⟩ ?_
      refine zA_bipush dX9_giveOf_42 rfl ?_
      refine zA_idivE (w := gBs u (gP (μ q) a) c) dX9_giveOf_44 (by omega) (by omega) rfl ?_
      refine zA_iasE (j := to + c) t_119 (by omega) (by omega) dX9_giveOf_45 rfl ?_
      refine zA_iload dX9_giveOf_46 rfl ?_
      refine zA_aload_n dX9_giveOf_48 rfl ?_
      refine zA_getR fX9_38 t_110 rfl dX9_giveOf_49 ?_
      refine zA_iload_n dX9_giveOf_52 rfl ?_
      refine zA_iload dX9_giveOf_53 rfl ?_
      refine zA_iaddB dX9_giveOf_55 ⟨by omega, by omega⟩ ?_
      refine zA_ialE (w := gBs u (gP (μ q) a) c) (j := to + c) t_119 (by omega) (by omega) dX9_giveOf_56 rfl (by rw [zup_s]) ?_
      refine zA_isubE (w := u - gS (gBs u (gP (μ q) a)) (c + 1)) dX9_giveOf_57 (by simp only [gS]; exact ⟨by omega, by omega⟩) (by simp only [gS]; omega) ?_
      refine zA_istore (ls' := [some (zR 110), some (zR q), some (zI (a : Int)), some (zI (to : Int)), some (zI (u - gS (gBs u (gP (μ q) a)) (c + 1))), some (zI 0), some (zI (c : Int)), none, none]) dX9_giveOf_58 rfl rfl ?_
      refine zA_iincB (ls' := [some (zR 110), some (zR q), some (zI (a : Int)), some (zI (to : Int)), some (zI (u - gS (gBs u (gP (μ q) a)) (c + 1))), some (zI 0), some (zI ((c : Int) + 1)), none, none]) dX9_giveOf_60 rfl rfl ⟨by omega, by omega⟩ rfl ?_
      refine zA_goto (tgt := 12) dX9_giveOf_63 rfl ?_
      refine ih _ (by omega) (c + 1) rfl (by omega) _ ?_ ⟨?_, ?_⟩
      · intro j hj
        by_cases e : j = c
        · subst e
          rw [zup_s]
        · rw [zup_n (fun w => e (by omega)), hgv j (by omega)]
      · intro k' h1
        rw [← hfr.1 k' h1]
        funext i
        rw [zup_k h1]
      · intro i hi
        rw [zup_n (fun w => by omega)]
        exact hfr.2 i hi
theorem c_X9_giveOf (d : Nat) (μ : zM) (q a to n rl : Nat) (u : Int) (hq : znth TF q = some (10, rl, [])) (hrl : 30 ≤ rl) (hq119 : q ≠ 119) (hto : to ≤ 5) (hn : μ 110 0 = n) (h5 : n ≤ 5) (hu : μ 110 1 = u) (hu1 : 0 ≤ u ∧ u ≤ 30) (ha : a < 6) (hok : gOk (gP (μ q) a) n) : zMet (d + 2) 0 yX9_giveOf cX9_giveOf 9 none TF μ [zR 110, zR q, zI (a : Int), zI (to : Int)] (zPv (fun ν => (∀ j, j < n → ν 119 (to + j) = gGv u (gP (μ q) a) n j) ∧ (∀ k, k ≠ 119 → ν k = μ k) ∧ (∀ i, (i < to ∨ to + n ≤ i) → ν 119 i = μ 119 i))) := by
  refine zMv_of RX9 rfl (by decide) rfl (ls := [some (zR 110), some (zR q), some (zI (a : Int)), some (zI (to : Int)), none, none, none, none, none]) rfl (fun hok0 => ?_)
  refine zA_aload_n dX9_giveOf_0 rfl ?_
  refine zA_getE (w := u - gS (gBs u (gP (μ q) a)) 0) fX9_163 t_110 dX9_giveOf_1 (by simp only [gS]; omega) ?_
  refine zA_istore (ls' := [some (zR 110), some (zR q), some (zI (a : Int)), some (zI (to : Int)), some (zI (u - gS (gBs u (gP (μ q) a)) 0)), none, none, none, none]) dX9_giveOf_4 rfl rfl ?_
  refine zA_iconst dX9_giveOf_6 rfl ?_
  refine zA_istore (ls' := [some (zR 110), some (zR q), some (zI (a : Int)), some (zI (to : Int)), some (zI (u - gS (gBs u (gP (μ q) a)) 0)), some (zI 0), none, none, none]) dX9_giveOf_7 rfl rfl ?_
  refine zA_iconst dX9_giveOf_9 rfl ?_
  refine zA_istore (ls' := [some (zR 110), some (zR q), some (zI (a : Int)), some (zI (to : Int)), some (zI (u - gS (gBs u (gP (μ q) a)) 0)), some (zI 0), some (zI 0), none, none]) dX9_giveOf_10 rfl rfl ?_
  exact l_X9_giveOf1 d μ q a to n rl u hq hrl hq119 hto hn h5 hu hu1 ha hok _ 0 rfl (by omega) μ (fun j hj => by omega) ⟨fun _ _ => rfl, fun _ _ => rfl⟩
