/-! ===== the model reads: a coat, the day ===== -/
def txCt (x : Nat → Int) (L n a : Nat) : Int × Nat := txB (txXs x L a n) (fun b => if gS (txXv x L a) n = 60 then (0, b) else (4, txS x L (txXb x L a (n - 1))))
theorem txCoat_2 {x : Nat → Int} {L n a : Nat} : txCoat x L n a = txB (txCt x L n a) (fun b => txG x L 59 b) := by
  unfold txCoat txCt
  by_cases h : (txXs x L a n).1 = 0
  · rw [txB_0 h, txB_0 h]
    split
    · rfl
    · rfl
  · rw [txB_n h, txB_n h, txB_n h]
theorem txCt_rg {x : Nat → Int} {L n a : Nat} : oR (txCt x L n a) := by
  unfold txCt
  refine txB_rg (txXs_rg _) (fun b => ?_)
  split
  · exact ⟨Int.le_refl _, by show (0 : Int) ≤ 4; decide⟩
  · exact ⟨by show (0 : Int) ≤ 4; decide, Int.le_refl _⟩
theorem txCt_n {x : Nat → Int} {L n p k : Nat} (h : (txXs x L p k).1 ≠ 0) (hk : k ≤ n) : txCt x L n p = txXs x L p k := by
  unfold txCt
  rw [txXs_st h n hk, txB_n h]
def mX (μ ν : zM) (x : Nat → Int) (L p m c : Nat) : Prop := hR μ ν ∧ (∀ i, 15 < i → ν 110 i = μ 110 i) ∧ ν 117 = μ 117 ∧ ν 118 = μ 118 ∧ (∀ j, j < c → ν 116 (m * 5 + j) = txXv x L p j) ∧ (∀ i, i / 5 ≠ m → ν 116 i = μ 116 i)
theorem mX.h8 {μ ν ξ : zM} {x : Nat → Int} {L p m c : Nat} (h : mX μ ν x L p m c) (h' : h8 ν ξ) : mX μ ξ x L p m c := by
  obtain ⟨a1, a2, a3, a4, a5, a6⟩ := h
  exact ⟨a1.trans h'.hR, fun i hi => by rw [h'.2 i (by omega)]; exact a2 i hi, by rw [h'.1 117 (by decide)]; exact a3, by rw [h'.1 118 (by decide)]; exact a4, by rw [h'.1 116 (by decide)]; exact a5, by rw [h'.1 116 (by decide)]; exact a6⟩
theorem mX.put {μ ν : zM} {x : Nat → Int} {L p m c : Nat} (h : mX μ ν x L p m c) (hc : c < 5) : mX μ (zup ν 116 (5 * m + c) (txXv x L p c)) x L p m (c + 1) := by
  obtain ⟨a1, a2, a3, a4, a5, a6⟩ := h
  refine ⟨hR_up (by decide) a1, fun i hi => a2 i hi, a3, a4, fun j hj => ?_, fun i hi => ?_⟩
  · by_cases e : j = c
    · subst e
      rw [Nat.mul_comm 5 m, zup_s]
    · rw [zup_n (by omega)]
      exact a5 j (by omega)
  · rw [zup_n (by omega)]
    exact a6 i hi
theorem mX.md {μ ν : zM} {x : Nat → Int} {L p n m t : Nat} {u g dg : Int} {ow fi se : Nat → Int} (h : mX μ ν x L p m n) (hD : mD μ n u m g dg t ow fi se) : mD (zup ν 110 18 (m + 1)) n u (m + 1) g dg t (fun i => if i / 5 = m then txXv x L p (i % 5) else ow i) fi se := by
  obtain ⟨a1, a2, a3, a4, a5, a6⟩ := h
  obtain ⟨d1, d2, d3, d4, d5, d6, d7, d8⟩ := hD
  refine ⟨by rw [zup_n (by decide), a2 16 (by decide)]; exact d1, by rw [zup_n (by decide), a2 17 (by decide)]; exact d2, by rw [zup_s]; rfl, by rw [zup_n (by decide), a2 20 (by decide)]; exact d4, by rw [zup_n (by decide), a2 21 (by decide)]; exact d5, by rw [zup_n (by decide), a2 22 (by decide)]; exact d6, fun i hi => ?_, fun k hk => ?_⟩
  · rw [zup_k (by decide)]
    by_cases e : i / 5 = m
    · show _ = if i / 5 = m then txXv x L p (i % 5) else ow i
      rw [if_pos e, ← a5 (i % 5) hi.2, show m * 5 + i % 5 = i by omega]
    · show _ = if i / 5 = m then txXv x L p (i % 5) else ow i
      rw [if_neg e, a6 i e]
      exact d7 i (by omega)
  · rw [zup_k (by decide), zup_k (by decide), a3, a4]
    exact d8 k hk
theorem x_X9_takeCoat (d : Nat) (μ : zM) (x : Nat → Int) (L a n m t : Nat) (u g dg : Int) (ow fi se : Nat → Int) (hT : mT μ x L) (hD : mD μ n u m g dg t ow fi se) (hn5 : n ≤ 5) (hn2 : 1 ≤ n) (hm6 : m < 6) (c : Nat) (hcn : c < n) (ν ν0 : zM) (v : Int) (o : Int × Nat) (hf : hR μ ν) (h16 : ν 110 16 = n) (h18 : ν 110 18 = m) (hv : v ≠ 0) (hv0 : 0 ≤ v) (ho : txCt x L n a = o) (h' : mO ν0 ν v o) (f0 : Option zV) : zA RX9 cX9_takeCoat 4 (zRm (d + 3) 0) zN0 TF 0 ν 48 [some (zR 110), some (zI (gS (txXv x L a) c)), f0, some (zI (c : Int))] [zI v] (zPi (fun v ν => hR μ ν ∧ mO μ ν v (txCt x L n a) ∧ (v = 0 → mD ν n u (m + 1) g dg t (fun i => if i / 5 = m then txXv x L a (i % 5) else ow i) fi se))) := by
  refine zA_istore_n (ls' := [some (zR 110), some (zI (gS (txXv x L a) c)), some (zI v), some (zI (c : Int))]) dX9_takeCoat_48 rfl rfl ?_
  refine zA_aload_n dX9_takeCoat_49 rfl ?_
  refine zA_getR fX9_29 t_110 rfl dX9_takeCoat_50 ?_
  refine zA_iconst dX9_takeCoat_53 rfl ?_
  refine zA_aload_n dX9_takeCoat_54 rfl ?_
  refine zA_getE (w := (m : Int)) fX9_128 t_110 dX9_takeCoat_55 h18 ?_
  refine zA_imulB dX9_takeCoat_58 ⟨by omega, by omega⟩ ?_
  refine zA_iload_n dX9_takeCoat_59 rfl ?_
  refine zA_iaddB dX9_takeCoat_60 ⟨by omega, by omega⟩ ?_
  refine zA_aload_n dX9_takeCoat_61 rfl ?_
  refine zA_getI fX9_112 t_110 dX9_takeCoat_62 ?_
  refine zA_iasE (j := 5 * m + c) t_116 (by omega) (by omega) dX9_takeCoat_65 rfl ?_
  refine zA_iload_n dX9_takeCoat_66 rfl ?_
  refine zA_aload_n dX9_takeCoat_67 rfl ?_
  refine zA_getE (w := ν 110 14) fX9_112 t_110 dX9_takeCoat_68 (by rw [zup_k (by decide)]) ?_
  refine zA_iadd dX9_takeCoat_71 ?_
  refine zA_istore_n (ls' := [some (zR 110), some (zI (zwi ((gS (txXv x L a) c) + (ν 110 14)))), some (zI v), some (zI (c : Int))]) dX9_takeCoat_72 rfl rfl ?_
  refine zA_iincB (ls' := [some (zR 110), some (zI (zwi ((gS (txXv x L a) c) + (ν 110 14)))), some (zI v), some (zI ((c : Int) + 1))]) dX9_takeCoat_73 rfl rfl ⟨by omega, by omega⟩ rfl ?_
  refine zA_goto (tgt := 6) dX9_takeCoat_76 rfl ?_
  refine zA_iload_n dX9_takeCoat_6 rfl ?_
  refine zA_aload_n dX9_takeCoat_7 rfl ?_
  refine zA_getE (w := (n : Int)) fX9_118 t_110 dX9_takeCoat_8 (by rw [zup_k (by decide)]; exact h16) ?_
  refine zA_icmp_ge (tgt := 79) dX9_takeCoat_11 rfl (fun h11 => ?_) (fun h11 => ?_)
  · refine zA_aload_n dX9_takeCoat_79 rfl ?_
    refine zA_dup dX9_takeCoat_80 rfl ?_
    refine zA_getE (w := (m : Int)) fX9_128 t_110 dX9_takeCoat_81 (by rw [zup_k (by decide)]; exact h18) ?_
    refine zA_iconst dX9_takeCoat_84 rfl ?_
    refine zA_iaddB dX9_takeCoat_85 ⟨by omega, by omega⟩ ?_
    refine zA_putI wX9_128 t_110 dX9_takeCoat_86 ?_
    refine zA_iload_n dX9_takeCoat_89 rfl ?_
    refine zA_if_le (tgt := 97) dX9_takeCoat_90 rfl (fun h90 => False.elim (by omega)) fun h90 => ?_
    refine zA_iload_n dX9_takeCoat_93 rfl ?_
    refine zA_goto (tgt := 116) dX9_takeCoat_94 rfl ?_
    exact zA_ri dX9_takeCoat_116 ⟨hR_u (by decide) (hR_up (by decide) (hf)), mO_v (mO_f ho (mO_1 h' hv) h') rfl rfl, fun e => absurd e hv⟩
  · refine zA_iload_n dX9_takeCoat_14 rfl ?_
    refine zA_if_ne (tgt := 79) dX9_takeCoat_15 rfl (fun h15 => ?_) (fun h15 => False.elim (by omega))
    refine zA_aload_n dX9_takeCoat_79 rfl ?_
    refine zA_dup dX9_takeCoat_80 rfl ?_
    refine zA_getE (w := (m : Int)) fX9_128 t_110 dX9_takeCoat_81 (by rw [zup_k (by decide)]; exact h18) ?_
    refine zA_iconst dX9_takeCoat_84 rfl ?_
    refine zA_iaddB dX9_takeCoat_85 ⟨by omega, by omega⟩ ?_
    refine zA_putI wX9_128 t_110 dX9_takeCoat_86 ?_
    refine zA_iload_n dX9_takeCoat_89 rfl ?_
    refine zA_if_le (tgt := 97) dX9_takeCoat_90 rfl (fun h90 => False.elim (by omega)) fun h90 => ?_
    refine zA_iload_n dX9_takeCoat_93 rfl ?_
    refine zA_goto (tgt := 116) dX9_takeCoat_94 rfl ?_
    exact zA_ri dX9_takeCoat_116 ⟨hR_u (by decide) (hR_up (by decide) (hf)), mO_v (mO_f ho (mO_1 h' hv) h') rfl rfl, fun e => absurd e hv⟩
theorem b_X9_takeCoat (d : Nat) (μ : zM) (x : Nat → Int) (L a n m t : Nat) (u g dg : Int) (ow fi se : Nat → Int) (hT : mT μ x L) (hD : mD μ n u m g dg t ow fi se) (hn5 : n ≤ 5) (hn2 : 1 ≤ n) (hm6 : m < 6) (c : Nat) (hcn : c < n) (ν : zM) (hX : mX μ ν x L a m c) (h5 : ν 110 13 = (txXb x L a c : Nat)) (h12 : ν 110 12 = μ 110 12) (hbL : txXb x L a c ≤ L) (hp : a ≤ L) (h0 : (txXs x L a c).1 = 0) (hg : c = 0 ∨ (txG x L 44 (txXs x L a c).2).1 = 0)
    (K : ∀ ξ : zM, mX μ ξ x L a m (c + 1) → ξ 110 13 = (txXs x L a (c + 1)).2 → (txXs x L a (c + 1)).1 = 0 → ξ 110 15 = (txS x L (txXb x L a c) : Int) → ξ 110 12 = μ 110 12 → zA RX9 cX9_takeCoat 4 (zRm (d + 3) 0) zN0 TF 0 ξ 6 [some (zR 110), some (zI (gS (txXv x L a) (c + 1))), some (zI 0), some (zI ((c : Int) + 1))] [] (zPi (fun v ν => hR μ ν ∧ mO μ ν v (txCt x L n a) ∧ (v = 0 → mD ν n u (m + 1) g dg t (fun i => if i / 5 = m then txXv x L a (i % 5) else ow i) fi se)))) : zA RX9 cX9_takeCoat 4 (zRm (d + 3) 0) zN0 TF 0 ν 41 [some (zR 110), some (zI (gS (txXv x L a) c)), some (zI 0), some (zI (c : Int))] [] (zPi (fun v ν => hR μ ν ∧ mO μ ν v (txCt x L n a) ∧ (v = 0 → mD ν n u (m + 1) g dg t (fun i => if i / 5 = m then txXv x L a (i % 5) else ow i) fi se))) := by
  have hL := hT.2.1
  have eN := txXs_s h0 hg
  have hsum := txXs_sum hp h0
  refine zA_aload_n dX9_takeCoat_41 rfl ?_
  refine zA_iconst dX9_takeCoat_42 rfl ?_
  refine zA_bipush dX9_takeCoat_43 rfl ?_
  refine zA_cVi (st := []) kX9_115 t_110 rfl rfl (c_X9_takeNumber d ν x L (txXb x L a c) 0 60 hbL (hX.1.mt hT) h5) rfl rfl rfl dX9_takeCoat_45 (zfit0 (by omega) rfl) (fun v1 μ1 q1 => ?_)
  obtain ⟨g1, o1, w1⟩ := q1
  by_cases hz : v1 = 0
  · have r1 := mO_0 o1 txN_rg (by omega)
    have n1 := txN_0 r1.1
    have n1v : 0 ≤ txXv x L a c ∧ txXv x L a c ≤ 60 := n1.1
    subst hz
    refine zA_istore_n (ls' := [some (zR 110), some (zI (gS (txXv x L a) c)), some (zI 0), some (zI (c : Int))]) dX9_takeCoat_48 rfl rfl ?_
    refine zA_aload_n dX9_takeCoat_49 rfl ?_
    refine zA_getR fX9_29 t_110 rfl dX9_takeCoat_50 ?_
    refine zA_iconst dX9_takeCoat_53 rfl ?_
    refine zA_aload_n dX9_takeCoat_54 rfl ?_
    refine zA_getE (w := (m : Int)) fX9_128 t_110 dX9_takeCoat_55 (by rw [(hX.h8 g1).2.1 18 (by decide)]; exact hD.2.2.1) ?_
    refine zA_imulB dX9_takeCoat_58 ⟨by omega, by omega⟩ ?_
    refine zA_iload_n dX9_takeCoat_59 rfl ?_
    refine zA_iaddB dX9_takeCoat_60 ⟨by omega, by omega⟩ ?_
    refine zA_aload_n dX9_takeCoat_61 rfl ?_
    refine zA_getE (w := txXv x L a c) fX9_112 t_110 dX9_takeCoat_62 (w1 r1.2.1).1 ?_
    refine zA_iasE (j := 5 * m + c) t_116 (by omega) (by omega) dX9_takeCoat_65 rfl ?_
    refine zA_iload_n dX9_takeCoat_66 rfl ?_
    refine zA_aload_n dX9_takeCoat_67 rfl ?_
    refine zA_getE (w := txXv x L a c) fX9_112 t_110 dX9_takeCoat_68 (by rw [zup_k (by decide)]; exact (w1 r1.2.1).1) ?_
    refine zA_iaddE (w := gS (txXv x L a) (c + 1)) dX9_takeCoat_71 ⟨by have : gS (txXv x L a) (c + 1) = gS (txXv x L a) c + txXv x L a c := rfl; omega, by have : gS (txXv x L a) (c + 1) = gS (txXv x L a) c + txXv x L a c := rfl; omega⟩ rfl ?_
    refine zA_istore_n (ls' := [some (zR 110), some (zI (gS (txXv x L a) (c + 1))), some (zI 0), some (zI (c : Int))]) dX9_takeCoat_72 rfl rfl ?_
    refine zA_iincB (ls' := [some (zR 110), some (zI (gS (txXv x L a) (c + 1))), some (zI 0), some (zI ((c : Int) + 1))]) dX9_takeCoat_73 rfl rfl ⟨by omega, by omega⟩ rfl ?_
    refine zA_goto (tgt := 6) dX9_takeCoat_76 rfl ?_
    exact K _ (mX.put (hX.h8 g1) (by omega)) (by rw [eN]; exact r1.2.2.1) (by rw [eN]; exact r1.1) (w1 r1.2.1).2 (by show μ1 110 12 = _; rw [r1.2.2.2]; exact h12)
  · have hge : 0 ≤ v1 := by rw [o1.1]; exact txN_rg.1
    exact x_X9_takeCoat d μ x L a n m t u g dg ow fi se hT hD hn5 hn2 hm6 c hcn μ1 ν v1 _ (hX.h8 g1).1 (by rw [(hX.h8 g1).2.1 16 (by decide)]; exact hD.1) (by rw [(hX.h8 g1).2.1 18 (by decide)]; exact hD.2.2.1) hz hge (by rw [txCt_n (k := c + 1) (by rw [eN]; exact mO_1 o1 hz) (by omega), eN]) o1 _
theorem l_X9_takeCoat (d : Nat) (μ : zM) (x : Nat → Int) (L a n m t : Nat) (u g dg : Int) (ow fi se : Nat → Int) (hT : mT μ x L) (hD : mD μ n u m g dg t ow fi se) (hn5 : n ≤ 5) (hn2 : 1 ≤ n) (hm6 : m < 6) (hp : a ≤ L) : ∀ (t0 c : Nat), n - c = t0 → ∀ ν : zM, c ≤ n → mX μ ν x L a m c → ν 110 13 = (txXs x L a c).2 → (txXs x L a c).1 = 0 → (0 < c → ν 110 15 = (txS x L (txXb x L a (c - 1)) : Int)) → ν 110 12 = μ 110 12 → zA RX9 cX9_takeCoat 4 (zRm (d + 3) 0) zN0 TF 0 ν 6 [some (zR 110), some (zI (gS (txXv x L a) c)), some (zI 0), some (zI (c : Int))] [] (zPi (fun v ν => hR μ ν ∧ mO μ ν v (txCt x L n a) ∧ (v = 0 → mD ν n u (m + 1) g dg t (fun i => if i / 5 = m then txXv x L a (i % 5) else ow i) fi se))) := by
  intro t0
  induction t0 using Nat.strongRecOn with
  | ind t0 ih =>
    intro c hc ν hcn hX h5 h0 h7 h12
    have hL := hT.2.1
    have hsum := txXs_sum hp h0
    have hxL := (txXs_0 hp c h0).2.2
    refine zA_iload_n dX9_takeCoat_6 rfl ?_
    refine zA_aload_n dX9_takeCoat_7 rfl ?_
    refine zA_getE (w := (n : Int)) fX9_118 t_110 dX9_takeCoat_8 (by rw [hX.2.1 16 (by decide)]; exact hD.1) ?_
    refine zA_icmp_ge (tgt := 79) dX9_takeCoat_11 rfl (fun h11 => ?_) (fun h11 => ?_)
    · have ec : c = n := by omega
      have hX' : mX μ ν x L a m n := ec ▸ hX
      refine zA_aload_n dX9_takeCoat_79 rfl ?_
      refine zA_dup dX9_takeCoat_80 rfl ?_
      refine zA_getE (w := (m : Int)) fX9_128 t_110 dX9_takeCoat_81 (by rw [hX.2.1 18 (by decide)]; exact hD.2.2.1) ?_
      refine zA_iconst dX9_takeCoat_84 rfl ?_
      refine zA_iaddB dX9_takeCoat_85 ⟨by omega, by omega⟩ ?_
      refine zA_putI wX9_128 t_110 dX9_takeCoat_86 ?_
      refine zA_iload_n dX9_takeCoat_89 rfl ?_
      refine zA_if_le (tgt := 97) dX9_takeCoat_90 rfl (fun h90 => ?_) (fun h90 => False.elim (by omega))
      refine zA_iload_n dX9_takeCoat_97 rfl ?_
      refine zA_bipush dX9_takeCoat_98 rfl ?_
      refine zA_icmp_eq (tgt := 115) dX9_takeCoat_100 rfl (fun h100 => ?_) (fun h100 => ?_)
      · refine zA_iconst dX9_takeCoat_115 rfl ?_
        exact zA_ri dX9_takeCoat_116 ⟨hR_u (by decide) (hX.1), mO_s (w := (txXs x L a c).2) (by unfold txCt; rw [← ec, txB_0 h0, if_pos h100]) rfl h5 h12, fun _ => mX.md hX' hD⟩
      · refine zA_aload_n dX9_takeCoat_103 rfl ?_
        refine zA_iconst dX9_takeCoat_104 rfl ?_
        refine zA_aload_n dX9_takeCoat_105 rfl ?_
        refine zA_getE (w := (txS x L (txXb x L a (c - 1)) : Int)) fX9_109 t_110 dX9_takeCoat_106 (by rw [zup_n (by decide)]; exact (h7 (by omega))) ?_
        refine zA_cVi (st := []) kX9_105 t_110 rfl rfl (c_X9_fails (d + 1) (4) ((txS x L (txXb x L a (c - 1)) : Int)) (zup ν 110 18 ((m : Int) + 1))) rfl rfl rfl dX9_takeCoat_109 (zfit0 (by omega) rfl) (fun v1 μ1 q1 => ?_)
        obtain ⟨rfl, rfl⟩ := q1
        refine zA_goto (tgt := 116) dX9_takeCoat_112 rfl ?_
        exact zA_ri dX9_takeCoat_116 ⟨hR_u (by decide) (hR_u (by decide) (hX.1)), mO_g (f := 4) (w := txS x L (txXb x L a (c - 1))) (by unfold txCt; rw [← ec, txB_0 h0, if_neg h100]) (by decide) rfl (by rw [zup_s]), fun e => absurd e (by decide)⟩
    · refine zA_iload_n dX9_takeCoat_14 rfl ?_
      refine zA_if_ne (tgt := 79) dX9_takeCoat_15 rfl (fun h15 => False.elim (by omega)) fun h15 => ?_
      refine zA_iload_n dX9_takeCoat_18 rfl ?_
      refine zA_if_le (tgt := 31) dX9_takeCoat_19 rfl (fun h19 => ?_) (fun h19 => ?_)
      · refine zA_iconst dX9_takeCoat_31 rfl ?_
        refine zA_istore_n (ls' := [some (zR 110), some (zI (gS (txXv x L a) c)), some (zI 0), some (zI (c : Int))]) dX9_takeCoat_32 rfl rfl ?_
        refine zA_iload_n dX9_takeCoat_33 rfl ?_
        refine zA_if_le (tgt := 41) dX9_takeCoat_34 rfl (fun h34 => ?_) (fun h34 => False.elim (by omega))
        exact b_X9_takeCoat d μ x L a n m t u g dg ow fi se hT hD hn5 hn2 hm6 c (by omega) ν hX (by unfold txXb; rw [if_pos (by omega)]; exact h5) h12 (by unfold txXb; rw [if_pos (by omega)]; exact hxL) hp h0 (Or.inl (by omega)) (fun ξ k1 k2 k3 k4 k5 => ih _ (by omega) (c + 1) rfl ξ (by omega) k1 k2 k3 (fun _ => k4) k5)
      · refine zA_aload_n dX9_takeCoat_22 rfl ?_
        refine zA_bipush dX9_takeCoat_23 rfl ?_
        refine zA_cVi (st := []) kX9_124 t_110 rfl rfl (c_X9_sign d ν x L ((txXs x L a c).2) 44 hxL (hX.1.mt hT) h5) rfl rfl rfl dX9_takeCoat_25 (zfit0 (by omega) rfl) (fun v2 μ2 q2 => ?_)
        obtain ⟨g2, o2⟩ := q2
        refine zA_goto (tgt := 32) dX9_takeCoat_28 rfl ?_
        by_cases hz : v2 = 0
        · have r1 := mO_0 o2 txG_rg (by omega)
          subst hz
          refine zA_istore_n (ls' := [some (zR 110), some (zI (gS (txXv x L a) c)), some (zI 0), some (zI (c : Int))]) dX9_takeCoat_32 rfl rfl ?_
          refine zA_iload_n dX9_takeCoat_33 rfl ?_
          refine zA_if_le (tgt := 41) dX9_takeCoat_34 rfl (fun h34 => ?_) (fun h34 => False.elim (by omega))
          exact b_X9_takeCoat d μ x L a n m t u g dg ow fi se hT hD hn5 hn2 hm6 c (by omega) μ2 (hX.h8 g2) (by unfold txXb; rw [if_neg (by omega)]; exact r1.2.2.1) (by rw [r1.2.2.2]; exact h12) (by unfold txXb; rw [if_neg (by omega)]; exact (txG_0 (by decide) r1.1).2) hp h0 (Or.inr r1.1) (fun ξ k1 k2 k3 k4 k5 => ih _ (by omega) (c + 1) rfl ξ (by omega) k1 k2 k3 (fun _ => k4) k5)
        · have hge : 0 ≤ v2 := by rw [o2.1]; exact txG_rg.1
          refine zA_istore_n (ls' := [some (zR 110), some (zI (gS (txXv x L a) c)), some (zI v2), some (zI (c : Int))]) dX9_takeCoat_32 rfl rfl ?_
          refine zA_iload_n dX9_takeCoat_33 rfl ?_
          refine zA_if_le (tgt := 41) dX9_takeCoat_34 rfl (fun h34 => False.elim (by omega)) fun h34 => ?_
          refine zA_iload_n dX9_takeCoat_37 rfl ?_
          refine zA_goto (tgt := 48) dX9_takeCoat_38 rfl ?_
          exact x_X9_takeCoat d μ x L a n m t u g dg ow fi se hT hD hn5 hn2 hm6 c (by omega) μ2 ν v2 _ (hX.h8 g2).1 (by rw [(hX.h8 g2).2.1 16 (by decide)]; exact hD.1) (by rw [(hX.h8 g2).2.1 18 (by decide)]; exact hD.2.2.1) hz hge (by rw [txCt_n (k := c + 1) (by rw [txXs_g h0 (by omega) (mO_1 o2 hz)]; exact mO_1 o2 hz) (by omega), txXs_g h0 (by omega) (mO_1 o2 hz)]) o2 _
theorem c_X9_takeCoat (d : Nat) (μ : zM) (x : Nat → Int) (L a n m t : Nat) (u g dg : Int) (ow fi se : Nat → Int) (haL : a ≤ L) (hT : mT μ x L) (h5 : μ 110 13 = a) (hD : mD μ n u m g dg t ow fi se) (hn5 : n ≤ 5) (hn2 : 1 ≤ n) (hm6 : m < 6) : zMet (d + 3) 0 yX9_takeCoat cX9_takeCoat 4 (some .int) TF μ [zR 110] (zPi (fun v ν => hR μ ν ∧ mO μ ν v (txCt x L n a) ∧ (v = 0 → mD ν n u (m + 1) g dg t (fun i => if i / 5 = m then txXv x L a (i % 5) else ow i) fi se))) := by
  have hL := hT.2.1
  refine zMi_of RX9 rfl (by decide) rfl (ls := [some (zR 110), none, none, none]) rfl (fun hok => ?_)
  refine zA_iconst dX9_takeCoat_0 rfl ?_
  refine zA_istore_n (ls' := [some (zR 110), some (zI 0), none, none]) dX9_takeCoat_1 rfl rfl ?_
  refine zA_iconst dX9_takeCoat_2 rfl ?_
  refine zA_istore_n (ls' := [some (zR 110), some (zI 0), some (zI 0), none]) dX9_takeCoat_3 rfl rfl ?_
  refine zA_iconst dX9_takeCoat_4 rfl ?_
  refine zA_istore_n (ls' := [some (zR 110), some (zI 0), some (zI 0), some (zI 0)]) dX9_takeCoat_5 rfl rfl ?_
  have hX0 : mX μ μ x L a m 0 := ⟨hR.refl _, fun i hi => rfl, rfl, rfl, fun j hj => by omega, fun i hi => rfl⟩
  exact l_X9_takeCoat d μ x L a n m t u g dg ow fi se hT hD hn5 hn2 hm6 haL _ 0 rfl _ (by omega) hX0 h5 rfl (fun q => by omega) rfl
def txDy (x : Nat → Int) (L m a : Nat) : Int × Nat := txB (txTs x L m a (txTn x L m a 9 1)) (fun b => if txH x L b = 44 then (1, txS x L b) else (0, txS x L b))
theorem txDay_2 {x : Nat → Int} {L m a : Nat} : txDay x L m a = txB (txDy x L m a) (fun b => txG x L 59 b) := by
  unfold txDay txDy
  by_cases h : (txTs x L m a (txTn x L m a 9 1)).1 = 0
  · rw [txB_0 h, txB_0 h]
    split
    · next e =>
      show txG x L 59 _ = _
      rw [txG_n (by omega)]
      rfl
    · show txG x L 59 _ = txG x L 59 (txS x L _)
      rw [txG_sk]
  · rw [txB_n h, txB_n h, txB_n h]
theorem txDy_rg {x : Nat → Int} {L m a : Nat} : oR (txDy x L m a) := by
  unfold txDy
  refine txB_rg (txTs_rg _) (fun b => ?_)
  split
  · exact ⟨by show (0 : Int) ≤ 1; decide, by show (1 : Int) ≤ 4; decide⟩
  · exact ⟨Int.le_refl _, by show (0 : Int) ≤ 4; decide⟩
def mY (μ ν : zM) (x : Nat → Int) (L p m k : Nat) : Prop := hR μ ν ∧ ν 116 = μ 116 ∧ (∀ i, 15 < i → i ≠ 22 → ν 110 i = μ 110 i) ∧ (∀ j, j < k → ν 117 j = txTf x L m p j ∧ ν 118 j = txTg x L m p j)
theorem mY.h8 {μ ν ξ : zM} {x : Nat → Int} {L p m k : Nat} (h : mY μ ν x L p m k) (h' : h8 ν ξ) : mY μ ξ x L p m k := by
  obtain ⟨a1, a2, a3, a4⟩ := h
  exact ⟨a1.trans h'.hR, by rw [h'.1 116 (by decide)]; exact a2, fun i h1 h2 => by rw [h'.2 i (by omega)]; exact a3 i h1 h2, by rw [h'.1 117 (by decide), h'.1 118 (by decide)]; exact a4⟩
theorem mY.md {μ ν : zM} {x : Nat → Int} {L p n m t k : Nat} {u g dg : Int} {ow fi se : Nat → Int} (h : mY μ ν x L p m k) (h9 : ν 110 22 = k) (hD : mD μ n u m g dg t ow fi se) : mD ν n u m g dg k ow (txTf x L m p) (txTg x L m p) := by
  obtain ⟨a1, a2, a3, a4⟩ := h
  obtain ⟨d1, d2, d3, d4, d5, d6, d7, d8⟩ := hD
  exact ⟨by rw [a3 16 (by decide) (by decide)]; exact d1, by rw [a3 17 (by decide) (by decide)]; exact d2, by rw [a3 18 (by decide) (by decide)]; exact d3, by rw [a3 20 (by decide) (by decide)]; exact d4, by rw [a3 21 (by decide) (by decide)]; exact d5, h9, by rw [a2]; exact d7, a4⟩
theorem mY.fr {μ ν ξ : zM} {x : Nat → Int} {L p m k : Nat} (h : mY μ ν x L p m k) (h1 : (∀ q, q ≠ 110 → q ≠ 117 → q ≠ 118 → ξ q = ν q) ∧ ∀ i, (i < 12 ∨ (15 < i ∧ i ≠ 22)) → ξ 110 i = ν 110 i) : hR μ ξ := ⟨fun q q1 q2 q3 q4 => by rw [h1.1 q q1 q3 q4, h.1.1 q q1 q2 q3 q4], fun i hi => by rw [h1.2 i (by omega), h.1.2 i hi]⟩
theorem mY.put {μ ν ξ : zM} {x : Nat → Int} {L p m k : Nat} (h : mY μ ν x L p m k) (h1 : (∀ q, q ≠ 110 → q ≠ 117 → q ≠ 118 → ξ q = ν q) ∧ ∀ i, (i < 12 ∨ (15 < i ∧ i ≠ 22)) → ξ 110 i = ν 110 i) (h2 : (∀ j, ξ 117 j = if j = k then txTf x L m p k else ν 117 j) ∧ ∀ j, ξ 118 j = if j = k then txTg x L m p k else ν 118 j) : mY μ ξ x L p m (k + 1) := by
  refine ⟨h.fr h1, ?_, fun i hi hj => ?_, fun j hj => ?_⟩
  · rw [h1.1 116 (by decide) (by decide) (by decide)]
    exact h.2.1
  · rw [h1.2 i (by omega)]
    exact h.2.2.1 i hi hj
  · rw [h2.1 j, h2.2 j]
    by_cases e : j = k
    · subst e
      rw [if_pos rfl, if_pos rfl]
      exact ⟨rfl, rfl⟩
    · rw [if_neg e, if_neg e]
      exact h.2.2.2 j (by omega)
theorem l_X9_takeDay (d : Nat) (μ : zM) (x : Nat → Int) (L a n m t : Nat) (u g dg : Int) (ow fi se : Nat → Int) (hT : mT μ x L) (hD : mD μ n u m g dg t ow fi se) (hm6 : m ≤ 6) (hp : a ≤ L) : ∀ (t0 k : Nat), 10 - k = t0 → ∀ ν : zM, k ≤ 10 → 1 ≤ k → mY μ ν x L a m k → ν 110 22 = k → ν 110 13 = (txTs x L m a k).2 → ν 110 12 = μ 110 12 → (txTs x L m a k).1 = 0 → txTn x L m a (10 - k) k = (txTn x L m a 9 1) → zA RX9 cX9_takeDay 2 (zRm (d + 5) 0) zN0 TF 0 ν 5 [some (zR 110), some (zI 0)] [] (zPi (fun v ν => hR μ ν ∧ mO μ ν v (txDy x L m a) ∧ (v = 0 → mD ν n u m g dg (txTn x L m a 9 1) ow (txTf x L m a) (txTg x L m a)))) := by
  intro t0
  induction t0 using Nat.strongRecOn with
  | ind t0 ih =>
    intro k hk ν hk10 hk1 hY h9 h5 h12 h0 hTn
    have hL := hT.2.1
    have hkL := (txTs_0 (x := x) (L := L) (m := m) hp k h0).2.2
    have hsL := @txS_L x L (txTs x L m a k).2 hkL
    refine zA_iload_n dX9_takeDay_5 rfl ?_
    refine zA_if_ne (tgt := 55) dX9_takeDay_6 rfl (fun h6 => False.elim (by omega)) fun h6 => ?_
    refine zA_aload_n dX9_takeDay_9 rfl ?_
    refine zA_cVi (st := []) kX9_97 t_110 rfl rfl (c_X9_here (d + 3) ν x L ((txTs x L m a k).2) hkL (hY.1.mt hT) h5) rfl rfl rfl dX9_takeDay_10 (zfit0 (by omega) rfl) (fun v1 μ1 q1 => ?_)
    obtain ⟨rfl, rfl⟩ := q1
    refine zA_bipush dX9_takeDay_13 rfl ?_
    refine zA_icmp_ne (tgt := 55) dX9_takeDay_15 rfl (fun h15 => ?_) (fun h15 => ?_)
    · have hkT : (txTn x L m a 9 1) = k := by rw [← hTn]; exact txTn_no (fun q => h15 q.2)
      refine zA_iload_n dX9_takeDay_55 rfl ?_
      exact zA_ri dX9_takeDay_56 ⟨hR_u (by decide) (hY.1), mO_s (w := txS x L (txTs x L m a k).2) (by unfold txDy; rw [hkT, txB_0 h0, if_neg h15]) rfl (by rw [zup_s]) h12, fun _ => by rw [hkT]; exact (hY.h8 (h8.u (by decide))).md (by rw [zup_n (by decide)]; exact h9) hD⟩
    · refine zA_aload_n dX9_takeDay_18 rfl ?_
      refine zA_getE (w := (k : Int)) fX9_144 t_110 dX9_takeDay_19 (by rw [zup_n (by decide)]; exact h9) ?_
      refine zA_bipush dX9_takeDay_22 rfl ?_
      refine zA_icmp_ne (tgt := 37) dX9_takeDay_24 rfl (fun h24 => ?_) (fun h24 => ?_)
      · have eTb : txTb x L m a k = txS x L (txTs x L m a k).2 + 1 := by unfold txTb; rw [if_neg (by omega)]
        have hlt := txH_lt (x := x) (L := L) (a := (txTs x L m a k).2) (by omega)
        have eT := txTs_s h0
        have eTn := txTn_go (x := x) (L := L) (m := m) (a := a) (k := k) (by omega) h0 h15
        refine zA_aload_n dX9_takeDay_37 rfl ?_
        refine zA_dup dX9_takeDay_38 rfl ?_
        refine zA_getE (w := (txS x L ((txTs x L m a k).2) : Int)) fX9_94 t_110 dX9_takeDay_39 (by rw [zup_s]) ?_
        refine zA_iconst dX9_takeDay_42 rfl ?_
        refine zA_iaddB dX9_takeDay_43 ⟨by omega, by omega⟩ ?_
        refine zA_putI wX9_94 t_110 dX9_takeDay_44 ?_
        have hY' : mY μ (zup (zup ν 110 13 (txS x L (txTs x L m a k).2 : Int)) 110 13 ((txS x L (txTs x L m a k).2 : Int) + 1)) x L a m k := hY.h8 (h8_up (by decide) (h8.u (by decide)))
        refine zA_aload_n dX9_takeDay_47 rfl ?_
        refine zA_cVi (st := []) kX9_147 t_110 rfl rfl (c_X9_takeTouch d (zup (zup ν 110 13 ((txS x L ((txTs x L m a k).2) : Int))) 110 13 (((txS x L ((txTs x L m a k).2) : Int)) + 1)) x L ((txTb x L m a k)) m k (by rw [eTb]; exact hlt.1) (hY'.1.mt hT) (by rw [zup_s, eTb]; rfl) (by show ν 110 18 = _; rw [hY.2.2.1 18 (by decide) (by decide)]; exact hD.2.2.1) hm6 (by show ν 110 22 = _; exact h9) (by omega)) rfl rfl rfl dX9_takeDay_48 (zfit0 (by omega) rfl) (fun v2 μ2 q2 => ?_)
        obtain ⟨g2, o2, w2⟩ := q2
        by_cases hz : v2 = 0
        · have r1 := mO_0 o2 txTch_rg (by omega)
          subst hz
          refine zA_istore_n (ls' := [some (zR 110), some (zI 0)]) dX9_takeDay_51 rfl rfl ?_
          refine zA_goto (tgt := 5) dX9_takeDay_52 rfl ?_
          exact ih _ (by omega) (k + 1) rfl _ (by omega) (by omega) (mY.put hY' g2 (w2 rfl).2) (w2 rfl).1 (by rw [eT]; exact r1.2.2.1) (by rw [r1.2.2.2]; exact h12) (by rw [eT]; exact r1.1) (by rw [← eTn]; exact hTn)
        · skip
          refine zA_istore_n (ls' := [some (zR 110), some (zI v2)]) dX9_takeDay_51 rfl rfl ?_
          refine zA_goto (tgt := 5) dX9_takeDay_52 rfl ?_
          refine zA_iload_n dX9_takeDay_5 rfl ?_
          refine zA_if_ne (tgt := 55) dX9_takeDay_6 rfl (fun h6 => ?_) (fun h6 => False.elim (by omega))
          refine zA_iload_n dX9_takeDay_55 rfl ?_
          exact zA_ri dX9_takeDay_56 ⟨hY'.fr g2, mO_f (by unfold txDy; rw [← hTn, eTn, txTn_no (fun q => mO_1 o2 hz (eT ▸ q.1)), eT]; exact txB_n (mO_1 o2 hz)) (mO_1 o2 hz) o2, fun e => absurd e hz⟩
      · refine zA_aload_n dX9_takeDay_27 rfl ?_
        refine zA_iconst dX9_takeDay_28 rfl ?_
        refine zA_aload_n dX9_takeDay_29 rfl ?_
        refine zA_getE (w := (txS x L ((txTs x L m a k).2) : Int)) fX9_94 t_110 dX9_takeDay_30 (by rw [zup_s]) ?_
        refine zA_cVi (st := []) kX9_105 t_110 rfl rfl (c_X9_fails (d + 3) (1) ((txS x L ((txTs x L m a k).2) : Int)) (zup ν 110 13 ((txS x L ((txTs x L m a k).2) : Int)))) rfl rfl rfl dX9_takeDay_33 (zfit0 (by omega) rfl) (fun v3 μ3 q3 => ?_)
        obtain ⟨rfl, rfl⟩ := q3
        exact zA_ri dX9_takeDay_36 ⟨hR_u (by decide) (hR_u (by decide) (hY.1)), mO_g (f := 1) (w := txS x L (txTs x L m a k).2) (by unfold txDy; rw [show (txTn x L m a 9 1) = k by rw [← hTn, show k = 10 by omega]; rfl, txB_0 h0, if_pos h15]) (by decide) rfl (by rw [zup_s]), fun e => absurd e (by decide)⟩
theorem c_X9_takeDay (d : Nat) (μ : zM) (x : Nat → Int) (L a n m t : Nat) (u g dg : Int) (ow fi se : Nat → Int) (haL : a ≤ L) (hT : mT μ x L) (h5 : μ 110 13 = a) (hD : mD μ n u m g dg t ow fi se) (hm6 : m ≤ 6) (ht0 : t = 0) : zMet (d + 5) 0 yX9_takeDay cX9_takeDay 2 (some .int) TF μ [zR 110] (zPi (fun v ν => hR μ ν ∧ mO μ ν v (txDy x L m a) ∧ (v = 0 → mD ν n u m g dg (txTn x L m a 9 1) ow (txTf x L m a) (txTg x L m a)))) := by
  have hL := hT.2.1
  refine zMi_of RX9 rfl (by decide) rfl (ls := [some (zR 110), none]) rfl (fun hok => ?_)
  refine zA_aload_n dX9_takeDay_0 rfl ?_
  refine zA_cVi (st := []) kX9_147 t_110 rfl rfl (c_X9_takeTouch d μ x L a m 0 haL hT h5 hD.2.2.1 hm6 (by rw [hD.2.2.2.2.2.1, ht0]) (by omega)) rfl rfl rfl dX9_takeDay_1 (zfit0 (by omega) rfl) (fun v1 μ1 q1 => ?_)
  obtain ⟨g1, o1, w1⟩ := q1
  have hY0 : mY μ μ x L a m 0 := ⟨hR.refl _, rfl, fun i _ _ => rfl, fun j hj => by omega⟩
  have eT : txTs x L m a (0 + 1) = txTch x L m a := txTs_s rfl
  by_cases hz : v1 = 0
  · have r1 := mO_0 o1 txTch_rg (by omega)
    subst hz
    refine zA_istore_n (ls' := [some (zR 110), some (zI 0)]) dX9_takeDay_4 rfl rfl ?_
    exact l_X9_takeDay d μ x L a n m t u g dg ow fi se hT hD hm6 haL _ 1 rfl _ (by omega) (by omega) (mY.put hY0 g1 (w1 rfl).2) (w1 rfl).1 (by rw [eT]; exact r1.2.2.1) r1.2.2.2 (by rw [eT]; exact r1.1) rfl
  · skip
    refine zA_istore_n (ls' := [some (zR 110), some (zI v1)]) dX9_takeDay_4 rfl rfl ?_
    refine zA_iload_n dX9_takeDay_5 rfl ?_
    refine zA_if_ne (tgt := 55) dX9_takeDay_6 rfl (fun h6 => ?_) (fun h6 => False.elim (by omega))
    refine zA_iload_n dX9_takeDay_55 rfl ?_
    exact zA_ri dX9_takeDay_56 ⟨hY0.fr g1, mO_f (by unfold txDy; rw [txTn_no (fun q => mO_1 o1 hz (eT ▸ q.1)), eT]; exact txB_n (mO_1 o1 hz)) (mO_1 o1 hz) o1, fun e => absurd e hz⟩
