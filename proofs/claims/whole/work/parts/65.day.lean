/-! ===== the class reads: a coat, the day, a clause, the text ===== -/
theorem txXs_s {x : Nat → Int} {L p k : Nat} (h : (txXs x L p k).1 = 0) (h' : k = 0 ∨ (txG x L 44 (txXs x L p k).2).1 = 0) : txXs x L p (k + 1) = txN x L 0 60 (txXb x L p k) := by
  simp only [txXs]
  rw [txB_0 h]
  by_cases e : k = 0
  · rw [if_pos e, txB_0 rfl]
    unfold txXb
    rw [if_pos e]
  · rw [if_neg e, txB_0 (h'.resolve_left e)]
    unfold txXb
    rw [if_neg e]
theorem txXs_g {x : Nat → Int} {L p k : Nat} (h : (txXs x L p k).1 = 0) (hk : k ≠ 0) (h' : (txG x L 44 (txXs x L p k).2).1 ≠ 0) : txXs x L p (k + 1) = txG x L 44 (txXs x L p k).2 := by
  simp only [txXs]
  rw [txB_0 h, if_neg hk, txB_n h']
theorem txXs_st {x : Nat → Int} {L p k : Nat} (h : (txXs x L p k).1 ≠ 0) : ∀ n, k ≤ n → txXs x L p n = txXs x L p k
  | 0, hn => by rw [show k = 0 by omega]
  | n + 1, hn => by
    by_cases e : k = n + 1
    · rw [e]
    · have ih := txXs_st h n (by omega)
      simp only [txXs]
      rw [ih, txB_n h]
theorem txCoat_n {x : Nat → Int} {L n p k : Nat} (h : (txXs x L p k).1 ≠ 0) (hk : k ≤ n) : txCoat x L n p = txXs x L p k := by
  unfold txCoat
  rw [txXs_st h n hk, txB_n h]
theorem txXs_sum {x : Nat → Int} {L p : Nat} (hp : p ≤ L) {c : Nat} (h : (txXs x L p c).1 = 0) : 0 ≤ gS (txXv x L p) c ∧ gS (txXv x L p) c ≤ 60 * c := by
  have h0 := (txXs_0 hp c h).1
  clear h
  induction c with
  | zero => simp [gS]
  | succ c ih =>
    have i1 := ih (fun j hj => h0 j (by omega))
    have i2 := h0 c (by omega)
    simp only [gS]
    omega
def cX (μ ν : zM) (x : Nat → Int) (L p m c : Nat) : Prop := fR μ ν ∧ ν 9 = μ 9 ∧ ν 11 = μ 11 ∧ ν 12 = μ 12 ∧ (∀ j, j < c → ν 10 (m * 5 + j) = txXv x L p j) ∧ (∀ i, i / 5 ≠ m → ν 10 i = μ 10 i)
theorem cX.f8 {μ ν ξ : zM} {x : Nat → Int} {L p m c : Nat} (h : cX μ ν x L p m c) (h' : f8 ν ξ) : cX μ ξ x L p m c := by
  obtain ⟨a1, a2, a3, a4, a5, a6⟩ := h
  exact ⟨a1.trans h'.fR, by rw [h'.1 9 (by decide)]; exact a2, by rw [h'.1 11 (by decide)]; exact a3, by rw [h'.1 12 (by decide)]; exact a4, by rw [h'.1 10 (by decide)]; exact a5, by rw [h'.1 10 (by decide)]; exact a6⟩
theorem cX.put {μ ν : zM} {x : Nat → Int} {L p m c : Nat} (h : cX μ ν x L p m c) (hc : c < 5) : cX μ (zup ν 10 (m * 5 + c) (txXv x L p c)) x L p m (c + 1) := by
  obtain ⟨a1, a2, a3, a4, a5, a6⟩ := h
  refine ⟨fR_up (by decide) a1, a2, a3, a4, fun j hj => ?_, fun i hi => ?_⟩
  · by_cases e : j = c
    · subst e
      rw [zup_s]
    · rw [zup_n (by omega)]
      exact a5 j (by omega)
  · rw [zup_n (by omega)]
    exact a6 i hi
theorem cX.cd {μ ν : zM} {x : Nat → Int} {L p n m t : Nat} {u g dg : Int} {ow fi se : Nat → Int} (h : cX μ ν x L p m n) (hD : cD μ n u m g dg t ow fi se) : cD (zup ν 9 8 (m + 1)) n u (m + 1) g dg t (fun i => if i / 5 = m then txXv x L p (i % 5) else ow i) fi se := by
  obtain ⟨a1, a2, a3, a4, a5, a6⟩ := h
  obtain ⟨d1, d2, d3, d4, d5, d6, d7, d8⟩ := hD
  refine ⟨by rw [zup_n (by decide), a2]; exact d1, by rw [zup_n (by decide), a2]; exact d2, by rw [zup_s]; rfl, by rw [zup_n (by decide), a2]; exact d4, by rw [zup_n (by decide), a2]; exact d5, by rw [zup_n (by decide), a2]; exact d6, fun i hi => ?_, fun k hk => ?_⟩
  · rw [zup_k (by decide)]
    by_cases e : i / 5 = m
    · show _ = if i / 5 = m then txXv x L p (i % 5) else ow i
      rw [if_pos e, ← a5 (i % 5) hi.2, show m * 5 + i % 5 = i by omega]
    · show _ = if i / 5 = m then txXv x L p (i % 5) else ow i
      rw [if_neg e, a6 i e]
      exact d7 i (by omega)
  · rw [zup_k (by decide), zup_k (by decide), a3, a4]
    exact d8 k hk
theorem b_X5_readCoat (d : Nat) (μ : zM) (x : Nat → Int) (L a n m t : Nat) (u g dg : Int) (ow fi se : Nat → Int) (hT : cT μ x L) (hD : cD μ n u m g dg t ow fi se) (hn5 : n ≤ 5) (hn2 : 1 ≤ n) (hm6 : m ≤ 6) (hmn : m ≠ 6) (c : Nat) (hcn : c < n) (ν : zM) (hX : cX μ ν x L (a + 1) m c) (h5 : ν 8 5 = (txXb x L (a + 1) c : Nat)) (hbL : txXb x L (a + 1) c ≤ L) (hp : a + 1 ≤ L) (h0 : (txXs x L (a + 1) c).1 = 0) (hg : c = 0 ∨ (txG x L 44 (txXs x L (a + 1) c).2).1 = 0)
    (K : ∀ ξ : zM, cX μ ξ x L (a + 1) m (c + 1) → ξ 8 5 = (txXs x L (a + 1) (c + 1)).2 → (txXs x L (a + 1) (c + 1)).1 = 0 → ξ 8 7 = (txS x L (txXb x L (a + 1) c) : Int) → zA RX5 cX5_readCoat 3 (zRm (d + 3) 0) zN0 TF 0 ξ 36 [some (zR 8), some (zI (gS (txXv x L (a + 1)) (c + 1))), some (zI ((c : Int) + 1))] [] (zPb (fun b ν => fR μ ν ∧ cO ν b (if m = 6 then (3, a) else txCoat x L n (a + 1)) ∧ (b = true → cD ν n u (m + 1) g dg t (fun i => if i / 5 = m then txXv x L (a + 1) (i % 5) else ow i) fi se)))) : zA RX5 cX5_readCoat 3 (zRm (d + 3) 0) zN0 TF 0 ν 60 [some (zR 8), some (zI (gS (txXv x L (a + 1)) c)), some (zI (c : Int))] [] (zPb (fun b ν => fR μ ν ∧ cO ν b (if m = 6 then (3, a) else txCoat x L n (a + 1)) ∧ (b = true → cD ν n u (m + 1) g dg t (fun i => if i / 5 = m then txXv x L (a + 1) (i % 5) else ow i) fi se))) := by
  have hL := hT.2.1
  have eN := txXs_s h0 hg
  have hsum := txXs_sum hp h0
  refine zA_aload_n dX5_readCoat_60 rfl ?_
  refine zA_iconst dX5_readCoat_61 rfl ?_
  refine zA_bipush dX5_readCoat_62 rfl ?_
  refine zA_cVb (st := []) kX5_66 t_8 rfl rfl (c_X5_readNumber d ν x L (txXb x L (a + 1) c) 0 60 hbL (hT.fR hX.1) h5) rfl rfl rfl dX5_readCoat_64 (zfit0 (by omega) rfl) (fun v1 μ1 q1 => ?_)
  obtain ⟨g1, o1, w1⟩ := q1
  refine zA_ifb_ne (tgt := 72) dX5_readCoat_67 rfl (fun h67 => ?_) (fun h67 => ?_)
  · have r1 := o1.1 h67
    have n1 := txN_0 r1.1
    have n1v : 0 ≤ txXv x L (a + 1) c ∧ txXv x L (a + 1) c ≤ 60 := n1.1
    refine zA_aload_n dX5_readCoat_72 rfl ?_
    refine zA_getR fX5_12 t_8 rfl dX5_readCoat_73 ?_
    refine zA_getR fX5_82 t_9 rfl dX5_readCoat_76 ?_
    refine zA_aload_n dX5_readCoat_79 rfl ?_
    refine zA_getR fX5_12 t_8 rfl dX5_readCoat_80 ?_
    refine zA_getE (w := (m : Int)) fX5_79 t_9 dX5_readCoat_83 (by rw [(hX.f8 g1).2.1]; exact hD.2.2.1) ?_
    refine zA_iload_n dX5_readCoat_86 rfl ?_
    refine zA_cNi (st := [zR 10]) kX5_85 (c_X8_cell (d + 1) ((m : Int)) ((c : Int)) μ1 (by omega) (by omega)) rfl rfl rfl dX5_readCoat_87 (zfit0 (by omega) rfl) (fun v2 μ2 q2 => ?_)
    obtain ⟨rfl, rfl⟩ := q2
    refine zA_aload_n dX5_readCoat_90 rfl ?_
    refine zA_getE (w := txXv x L (a + 1) c) fX5_69 t_8 dX5_readCoat_91 (w1 h67).1 ?_
    refine zA_iasE (j := m * 5 + c) t_10 (by omega) (by omega) dX5_readCoat_94 rfl ?_
    refine zA_iload_n dX5_readCoat_95 rfl ?_
    refine zA_aload_n dX5_readCoat_96 rfl ?_
    refine zA_getE (w := txXv x L (a + 1) c) fX5_69 t_8 dX5_readCoat_97 (by rw [zup_k (by decide)]; exact (w1 h67).1) ?_
    refine zA_iaddE (w := gS (txXv x L (a + 1)) (c + 1)) dX5_readCoat_100 ⟨by have : gS (txXv x L (a + 1)) (c + 1) = gS (txXv x L (a + 1)) c + txXv x L (a + 1) c := rfl; omega, by have : gS (txXv x L (a + 1)) (c + 1) = gS (txXv x L (a + 1)) c + txXv x L (a + 1) c := rfl; omega⟩ rfl ?_
    refine zA_istore_n (ls' := [some (zR 8), some (zI (gS (txXv x L (a + 1)) (c + 1))), some (zI (c : Int))]) dX5_readCoat_101 rfl rfl ?_
    refine zA_iincB (ls' := [some (zR 8), some (zI (gS (txXv x L (a + 1)) (c + 1))), some (zI ((c : Int) + 1))]) dX5_readCoat_102 rfl rfl ⟨by omega, by omega⟩ rfl ?_
    refine zA_goto (tgt := 36) dX5_readCoat_105 rfl ?_
    exact K _ (cX.put (hX.f8 g1) (by omega)) (by rw [eN]; exact r1.2) (by rw [eN]; exact r1.1) (w1 h67).2
  · refine zA_iconst dX5_readCoat_70 rfl ?_
    exact zA_rb (b := false) dX5_readCoat_71 rfl ⟨(hX.f8 g1).1, cO_e (by rw [if_neg hmn, txCoat_n (k := c + 1) (by rw [eN]; exact ((h67 ▸ o1 : cO μ1 false _).2 rfl).1) (by omega), eN]) (h67 ▸ o1), fun e => by cases e⟩
theorem l_X5_readCoat (d : Nat) (μ : zM) (x : Nat → Int) (L a n m t : Nat) (u g dg : Int) (ow fi se : Nat → Int) (hT : cT μ x L) (hD : cD μ n u m g dg t ow fi se) (hn5 : n ≤ 5) (hn2 : 1 ≤ n) (hm6 : m ≤ 6) (hmn : m ≠ 6) (hp : a + 1 ≤ L) : ∀ (t0 c : Nat), n - c = t0 → ∀ ν : zM, c ≤ n → cX μ ν x L (a + 1) m c → ν 8 5 = (txXs x L (a + 1) c).2 → (txXs x L (a + 1) c).1 = 0 → (0 < c → ν 8 7 = (txS x L (txXb x L (a + 1) (c - 1)) : Int)) → zA RX5 cX5_readCoat 3 (zRm (d + 3) 0) zN0 TF 0 ν 36 [some (zR 8), some (zI (gS (txXv x L (a + 1)) c)), some (zI (c : Int))] [] (zPb (fun b ν => fR μ ν ∧ cO ν b (if m = 6 then (3, a) else txCoat x L n (a + 1)) ∧ (b = true → cD ν n u (m + 1) g dg t (fun i => if i / 5 = m then txXv x L (a + 1) (i % 5) else ow i) fi se))) := by
  intro t0
  induction t0 using Nat.strongRecOn with
  | ind t0 ih =>
    intro c hc ν hcn hX h5 h0 h7
    have hL := hT.2.1
    have hsum := txXs_sum hp h0
    have hxL := (txXs_0 hp c h0).2.2
    refine zA_iload_n dX5_readCoat_36 rfl ?_
    refine zA_aload_n dX5_readCoat_37 rfl ?_
    refine zA_getR fX5_12 t_8 rfl dX5_readCoat_38 ?_
    refine zA_getE (w := (n : Int)) fX5_44 t_9 dX5_readCoat_41 (by rw [hX.2.1]; exact hD.1) ?_
    refine zA_icmp_ge (tgt := 108) dX5_readCoat_44 rfl (fun h44 => ?_) (fun h44 => ?_)
    · have ec : c = n := by omega
      have hX' : cX μ ν x L (a + 1) m n := ec ▸ hX
      refine zA_iload_n dX5_readCoat_108 rfl ?_
      refine zA_bipush dX5_readCoat_109 rfl ?_
      refine zA_icmp_eq (tgt := 124) dX5_readCoat_111 rfl (fun h111 => ?_) (fun h111 => ?_)
      · refine zA_aload_n dX5_readCoat_124 rfl ?_
        refine zA_getR fX5_12 t_8 rfl dX5_readCoat_125 ?_
        refine zA_dup dX5_readCoat_128 rfl ?_
        refine zA_getE (w := (m : Int)) fX5_79 t_9 dX5_readCoat_129 (by rw [hX.2.1]; exact hD.2.2.1) ?_
        refine zA_iconst dX5_readCoat_132 rfl ?_
        refine zA_iaddB dX5_readCoat_133 ⟨by omega, by omega⟩ ?_
        refine zA_putI wX5_79 t_9 dX5_readCoat_134 ?_
        refine zA_aload_n dX5_readCoat_137 rfl ?_
        refine zA_bipush dX5_readCoat_138 rfl ?_
        refine zA_cVb (st := []) kX5_75 t_8 rfl rfl (c_X5_readSign d (zup ν 9 8 ((m : Int) + 1)) x L ((txXs x L (a + 1) c).2) 59 hxL (hT.fR (fR_up (by decide) hX.1)) (by show ν 8 5 = _; exact h5)) rfl rfl rfl dX5_readCoat_140 (zfit0 (by omega) rfl) (fun v1 μ1 q1 => ?_)
        obtain ⟨g1, o1⟩ := q1
        exact zA_rb (b := v1) dX5_readCoat_143 rfl ⟨(fR_up (by decide) hX.1).trans g1.fR, cO_e (by rw [if_neg hmn]; unfold txCoat; rw [← ec, txB_0 h0, if_pos h111]) o1, fun _ => (cX.cd hX' hD).f8 g1⟩
      · refine zA_aload_n dX5_readCoat_114 rfl ?_
        refine zA_aload_n dX5_readCoat_115 rfl ?_
        refine zA_getE (w := (txS x L (txXb x L (a + 1) (c - 1)) : Int)) fX5_89 t_8 dX5_readCoat_116 (h7 (by omega)) ?_
        refine zA_iconst dX5_readCoat_119 rfl ?_
        refine zA_cVb (st := []) kX5_47 t_8 rfl rfl (c_X5_failAt (d + 1) ((txS x L (txXb x L (a + 1) (c - 1)) : Int)) (4) ν) rfl rfl rfl dX5_readCoat_120 (zfit0 (by omega) rfl) (fun v2 μ2 q2 => ?_)
        obtain ⟨rfl, rfl⟩ := q2
        exact zA_rb (b := false) dX5_readCoat_123 rfl ⟨fR_u8 (by decide) (fR_u8 (by decide) (hX.1)), cO_g (f := 4) (w := txS x L (txXb x L (a + 1) (c - 1))) (by rw [if_neg hmn]; unfold txCoat; rw [← ec, txB_0 h0, if_neg h111]) (by decide) rfl rfl, fun e => by cases e⟩
    · refine zA_iload_n dX5_readCoat_47 rfl ?_
      refine zA_if_le (tgt := 60) dX5_readCoat_48 rfl (fun h48 => ?_) (fun h48 => ?_)
      · exact b_X5_readCoat d μ x L a n m t u g dg ow fi se hT hD hn5 hn2 hm6 hmn c (by omega) ν hX (by unfold txXb; rw [if_pos (by omega)]; exact h5) (by unfold txXb; rw [if_pos (by omega)]; exact hxL) hp h0 (Or.inl (by omega)) (fun ξ k1 k2 k3 k4 => ih _ (by omega) (c + 1) rfl ξ (by omega) k1 k2 k3 (fun _ => k4))
      · refine zA_aload_n dX5_readCoat_51 rfl ?_
        refine zA_bipush dX5_readCoat_52 rfl ?_
        refine zA_cVb (st := []) kX5_75 t_8 rfl rfl (c_X5_readSign d ν x L ((txXs x L (a + 1) c).2) 44 hxL (hT.fR hX.1) h5) rfl rfl rfl dX5_readCoat_54 (zfit0 (by omega) rfl) (fun v3 μ3 q3 => ?_)
        obtain ⟨g3, o3⟩ := q3
        refine zA_ifb_eq (tgt := 70) dX5_readCoat_57 rfl (fun h57 => ?_) (fun h57 => ?_)
        · refine zA_iconst dX5_readCoat_70 rfl ?_
          exact zA_rb (b := false) dX5_readCoat_71 rfl ⟨(hX.f8 g3).1, cO_e (by rw [if_neg hmn, txCoat_n (k := c + 1) (by rw [txXs_g h0 (by omega) ((h57 ▸ o3 : cO μ3 false _).2 rfl).1]; exact ((h57 ▸ o3 : cO μ3 false _).2 rfl).1) (by omega), txXs_g h0 (by omega) ((h57 ▸ o3 : cO μ3 false _).2 rfl).1]) (h57 ▸ o3), fun e => by cases e⟩
        · exact b_X5_readCoat d μ x L a n m t u g dg ow fi se hT hD hn5 hn2 hm6 hmn c (by omega) μ3 (hX.f8 g3) (by unfold txXb; rw [if_neg (by omega)]; exact (o3.1 h57).2) (by unfold txXb; rw [if_neg (by omega)]; exact (txG_0 (by decide) (o3.1 h57).1).2) hp h0 (Or.inr (o3.1 h57).1) (fun ξ k1 k2 k3 k4 => ih _ (by omega) (c + 1) rfl ξ (by omega) k1 k2 k3 (fun _ => k4))
theorem c_X5_readCoat (d : Nat) (μ : zM) (x : Nat → Int) (L a n m t : Nat) (u g dg : Int) (ow fi se : Nat → Int) (haL : a < L) (hT : cT μ x L) (h5 : μ 8 5 = a) (hD : cD μ n u m g dg t ow fi se) (hn5 : n ≤ 5) (hn2 : 1 ≤ n) (hm6 : m ≤ 6) : zMet (d + 3) 0 yX5_readCoat cX5_readCoat 3 (some .boolean) TF μ [zR 8] (zPb (fun b ν => fR μ ν ∧ cO ν b (if m = 6 then (3, a) else txCoat x L n (a + 1)) ∧ (b = true → cD ν n u (m + 1) g dg t (fun i => if i / 5 = m then txXv x L (a + 1) (i % 5) else ow i) fi se))) := by
  have hL := hT.2.1
  refine zMb_of RX5 rfl (by decide) rfl (ls := [some (zR 8), none, none]) rfl (fun hok => ?_)
  refine zA_aload_n dX5_readCoat_0 rfl ?_
  refine zA_getR fX5_12 t_8 rfl dX5_readCoat_1 ?_
  refine zA_getE (w := (m : Int)) fX5_79 t_9 dX5_readCoat_4 hD.2.2.1 ?_
  refine zA_bipush dX5_readCoat_7 rfl ?_
  refine zA_icmp_lt (tgt := 22) dX5_readCoat_9 rfl (fun h9 => ?_) (fun h9 => ?_)
  · refine zA_aload_n dX5_readCoat_22 rfl ?_
    refine zA_dup dX5_readCoat_23 rfl ?_
    refine zA_getE (w := (a : Int)) fX5_33 t_8 dX5_readCoat_24 h5 ?_
    refine zA_iconst dX5_readCoat_27 rfl ?_
    refine zA_iaddB dX5_readCoat_28 ⟨by omega, by omega⟩ ?_
    refine zA_putI wX5_33 t_8 dX5_readCoat_29 ?_
    refine zA_iconst dX5_readCoat_32 rfl ?_
    refine zA_istore_n (ls' := [some (zR 8), some (zI 0), none]) dX5_readCoat_33 rfl rfl ?_
    refine zA_iconst dX5_readCoat_34 rfl ?_
    refine zA_istore_n (ls' := [some (zR 8), some (zI 0), some (zI 0)]) dX5_readCoat_35 rfl rfl ?_
    have hX0 : cX μ (zup μ 8 5 ((a : Int) + 1)) x L (a + 1) m 0 := ⟨fR_u8 (by decide) (fR.refl _), rfl, rfl, rfl, fun j hj => by omega, fun i hi => rfl⟩
    exact l_X5_readCoat d μ x L a n m t u g dg ow fi se hT hD hn5 hn2 hm6 (by omega) (by omega) _ 0 rfl _ (by omega) hX0 (by rw [zup_s]; rfl) rfl (fun q => by omega)
  · refine zA_aload_n dX5_readCoat_12 rfl ?_
    refine zA_aload_n dX5_readCoat_13 rfl ?_
    refine zA_getE (w := (a : Int)) fX5_33 t_8 dX5_readCoat_14 h5 ?_
    refine zA_iconst dX5_readCoat_17 rfl ?_
    refine zA_cVb (st := []) kX5_47 t_8 rfl rfl (c_X5_failAt (d + 1) ((a : Int)) (3) μ) rfl rfl rfl dX5_readCoat_18 (zfit0 (by omega) rfl) (fun v1 μ1 q1 => ?_)
    obtain ⟨rfl, rfl⟩ := q1
    exact zA_rb (b := false) dX5_readCoat_21 rfl ⟨fR_u8 (by decide) (fR_u8 (by decide) (fR.refl _)), cO_g (if_pos (by omega)) (by decide) rfl rfl, fun e => by cases e⟩
theorem txTn_no {x : Nat → Int} {L m a f k : Nat} (h : ¬ ((txTs x L m a k).1 = 0 ∧ txH x L (txTs x L m a k).2 = 44)) : txTn x L m a f k = k := by
  cases f with
  | zero => rfl
  | succ f =>
    simp only [txTn]
    rw [if_neg h]
theorem txTn_go {x : Nat → Int} {L m a k : Nat} (hk : k < 10) (h : (txTs x L m a k).1 = 0) (h' : txH x L (txTs x L m a k).2 = 44) : txTn x L m a (10 - k) k = txTn x L m a (10 - (k + 1)) (k + 1) := by
  rw [show 10 - k = (10 - (k + 1)) + 1 by omega]
  simp only [txTn]
  rw [if_pos ⟨h, h'⟩]
theorem txTs_s {x : Nat → Int} {L m p k : Nat} (h : (txTs x L m p k).1 = 0) : txTs x L m p (k + 1) = txTch x L m (txTb x L m p k) := by
  simp only [txTs]
  rw [txB_0 h]
  rfl
def cY (μ ν : zM) (x : Nat → Int) (L p m k : Nat) : Prop := fR μ ν ∧ ν 10 = μ 10 ∧ (∀ i, i ≠ 11 → ν 9 i = μ 9 i) ∧ (∀ j, j < k → ν 11 j = txTf x L m p j ∧ ν 12 j = txTg x L m p j)
theorem cY.f8 {μ ν ξ : zM} {x : Nat → Int} {L p m k : Nat} (h : cY μ ν x L p m k) (h' : f8 ν ξ) : cY μ ξ x L p m k := by
  obtain ⟨a1, a2, a3, a4⟩ := h
  exact ⟨a1.trans h'.fR, by rw [h'.1 10 (by decide)]; exact a2, by rw [h'.1 9 (by decide)]; exact a3, by rw [h'.1 11 (by decide), h'.1 12 (by decide)]; exact a4⟩
theorem cY.cd {μ ν : zM} {x : Nat → Int} {L p n m t k : Nat} {u g dg : Int} {ow fi se : Nat → Int} (h : cY μ ν x L p m k) (h9 : ν 9 11 = k) (hD : cD μ n u m g dg t ow fi se) : cD ν n u m g dg k ow (txTf x L m p) (txTg x L m p) := by
  obtain ⟨a1, a2, a3, a4⟩ := h
  obtain ⟨d1, d2, d3, d4, d5, d6, d7, d8⟩ := hD
  exact ⟨by rw [a3 6 (by decide)]; exact d1, by rw [a3 7 (by decide)]; exact d2, by rw [a3 8 (by decide)]; exact d3, by rw [a3 9 (by decide)]; exact d4, by rw [a3 10 (by decide)]; exact d5, h9, by rw [a2]; exact d7, a4⟩
theorem cY.put {μ ν ξ : zM} {x : Nat → Int} {L p m k : Nat} {v : Int} (h : cY μ ν x L p m k) (h1 : (∀ q, q ≠ 8 → q ≠ 11 → q ≠ 12 → ξ q = ν q) ∧ ξ 8 2 = ν 8 2) (h2 : (∀ j, ξ 11 j = if j = k then txTf x L m p k else ν 11 j) ∧ ∀ j, ξ 12 j = if j = k then txTg x L m p k else ν 12 j) : cY μ (zup ξ 9 11 v) x L p m (k + 1) := by
  obtain ⟨a1, a2, a3, a4⟩ := h
  refine ⟨fR_up (by decide) ⟨fun q q1 q2 q3 q4 q5 => by rw [h1.1 q q1 q4 q5, a1.1 q q1 q2 q3 q4 q5], by rw [h1.2, a1.2]⟩, ?_, fun i hi => ?_, fun j hj => ?_⟩
  · show ξ 10 = _
    rw [h1.1 10 (by decide) (by decide) (by decide)]
    exact a2
  · rw [zup_n (fun q => hi q.2), h1.1 9 (by decide) (by decide) (by decide)]
    exact a3 i hi
  · rw [zup_k (by decide), zup_k (by decide), h2.1 j, h2.2 j]
    by_cases e : j = k
    · subst e
      rw [if_pos rfl, if_pos rfl]
      exact ⟨rfl, rfl⟩
    · rw [if_neg e, if_neg e]
      exact a4 j (by omega)
theorem t_X5_readDay (d : Nat) (μ : zM) (x : Nat → Int) (L a n m t : Nat) (u g dg : Int) (ow fi se : Nat → Int) (hT : cT μ x L) (hD : cD μ n u m g dg t ow fi se) (ht : t = 0) (b k : Nat) (ν : zM) (hb : b ≤ L) (hY : cY μ ν x L (a + 1) m k) (h9 : ν 9 11 = k) (h5 : ν 8 5 = b) (hk : (txTn x L m (a + 1) 9 1) = k) (ho : txDay x L m (a + 1) = txG x L 59 b) : zA RX5 cX5_readDay 2 (zRm (d + 5) 0) zN0 TF 0 ν 77 [some (zR 8), none] [] (zPb (fun b ν => fR μ ν ∧ cO ν b (if 0 < t then (3, a) else txDay x L m (a + 1)) ∧ (b = true → cD ν n u m g dg (txTn x L m (a + 1) 9 1) ow (txTf x L m (a + 1)) (txTg x L m (a + 1))))) := by
  have hL := hT.2.1
  subst hk
  refine zA_aload_n dX5_readDay_77 rfl ?_
  refine zA_bipush dX5_readDay_78 rfl ?_
  refine zA_cVb (st := []) kX5_75 t_8 rfl rfl (c_X5_readSign (d + 2) ν x L b 59 hb (hT.fR hY.1) h5) rfl rfl rfl dX5_readDay_80 (zfit0 (by omega) rfl) (fun v1 μ1 q1 => ?_)
  obtain ⟨g1, o1⟩ := q1
  exact zA_rb (b := v1) dX5_readDay_83 rfl ⟨hY.1.trans g1.fR, cO_e (by rw [if_neg (by omega), ho]) o1, fun _ => (hY.cd h9 hD).f8 g1⟩
theorem l_X5_readDay (d : Nat) (μ : zM) (x : Nat → Int) (L a n m t : Nat) (u g dg : Int) (ow fi se : Nat → Int) (hT : cT μ x L) (hD : cD μ n u m g dg t ow fi se) (hm6 : m ≤ 6) (ht : t = 0) (hp : a + 1 ≤ L) : ∀ (t0 k : Nat), 10 - k = t0 → ∀ ν : zM, k ≤ 10 → 1 ≤ k → cY μ ν x L (a + 1) m k → ν 9 11 = k → ν 8 5 = (txTs x L m (a + 1) k).2 → (txTs x L m (a + 1) k).1 = 0 → txTn x L m (a + 1) (10 - k) k = (txTn x L m (a + 1) 9 1) → zA RX5 cX5_readDay 2 (zRm (d + 5) 0) zN0 TF 0 ν 22 [some (zR 8), some (zI (k : Int))] [] (zPb (fun b ν => fR μ ν ∧ cO ν b (if 0 < t then (3, a) else txDay x L m (a + 1)) ∧ (b = true → cD ν n u m g dg (txTn x L m (a + 1) 9 1) ow (txTf x L m (a + 1)) (txTg x L m (a + 1))))) := by
  intro t0
  induction t0 using Nat.strongRecOn with
  | ind t0 ih =>
    intro k hk ν hk10 hk1 hY h9 h5 h0 hTn
    have hL := hT.2.1
    have hkL := (txTs_0 (x := x) (L := L) (m := m) hp k h0).2.2
    refine zA_iload_n dX5_readDay_22 rfl ?_
    refine zA_bipush dX5_readDay_23 rfl ?_
    refine zA_icmp_ge (tgt := 77) dX5_readDay_25 rfl (fun h25 => ?_) (fun h25 => ?_)
    · refine zA_dr (ls' := [some (zR 8), none]) 1 rfl ?_
      exact t_X5_readDay d μ x L a n m t u g dg ow fi se hT hD ht _ k ν hkL hY h9 h5 (by rw [← hTn, show k = 10 by omega]; rfl) (by unfold txDay; rw [show (txTn x L m (a + 1) 9 1) = k by rw [← hTn, show k = 10 by omega]; rfl, txB_0 h0])
    · refine zA_iload_n dX5_readDay_28 rfl ?_
      refine zA_if_eq (tgt := 41) dX5_readDay_29 rfl (fun h29 => False.elim (by omega)) fun h29 => ?_
      refine zA_aload_n dX5_readDay_32 rfl ?_
      refine zA_cVi (st := []) kX5_36 t_8 rfl rfl (c_X5_ahead (d + 3) ν x L ((txTs x L m (a + 1) k).2) hkL (hT.fR hY.1) h5) rfl rfl rfl dX5_readDay_33 (zfit0 (by omega) rfl) (fun v1 μ1 q1 => ?_)
      obtain ⟨rfl, rfl⟩ := q1
      refine zA_bipush dX5_readDay_36 rfl ?_
      refine zA_icmp_ne (tgt := 77) dX5_readDay_38 rfl (fun h38 => ?_) (fun h38 => ?_)
      · refine zA_dr (ls' := [some (zR 8), none]) 1 rfl ?_
        exact t_X5_readDay d μ x L a n m t u g dg ow fi se hT hD ht (txS x L (txTs x L m (a + 1) k).2) k _ (txS_L hkL) (hY.f8 (f8.u (by decide))) h9 rfl (by rw [← hTn]; exact txTn_no (fun q => h38 q.2)) (by unfold txDay; rw [show (txTn x L m (a + 1) 9 1) = k by rw [← hTn]; exact txTn_no (fun q => h38 q.2), txB_0 h0, txG_sk])
      · have hH44 : txH x L (txTs x L m (a + 1) k).2 = 44 := h38
        have eTb : txTb x L m (a + 1) k = txS x L (txTs x L m (a + 1) k).2 + 1 := by unfold txTb; rw [if_neg (by omega)]
        have hlt := txH_lt (x := x) (L := L) (a := (txTs x L m (a + 1) k).2) (by omega)
        have eT := txTs_s h0
        have eTn := txTn_go (x := x) (L := L) (m := m) (a := (a + 1)) (k := k) (by omega) h0 hH44
        refine zA_aload_n dX5_readDay_41 rfl ?_
        refine zA_dup dX5_readDay_42 rfl ?_
        refine zA_getE (w := (txS x L ((txTs x L m (a + 1) k).2) : Int)) fX5_33 t_8 dX5_readDay_43 (by rw [zup_s]) ?_
        refine zA_iconst dX5_readDay_46 rfl ?_
        refine zA_iaddB dX5_readDay_47 ⟨by omega, by omega⟩ ?_
        refine zA_putI wX5_33 t_8 dX5_readDay_48 ?_
        have hY' : cY μ (zup (zup ν 8 5 (txS x L (txTs x L m (a + 1) k).2 : Int)) 8 5 ((txS x L (txTs x L m (a + 1) k).2 : Int) + 1)) x L (a + 1) m k := hY.f8 (f8_up (by decide) (f8.u (by decide)))
        refine zA_aload_n dX5_readDay_51 rfl ?_
        refine zA_iload_n dX5_readDay_52 rfl ?_
        refine zA_cVb (st := []) kX5_110 t_8 rfl rfl (c_X5_readTouch d (zup (zup ν 8 5 ((txS x L ((txTs x L m (a + 1) k).2) : Int))) 8 5 (((txS x L ((txTs x L m (a + 1) k).2) : Int)) + 1)) x L ((txTb x L m (a + 1) k)) m k (by rw [eTb]; exact hlt.1) (hT.fR hY'.1) (by rw [zup_s, eTb]; rfl) (by show ν 9 8 = _; rw [hY.2.2.1 8 (by decide)]; exact hD.2.2.1) hm6 (by omega)) rfl rfl rfl dX5_readDay_53 (zfit0 (by omega) rfl) (fun v2 μ2 q2 => ?_)
        obtain ⟨g2, o2, w2⟩ := q2
        refine zA_ifb_ne (tgt := 61) dX5_readDay_56 rfl (fun h56 => ?_) (fun h56 => ?_)
        · have r2 := o2.1 h56
          refine zA_aload_n dX5_readDay_61 rfl ?_
          refine zA_getR fX5_12 t_8 rfl dX5_readDay_62 ?_
          refine zA_iload_n dX5_readDay_65 rfl ?_
          refine zA_iconst dX5_readDay_66 rfl ?_
          refine zA_iaddB dX5_readDay_67 ⟨by omega, by omega⟩ ?_
          refine zA_putI wX5_107 t_9 dX5_readDay_68 ?_
          refine zA_iincB (ls' := [some (zR 8), some (zI ((k : Int) + 1))]) dX5_readDay_71 rfl rfl ⟨by omega, by omega⟩ rfl ?_
          refine zA_goto (tgt := 22) dX5_readDay_74 rfl ?_
          exact ih _ (by omega) (k + 1) rfl _ (by omega) (by omega) (cY.put hY' g2 (w2 h56)) (by rw [zup_s]; rfl) (by rw [eT]; exact r2.2) (by rw [eT]; exact r2.1) (by rw [← eTn]; exact hTn)
        · refine zA_iconst dX5_readDay_59 rfl ?_
          exact zA_rb (b := false) dX5_readDay_60 rfl ⟨⟨fun q q1 q2 q3 q4 q5 => by rw [g2.1 q q1 q4 q5]; exact hY'.1.1 q q1 q2 q3 q4 q5, by rw [g2.2]; exact hY'.1.2⟩, cO_e (by rw [if_neg (by omega)]; unfold txDay; rw [← hTn, eTn, txTn_no (fun q => ((h56 ▸ o2 : cO μ2 false _).2 rfl).1 (eT ▸ q.1)), eT]; exact txB_n ((h56 ▸ o2 : cO μ2 false _).2 rfl).1) (h56 ▸ o2), fun e => by cases e⟩
theorem c_X5_readDay (d : Nat) (μ : zM) (x : Nat → Int) (L a n m t : Nat) (u g dg : Int) (ow fi se : Nat → Int) (haL : a < L) (hT : cT μ x L) (h5 : μ 8 5 = a) (hD : cD μ n u m g dg t ow fi se) (hm6 : m ≤ 6) : zMet (d + 5) 0 yX5_readDay cX5_readDay 2 (some .boolean) TF μ [zR 8] (zPb (fun b ν => fR μ ν ∧ cO ν b (if 0 < t then (3, a) else txDay x L m (a + 1)) ∧ (b = true → cD ν n u m g dg (txTn x L m (a + 1) 9 1) ow (txTf x L m (a + 1)) (txTg x L m (a + 1))))) := by
  have hL := hT.2.1
  refine zMb_of RX5 rfl (by decide) rfl (ls := [some (zR 8), none]) rfl (fun hok => ?_)
  refine zA_aload_n dX5_readDay_0 rfl ?_
  refine zA_getR fX5_12 t_8 rfl dX5_readDay_1 ?_
  refine zA_getE (w := (t : Int)) fX5_107 t_9 dX5_readDay_4 hD.2.2.2.2.2.1 ?_
  refine zA_if_le (tgt := 20) dX5_readDay_7 rfl (fun h7 => ?_) (fun h7 => ?_)
  · refine zA_iconst dX5_readDay_20 rfl ?_
    refine zA_istore_n (ls' := [some (zR 8), some (zI 0)]) dX5_readDay_21 rfl rfl ?_
    refine zA_iload_n dX5_readDay_22 rfl ?_
    refine zA_bipush dX5_readDay_23 rfl ?_
    refine zA_icmp_ge (tgt := 77) dX5_readDay_25 rfl (fun h25 => False.elim (by omega)) fun h25 => ?_
    refine zA_iload_n dX5_readDay_28 rfl ?_
    refine zA_if_eq (tgt := 41) dX5_readDay_29 rfl (fun h29 => ?_) (fun h29 => False.elim (by omega))
    refine zA_aload_n dX5_readDay_41 rfl ?_
    refine zA_dup dX5_readDay_42 rfl ?_
    refine zA_getE (w := (a : Int)) fX5_33 t_8 dX5_readDay_43 h5 ?_
    refine zA_iconst dX5_readDay_46 rfl ?_
    refine zA_iaddB dX5_readDay_47 ⟨by omega, by omega⟩ ?_
    refine zA_putI wX5_33 t_8 dX5_readDay_48 ?_
    have hY0 : cY μ (zup μ 8 5 ((a : Int) + 1)) x L (a + 1) m 0 := ⟨fR_u8 (by decide) (fR.refl _), rfl, fun i hi => rfl, fun j hj => by omega⟩
    have eT : txTs x L m (a + 1) (0 + 1) = txTch x L m (a + 1) := txTs_s rfl
    refine zA_aload_n dX5_readDay_51 rfl ?_
    refine zA_iload_n dX5_readDay_52 rfl ?_
    refine zA_cVb (st := []) kX5_110 t_8 rfl rfl (c_X5_readTouch d (zup μ 8 5 ((a : Int) + 1)) x L ((a + 1)) m 0 (by omega) (hT.fR hY0.1) (by rw [zup_s]; rfl) (by show μ 9 8 = _; exact hD.2.2.1) hm6 (by omega)) rfl rfl rfl dX5_readDay_53 (zfit0 (by omega) rfl) (fun v1 μ1 q1 => ?_)
    obtain ⟨g1, o1, w1⟩ := q1
    refine zA_ifb_ne (tgt := 61) dX5_readDay_56 rfl (fun h56 => ?_) (fun h56 => ?_)
    · have r1 := o1.1 h56
      refine zA_aload_n dX5_readDay_61 rfl ?_
      refine zA_getR fX5_12 t_8 rfl dX5_readDay_62 ?_
      refine zA_iload_n dX5_readDay_65 rfl ?_
      refine zA_iconst dX5_readDay_66 rfl ?_
      refine zA_iaddB dX5_readDay_67 ⟨by omega, by omega⟩ ?_
      refine zA_putI wX5_107 t_9 dX5_readDay_68 ?_
      refine zA_iincB (ls' := [some (zR 8), some (zI 1)]) dX5_readDay_71 rfl rfl ⟨by decide, by decide⟩ rfl ?_
      refine zA_goto (tgt := 22) dX5_readDay_74 rfl ?_
      exact l_X5_readDay d μ x L a n m t u g dg ow fi se hT hD hm6 (by omega) (by omega) _ 1 rfl _ (by omega) (by omega) (cY.put hY0 g1 (w1 h56)) (by rw [zup_s]; rfl) (by rw [eT]; exact r1.2) (by rw [eT]; exact r1.1) rfl
    · refine zA_iconst dX5_readDay_59 rfl ?_
      exact zA_rb (b := false) dX5_readDay_60 rfl ⟨⟨fun q q1 q2 q3 q4 q5 => by rw [g1.1 q q1 q4 q5]; exact hY0.1.1 q q1 q2 q3 q4 q5, by rw [g1.2]; exact hY0.1.2⟩, cO_e (by rw [if_neg (by omega)]; unfold txDay; rw [txTn_no (fun q => ((h56 ▸ o1 : cO μ1 false _).2 rfl).1 (eT ▸ q.1)), eT]; exact txB_n ((h56 ▸ o1 : cO μ1 false _).2 rfl).1) (h56 ▸ o1), fun e => by cases e⟩
  · refine zA_aload_n dX5_readDay_10 rfl ?_
    refine zA_aload_n dX5_readDay_11 rfl ?_
    refine zA_getE (w := (a : Int)) fX5_33 t_8 dX5_readDay_12 h5 ?_
    refine zA_iconst dX5_readDay_15 rfl ?_
    refine zA_cVb (st := []) kX5_47 t_8 rfl rfl (c_X5_failAt (d + 3) ((a : Int)) (3) μ) rfl rfl rfl dX5_readDay_16 (zfit0 (by omega) rfl) (fun v2 μ2 q2 => ?_)
    obtain ⟨rfl, rfl⟩ := q2
    exact zA_rb (b := false) dX5_readDay_19 rfl ⟨fR_u8 (by decide) (fR_u8 (by decide) (fR.refl _)), cO_g (if_pos (by omega)) (by decide) rfl rfl, fun e => by cases e⟩
