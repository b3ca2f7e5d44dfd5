/-! ===== came: the model ===== -/
theorem md_congrL {u : Int} {n m : Nat} {g : Int} {x1 x2 : Nat} {v w : Int} (hn : n ≤ 5) (h1 : lv n m x1) (h2 : lv n m x2) : ∀ (r : Nat) (R R' : Nat → Int) (c : Nat), (∀ i, lv n m i → R i = R' i) → md (rF x1 v x2 w) (rX u n g) (mV m) r R c = md (rF x1 v x2 w) (rX u n g) (mV m) r R' c
  | 0, R, R', c, h => by simp only [md, rF]; rw [h _ h1, h _ h2]
  | r + 1, R, R', c, h => by
    simp only [md]
    cases hV : mV m (c / 36 ^ r % 36) with
    | false => rfl
    | true =>
      have hv := of_decide_eq_true hV
      have e := md_congrL (u := u) (g := g) (v := v) (w := w) hn h1 h2 r (rX u n g (c / 36 ^ r % 36) R) (rX u n g (c / 36 ^ r % 36) R') c (xchG_congrL (u := u) (g := g) (a := c / 36 ^ r % 36 / 6) (b := c / 36 ^ r % 36 % 6) hn (by omega) (by omega) h)
      exact congrArg (fun b => true && b) e
theorem l_X9_figure (d C L k : Nat) (μ : zM) (hk : k ≤ 3) : ∀ (e l : Nat), e ≤ 3 → l ≤ 100000 → zA RX9 cX9_figure 5 (zRm (d + 1) 0) zN0 TF 0 μ 7 [some (zI (C : Int)), some (zI (L : Int)), some (zI (k : Int)), some (zI (l : Int)), some (zI (((k + e : Nat) : Int)))] [] (zPi (fun v ν => v = ((l / 36 ^ e % 36 : Nat) : Int) ∧ μ = ν))
  | 0, l, he, hl => by
    refine zA_iload dX9_figure_7 rfl ?_
    refine zA_iload_n dX9_figure_9 rfl ?_
    refine zA_icmp_le (tgt := 24) dX9_figure_10 rfl (fun h10 => ?_) (fun h10 => False.elim (by omega))
    refine zA_iload_n dX9_figure_24 rfl ?_
    refine zA_bipush dX9_figure_25 rfl ?_
    refine zA_iremE (w := ((l / 36 ^ 0 % 36 : Nat) : Int)) dX9_figure_27 (by omega) (by omega) (by rw [Nat.pow_zero, Nat.div_one]; omega) ?_
    exact zA_ri dX9_figure_28 ⟨rfl, rfl⟩
  | e + 1, l, he, hl => by
    refine zA_iload dX9_figure_7 rfl ?_
    refine zA_iload_n dX9_figure_9 rfl ?_
    refine zA_icmp_le (tgt := 24) dX9_figure_10 rfl (fun h10 => False.elim (by omega)) fun h10 => ?_
    refine zA_iload_n dX9_figure_13 rfl ?_
    refine zA_bipush dX9_figure_14 rfl ?_
    refine zA_idivE (w := ((l / 36 : Nat) : Int)) dX9_figure_16 (by omega) (by omega) (by omega) ?_
    refine zA_istore_n (ls' := [some (zI (C : Int)), some (zI (L : Int)), some (zI (k : Int)), some (zI (((l / 36 : Nat) : Int))), some (zI (((k + (e + 1) : Nat) : Int)))]) dX9_figure_17 rfl rfl ?_
    refine zA_iincE (ls' := [some (zI (C : Int)), some (zI (L : Int)), some (zI (k : Int)), some (zI (((l / 36 : Nat) : Int))), some (zI (((k + e : Nat) : Int)))]) (w := ((k + e : Nat) : Int)) dX9_figure_18 rfl rfl ⟨by omega, by omega⟩ (by omega) rfl ?_
    refine zA_goto (tgt := 7) dX9_figure_21 rfl ?_
    have := l_X9_figure d C L k μ hk e (l / 36) (by omega) (by omega)
    rw [Nat.div_div_eq_div_mul, Nat.mul_comm 36, ← Nat.pow_succ] at this
    exact this
theorem c_X9_figure (d C L k : Nat) (μ : zM) (hk : k < L) (hL : L ≤ 3) (hC : C ≤ 100000) : zMet (d + 1) 0 yX9_figure cX9_figure 5 (some .int) TF μ [zI (C : Int), zI (L : Int), zI (k : Int)] (zPi (fun v ν => v = ((C / 36 ^ (L - 1 - k) % 36 : Nat) : Int) ∧ μ = ν)) := by
  refine zMi_of RX9 rfl (by decide) rfl (ls := [some (zI (C : Int)), some (zI (L : Int)), some (zI (k : Int)), none, none]) rfl (fun hok0 => ?_)
  refine zA_iload_n dX9_figure_0 rfl ?_
  refine zA_istore_n (ls' := [some (zI (C : Int)), some (zI (L : Int)), some (zI (k : Int)), some (zI (C : Int)), none]) dX9_figure_1 rfl rfl ?_
  refine zA_iload_n dX9_figure_2 rfl ?_
  refine zA_iconst dX9_figure_3 rfl ?_
  refine zA_isubE (w := ((k + (L - 1 - k) : Nat) : Int)) dX9_figure_4 ⟨by omega, by omega⟩ (by omega) ?_
  refine zA_istore (ls' := [some (zI (C : Int)), some (zI (L : Int)), some (zI (k : Int)), some (zI (C : Int)), some (zI (((k + (L - 1 - k) : Nat) : Int)))]) dX9_figure_5 rfl rfl ?_
  exact l_X9_figure d C L k μ (by omega) _ C (by omega) hC
theorem c_X9_figureI (d C L : Nat) (i : Int) (μ : zM) (h0 : 0 ≤ i) (hk : i < L) (hL : L ≤ 3) (hC : C ≤ 100000) : zMet (d + 1) 0 yX9_figure cX9_figure 5 (some .int) TF μ [zI (C : Int), zI (L : Int), zI i] (zPi (fun v ν => v = ((C / 36 ^ (L - 1 - i.toNat) % 36 : Nat) : Int) ∧ μ = ν)) := by
  obtain ⟨k, rfl⟩ := Int.eq_ofNat_of_zero_le h0
  exact c_X9_figure d C L k μ (by omega) hL hC
theorem zAb_mono {own : String} {cc : ByteArray} {nL : Nat} {R : Room} {X : zX} {cs : Nat} {μ : zM} {pc : Nat} {ls : List (Option zV)} {st : List zV} {Q Q' : Bool → zM → Prop} (h : zA own cc nL R X TF cs μ pc ls st (zPb Q)) (hq : ∀ b ξ, Q b ξ → Q' b ξ) : zA own cc nL R X TF cs μ pc ls st (zPb Q') := zA_mono h (fun r T' μ' q => by obtain ⟨h1, v, h2, h3⟩ := q; exact ⟨h1, v, h2, hq v μ' h3⟩)
theorem l_X9_makes (d C L x1 x2 n m t : Nat) (u g v w : Int) (hL : L ≤ 3) (hC : C ≤ 100000) (h1 : x1 < 30) (h2 : x2 < 30) : ∀ (t0 k : Nat), L - k = t0 → k ≤ L → ∀ ν : zM, zMs ν n m t u → ν 114 30 = g → rOk n m (ν 122) → zA RX9 cX9_makes 11 (zRm (d + 4) 0) zN0 TF 0 ν 7 [some (zR 110), some (zI (C : Int)), some (zI (L : Int)), some (zI (x1 : Int)), some (zI v), some (zI (x2 : Int)), some (zI w), some (zI (k : Int)), none, none, none] [] (zPb (fun b ξ => (b = true ↔ md (rF x1 v x2 w) (rX u n g) (mV m) (L - k) (ν 122) C = true) ∧ ∀ c, c ≠ 122 → c ≠ 119 → ξ c = ν c)) := by
  intro t0
  induction t0 using Nat.strongRecOn with
  | ind t0 ih =>
    intro k hk hkL ν hH hg hok
    have hH0 := hH
    obtain ⟨hn, hu, hm, ht, hn5, hm6, ht10, hu1, hdk⟩ := hH0
    refine zA_iload dX9_makes_7 rfl ?_
    refine zA_iload_n dX9_makes_9 rfl ?_
    refine zA_icmp_ge (tgt := 72) dX9_makes_10 rfl (fun h10 => ?_) (fun h10 => ?_)
    · refine zA_aload_n dX9_makes_72 rfl ?_
      refine zA_getR fX9_47 t_110 rfl dX9_makes_73 ?_
      refine zA_iload_n dX9_makes_76 rfl ?_
      refine zA_ialE (w := ν 122 x1) (j := x1) t_122 (by omega) (by omega) dX9_makes_77 rfl rfl ?_
      refine zA_iload dX9_makes_78 rfl ?_
      refine zA_icmp_ne (tgt := 99) dX9_makes_80 rfl (fun h80 => ?_) (fun h80 => ?_)
      · refine zA_iconst dX9_makes_99 rfl ?_
        refine zA_rb (b := false) dX9_makes_100 rfl ⟨?_, fun _ _ _ => rfl⟩
        first
          | (rw [hmd, show mV m p = false from decide_eq_false (by omega), Bool.false_and]; done)
          | (rw [show L - k = 0 by omega]; simp only [md, rF, decide_eq_true_eq, Bool.false_eq_true, false_iff]; intro q; first | exact h80 q.1 | exact h92 q.2)
      · refine zA_aload_n dX9_makes_83 rfl ?_
        refine zA_getR fX9_47 t_110 rfl dX9_makes_84 ?_
        refine zA_iload dX9_makes_87 rfl ?_
        refine zA_ialE (w := ν 122 x2) (j := x2) t_122 (by omega) (by omega) dX9_makes_89 rfl rfl ?_
        refine zA_iload dX9_makes_90 rfl ?_
        refine zA_icmp_ne (tgt := 99) dX9_makes_92 rfl (fun h92 => ?_) (fun h92 => ?_)
        · refine zA_iconst dX9_makes_99 rfl ?_
          refine zA_rb (b := false) dX9_makes_100 rfl ⟨?_, fun _ _ _ => rfl⟩
          first
            | (rw [hmd, show mV m p = false from decide_eq_false (by omega), Bool.false_and]; done)
            | (rw [show L - k = 0 by omega]; simp only [md, rF, decide_eq_true_eq, Bool.false_eq_true, false_iff]; intro q; first | exact h80 q.1 | exact h92 q.2)
        · refine zA_iconst dX9_makes_95 rfl ?_
          refine zA_goto (tgt := 100) dX9_makes_96 rfl ?_
          refine zA_rb (b := true) dX9_makes_100 rfl ⟨?_, fun _ _ _ => rfl⟩
          rw [show L - k = 0 by omega]
          simp only [md, rF, decide_eq_true_eq, true_iff]
          exact ⟨h80, h92⟩
    · refine zA_iload_n dX9_makes_13 rfl ?_
      refine zA_iload_n dX9_makes_14 rfl ?_
      refine zA_iload dX9_makes_15 rfl ?_
      refine zA_cSi (st := []) kX9_235 (c_X9_figure (d + 2) C L k ν (by omega) hL hC) rfl rfl rfl dX9_makes_17 (zfit0 (by omega) rfl) (fun v1 μ1 q1 => ?_)
      obtain ⟨e1, rfl⟩ := q1
      obtain ⟨p, hp⟩ : ∃ p, p = C / 36 ^ (L - 1 - k) % 36 := ⟨_, rfl⟩
      rw [← hp] at e1
      have hp36 : p < 36 := by rw [hp]; exact Nat.mod_lt _ (by decide)
      subst e1
      have hmd : md (rF x1 v x2 w) (rX u n g) (mV m) (L - k) (ν 122) C = (mV m p && md (rF x1 v x2 w) (rX u n g) (mV m) (L - 1 - k) (rX u n g p (ν 122)) C) := by
        rw [show L - k = (L - 1 - k) + 1 by omega]
        simp only [md]
        rw [← hp]
      refine zA_istore (ls' := [some (zR 110), some (zI (C : Int)), some (zI (L : Int)), some (zI (x1 : Int)), some (zI v), some (zI (x2 : Int)), some (zI w), some (zI (k : Int)), some (zI (p : Int)), none, none]) dX9_makes_20 rfl rfl ?_
      refine zA_iload dX9_makes_22 rfl ?_
      refine zA_bipush dX9_makes_24 rfl ?_
      refine zA_idivE (w := ((p / 6 : Nat) : Int)) dX9_makes_26 (by omega) (by omega) (by omega) ?_
      refine zA_istore (ls' := [some (zR 110), some (zI (C : Int)), some (zI (L : Int)), some (zI (x1 : Int)), some (zI v), some (zI (x2 : Int)), some (zI w), some (zI (k : Int)), some (zI (p : Int)), some (zI (((p / 6 : Nat) : Int))), none]) dX9_makes_27 rfl rfl ?_
      refine zA_iload dX9_makes_29 rfl ?_
      refine zA_bipush dX9_makes_31 rfl ?_
      refine zA_iremE (w := ((p % 6 : Nat) : Int)) dX9_makes_33 (by omega) (by omega) (by omega) ?_
      refine zA_istore (ls' := [some (zR 110), some (zI (C : Int)), some (zI (L : Int)), some (zI (x1 : Int)), some (zI v), some (zI (x2 : Int)), some (zI w), some (zI (k : Int)), some (zI (p : Int)), some (zI (((p / 6 : Nat) : Int))), some (zI (((p % 6 : Nat) : Int)))]) dX9_makes_34 rfl rfl ?_
      refine zA_iload dX9_makes_36 rfl ?_
      refine zA_iload dX9_makes_38 rfl ?_
      refine zA_icmp_ge (tgt := 52) dX9_makes_40 rfl (fun h40 => ?_) (fun h40 => ?_)
      · refine zA_iconst dX9_makes_52 rfl ?_
        refine zA_rb (b := false) dX9_makes_53 rfl ⟨?_, fun _ _ _ => rfl⟩
        first
          | (rw [hmd, show mV m p = false from decide_eq_false (by omega), Bool.false_and]; done)
          | (rw [show L - k = 0 by omega]; simp only [md, rF, decide_eq_true_eq, Bool.false_eq_true, false_iff]; intro q; first | exact h80 q.1 | exact h92 q.2)
      · refine zA_iload dX9_makes_43 rfl ?_
        refine zA_aload_n dX9_makes_45 rfl ?_
        refine zA_getE (w := (m : Int)) fX9_78 t_110 dX9_makes_46 hm ?_
        refine zA_icmp_lt (tgt := 54) dX9_makes_49 rfl (fun h49 => ?_) (fun h49 => ?_)
        · refine zA_aload_n dX9_makes_54 rfl ?_
          refine zA_aload_n dX9_makes_55 rfl ?_
          refine zA_getR fX9_47 t_110 rfl dX9_makes_56 ?_
          refine zA_iload dX9_makes_59 rfl ?_
          refine zA_iload dX9_makes_61 rfl ?_
          refine zA_cVv (st := []) kX9_202 t_110 rfl rfl (c_X9_rubIn d ν 122 n m t 30 u (p / 6) (p % 6) t_122 (by decide) (by decide) hH (by omega) (by omega) (by omega) hok) rfl rfl rfl dX9_makes_63 (zfit0 (by omega) rfl) (fun μ2 q2 => ?_)
          obtain ⟨qa, qb⟩ := q2
          refine zA_iincB (ls' := [some (zR 110), some (zI (C : Int)), some (zI (L : Int)), some (zI (x1 : Int)), some (zI v), some (zI (x2 : Int)), some (zI w), some (zI ((k : Int) + 1)), some (zI (p : Int)), some (zI (((p / 6 : Nat) : Int))), some (zI (((p % 6 : Nat) : Int)))]) dX9_makes_66 rfl rfl ⟨by omega, by omega⟩ rfl ?_
          refine zA_goto (tgt := 7) dX9_makes_69 rfl ?_
          refine zA_dr (ls' := [some (zR 110), some (zI (C : Int)), some (zI (L : Int)), some (zI (x1 : Int)), some (zI v), some (zI (x2 : Int)), some (zI w), some (zI ((k : Int) + 1)), none, some (zI (((p / 6 : Nat) : Int))), some (zI (((p % 6 : Nat) : Int)))]) 8 rfl ?_
          refine zA_dr (ls' := [some (zR 110), some (zI (C : Int)), some (zI (L : Int)), some (zI (x1 : Int)), some (zI v), some (zI (x2 : Int)), some (zI w), some (zI ((k : Int) + 1)), none, none, some (zI (((p % 6 : Nat) : Int)))]) 9 rfl ?_
          refine zA_dr (ls' := [some (zR 110), some (zI (C : Int)), some (zI (L : Int)), some (zI (x1 : Int)), some (zI v), some (zI (x2 : Int)), some (zI w), some (zI ((k : Int) + 1)), none, none, none]) 10 rfl ?_
          have hV : mV m p = true := decide_eq_true (by omega)
          have hE : μ2 122 = rX u n g p (ν 122) := by rw [qa, hg]; rfl
          have hr := ih _ (by omega) (k + 1) rfl (by omega) μ2 (hH.keep (qb 110 (by decide) (by decide)) (qb 112 (by decide) (by decide)) (qb 113 (by decide) (by decide))) (by rw [qb 114 (by decide) (by decide)]; exact hg) (by rw [hE]; exact xchG_ok hn5 hu1 (by omega) (by omega) (by omega) hok)
          exact zAb_mono hr (fun b ξ h => ⟨by rw [hmd, hV, Bool.true_and, h.1, hE, show L - (k + 1) = L - 1 - k by omega], fun c c1 c2 => by rw [h.2 c c1 c2, qb c c1 c2]⟩)
        · refine zA_iconst dX9_makes_52 rfl ?_
          refine zA_rb (b := false) dX9_makes_53 rfl ⟨?_, fun _ _ _ => rfl⟩
          first
            | (rw [hmd, show mV m p = false from decide_eq_false (by omega), Bool.false_and]; done)
            | (rw [show L - k = 0 by omega]; simp only [md, rF, decide_eq_true_eq, Bool.false_eq_true, false_iff]; intro q; first | exact h80 q.1 | exact h92 q.2)
theorem c_X9_makes (d C L x1 x2 n m t : Nat) (u g v w : Int) (ν : zM) (hL : L ≤ 3) (hC : C ≤ 100000) (h1 : x1 < 30) (h2 : x2 < 30) (hH : zMs ν n m t u) (hg : ν 114 30 = g) (hok : rOk n m (ν 114)) : zMet (d + 4) 0 yX9_makes cX9_makes 11 (some .boolean) TF ν [zR 110, zI (C : Int), zI (L : Int), zI (x1 : Int), zI v, zI (x2 : Int), zI w] (zPb (fun b ξ => (b = true ↔ md (rF x1 v x2 w) (rX u n g) (mV m) L (ν 114) C = true) ∧ ∀ c, c ≠ 122 → c ≠ 119 → ξ c = ν c)) := by
  refine zMb_of RX9 rfl (by decide) rfl (ls := [some (zR 110), some (zI (C : Int)), some (zI (L : Int)), some (zI (x1 : Int)), some (zI v), some (zI (x2 : Int)), some (zI w), none, none, none, none]) rfl (fun hok0 => ?_)
  refine zA_aload_n dX9_makes_0 rfl ?_
  refine zA_cVv (st := []) kX9_225 t_110 rfl rfl (c_X9_begin (d + 2) ν) rfl rfl rfl dX9_makes_1 (zfit0 (by omega) rfl) (fun μ1 q1 => ?_)
  obtain ⟨qa, qb⟩ := q1
  refine zA_iconst dX9_makes_4 rfl ?_
  refine zA_istore (ls' := [some (zR 110), some (zI (C : Int)), some (zI (L : Int)), some (zI (x1 : Int)), some (zI v), some (zI (x2 : Int)), some (zI w), some (zI 0), none, none, none]) dX9_makes_5 rfl rfl ?_
  refine zAb_mono (l_X9_makes d C L x1 x2 n m t u g v w hL hC h1 h2 _ 0 rfl (by omega) μ1 (hH.keep (qb 110 (by decide)) (qb 112 (by decide)) (qb 113 (by decide))) (by rw [qb 114 (by decide)]; exact hg) (rOk_congr hH.2.2.2.2.1 hH.2.2.2.2.2.1 (fun i hi => (qa i hi).symm) hok)) (fun b ξ h => ⟨by rw [h.1, Nat.sub_zero, md_congr hH.2.2.2.2.1 h1 h2 L _ _ C qa], fun c c1 c2 => by rw [h.2 c c1 c2, qb c c1]⟩)
theorem gSt {q : Nat → Bool} {p : Nat} {c f : Int} (h1 : c = cN q p) (h2 : f = gOb (fB q p)) : (q p = true → c + 1 = cN q (p + 1) ∧ (if c = 0 then (p : Int) else f) = gOb (fB q (p + 1))) ∧ (q p = false → c = cN q (p + 1) ∧ f = gOb (fB q (p + 1))) := by
  subst h1 h2
  refine ⟨fun h => ?_, fun h => ?_⟩
  · rw [fB_s]
    simp only [cN, h, if_true]
    refine ⟨by omega, ?_⟩
    have := cN_fB (q := q) p
    by_cases hc : cN q p = 0
    · rw [if_pos (by omega), this.mp hc]
      rfl
    · rw [if_neg (by omega)]
      cases hf : fB q p with
      | none => exact absurd (this.mpr hf) hc
      | some j => rfl
  · rw [fB_s]
    simp only [cN, h, Bool.false_eq_true, if_false]
    refine ⟨trivial, ?_⟩
    cases fB q p <;> rfl
theorem pw3 {L : Nat} (hL : L ≤ 3) : 36 ^ L ≤ 46656 := Nat.le_trans (Nat.pow_le_pow_right (n := 36) (by decide) hL) (by decide)
theorem l_X9_findRows2 (d L x1 x2 n m t : Nat) (u v w : Int) (μ : zM) (hL : L ≤ 3) (h1 : x1 < 30) (h2 : x2 < 30) (hH : zMs μ n m t u) (hok : rOk n m (μ 114)) : ∀ (t0 C : Nat), 36 ^ L - C = t0 → C ≤ 36 ^ L → ∀ ν : zM, (ν 110 30 = (cN (md (rF x1 v x2 w) (rX u n (μ 114 30)) (mV m) L (μ 114)) C : Int) ∧ ν 110 31 = gOb (fB (md (rF x1 v x2 w) (rX u n (μ 114 30)) (mV m) L (μ 114)) C) ∧ (∀ i, i ≠ 30 → i ≠ 31 → ν 110 i = μ 110 i) ∧ ∀ c, c ≠ 122 → c ≠ 119 → c ≠ 110 → ν c = μ c) → zA RX9 cX9_findRows 8 (zRm (d + 5) 0) zN0 TF 0 ν 38 [some (zR 110), some (zI (L : Int)), some (zI (x1 : Int)), some (zI v), some (zI (x2 : Int)), some (zI w), some (zI (((36 ^ L : Nat) : Int))), some (zI (C : Int))] [] (zPv (fun ξ => ξ 110 30 = (tot (rF x1 v x2 w) (rX u n (μ 114 30)) (mV m) L (μ 114) : Int) ∧ ξ 110 31 = gOb (fst (rF x1 v x2 w) (rX u n (μ 114 30)) (mV m) L (μ 114)) ∧ (∀ i, i ≠ 30 → i ≠ 31 → ξ 110 i = μ 110 i) ∧ ∀ c, c ≠ 122 → c ≠ 119 → c ≠ 110 → ξ c = μ c)) := by
  have hp3 := pw3 hL
  intro t0
  induction t0 using Nat.strongRecOn with
  | ind t0 ih =>
    intro C hk hCL ν hst
    obtain ⟨f1, f2, f3, f4⟩ := hst
    refine zA_iload dX9_findRows_38 rfl ?_
    refine zA_iload dX9_findRows_40 rfl ?_
    refine zA_icmp_ge (tgt := 97) dX9_findRows_42 rfl (fun h42 => ?_) (fun h42 => ?_)
    · exact zA_rv dX9_findRows_97 ⟨by rw [tot, show 36 ^ L = C by omega]; exact f1, by rw [fst, show 36 ^ L = C by omega]; exact f2, f3, f4⟩
    · have hcl := cN_le (md (rF x1 v x2 w) (rX u n (μ 114 30)) (mV m) L (μ 114)) C
      have hHν : zMs ν n m t u := by
        obtain ⟨y1, y2, y3, y4, y5⟩ := hH
        exact ⟨by rw [f3 0 (by decide) (by decide)]; exact y1, by rw [f3 1 (by decide) (by decide)]; exact y2, by rw [f3 2 (by decide) (by decide)]; exact y3, by rw [f3 5 (by decide) (by decide)]; exact y4, by rw [f4 112 (by decide) (by decide) (by decide), f4 113 (by decide) (by decide) (by decide)]; exact y5⟩
      refine zA_aload_n dX9_findRows_45 rfl ?_
      refine zA_iload dX9_findRows_46 rfl ?_
      refine zA_iload_n dX9_findRows_48 rfl ?_
      refine zA_iload_n dX9_findRows_49 rfl ?_
      refine zA_iload_n dX9_findRows_50 rfl ?_
      refine zA_iload dX9_findRows_51 rfl ?_
      refine zA_iload dX9_findRows_53 rfl ?_
      refine zA_cVb (st := []) kX9_245 t_110 rfl rfl (c_X9_makes d C L x1 x2 n m t u (μ 114 30) v w ν hL (by omega) h1 h2 hHν (by rw [f4 114 (by decide) (by decide) (by decide)]) (by rw [f4 114 (by decide) (by decide) (by decide)]; exact hok)) rfl rfl rfl dX9_findRows_55 (zfit0 (by omega) rfl) (fun v1 μ1 q1 => ?_)
      obtain ⟨bm, fm⟩ := q1
      have k30 : μ1 110 30 = (cN (md (rF x1 v x2 w) (rX u n (μ 114 30)) (mV m) L (μ 114)) C : Int) := by rw [fm 110 (by decide) (by decide)]; exact f1
      have k31 : μ1 110 31 = gOb (fB (md (rF x1 v x2 w) (rX u n (μ 114 30)) (mV m) L (μ 114)) C) := by rw [fm 110 (by decide) (by decide)]; exact f2
      have ki : ∀ i, i ≠ 30 → i ≠ 31 → μ1 110 i = μ 110 i := fun i i1 i2 => by rw [fm 110 (by decide) (by decide), f3 i i1 i2]
      have kc : ∀ c, c ≠ 122 → c ≠ 119 → c ≠ 110 → μ1 c = μ c := fun c c1 c2 c3 => by rw [fm c c1 c2, f4 c c1 c2 c3]
      rw [f4 114 (by decide) (by decide) (by decide)] at bm
      refine zA_ifb_eq (tgt := 91) dX9_findRows_58 rfl (fun h58 => ?_) (fun h58 => ?_)
      · refine zA_iincB (ls' := [some (zR 110), some (zI (L : Int)), some (zI (x1 : Int)), some (zI v), some (zI (x2 : Int)), some (zI w), some (zI (((36 ^ L : Nat) : Int))), some (zI ((C : Int) + 1))]) dX9_findRows_91 rfl rfl ⟨by omega, by omega⟩ rfl ?_
        refine zA_goto (tgt := 38) dX9_findRows_94 rfl ?_
        have hq : (md (rF x1 v x2 w) (rX u n (μ 114 30)) (mV m) L (μ 114)) C = false := by
          cases hx : (md (rF x1 v x2 w) (rX u n (μ 114 30)) (mV m) L (μ 114)) C with
          | false => rfl
          | true => exfalso; have := bm.mpr hx; simp_all
        obtain ⟨g1, g2⟩ := (gSt (q := (md (rF x1 v x2 w) (rX u n (μ 114 30)) (mV m) L (μ 114))) (p := C) rfl rfl).2 hq
        exact ih _ (by omega) (C + 1) rfl (by omega) μ1 ⟨by rw [k30]; exact g1, by rw [k31]; exact g2, ki, kc⟩
      · refine zA_aload_n dX9_findRows_61 rfl ?_
        refine zA_aload_n dX9_findRows_62 rfl ?_
        refine zA_getE (w := (cN (md (rF x1 v x2 w) (rX u n (μ 114 30)) (mV m) L (μ 114)) C : Int)) fX9_239 t_110 dX9_findRows_63 k30 ?_
        refine zA_if_ne (tgt := 74) dX9_findRows_66 rfl (fun h66 => ?_) (fun h66 => ?_)
        · refine zA_aload_n dX9_findRows_74 rfl ?_
          refine zA_getE (w := gOb (fB (md (rF x1 v x2 w) (rX u n (μ 114 30)) (mV m) L (μ 114)) C)) fX9_242 t_110 dX9_findRows_75 k31 ?_
          refine zA_putI wX9_242 t_110 dX9_findRows_78 ?_
          refine zA_aload_n dX9_findRows_81 rfl ?_
          refine zA_dup dX9_findRows_82 rfl ?_
          refine zA_getE (w := (cN (md (rF x1 v x2 w) (rX u n (μ 114 30)) (mV m) L (μ 114)) C : Int)) fX9_239 t_110 dX9_findRows_83 (by rw [zup_n (by decide)]; exact k30) ?_
          refine zA_iconst dX9_findRows_86 rfl ?_
          refine zA_iaddB dX9_findRows_87 ⟨by omega, by omega⟩ ?_
          refine zA_putI wX9_239 t_110 dX9_findRows_88 ?_
          refine zA_iincB (ls' := [some (zR 110), some (zI (L : Int)), some (zI (x1 : Int)), some (zI v), some (zI (x2 : Int)), some (zI w), some (zI (((36 ^ L : Nat) : Int))), some (zI ((C : Int) + 1))]) dX9_findRows_91 rfl rfl ⟨by omega, by omega⟩ rfl ?_
          refine zA_goto (tgt := 38) dX9_findRows_94 rfl ?_
          have hq := bm.mp (by simpa using h58)
          obtain ⟨g1, g2⟩ := (gSt (q := (md (rF x1 v x2 w) (rX u n (μ 114 30)) (mV m) L (μ 114))) (p := C) rfl rfl).1 hq
          refine ih _ (by omega) (C + 1) rfl (by omega) _ ⟨?_, ?_, fun i i1 i2 => ?_, fun c c1 c2 c3 => ?_⟩
          · rw [zup_s]; exact g1
          · rw [zup_n (by decide), zup_s, ← g2]
            first | rw [if_pos (by assumption)] | rw [if_neg (by assumption)]
          · rw [zup_n (fun q => i1 q.2), zup_n (fun q => i2 q.2), ki i i1 i2]
          · rw [← kc c c1 c2 c3]
            funext i
            rw [zup_k c3, zup_k c3]
        · refine zA_iload dX9_findRows_69 rfl ?_
          refine zA_goto (tgt := 78) dX9_findRows_71 rfl ?_
          refine zA_putI wX9_242 t_110 dX9_findRows_78 ?_
          refine zA_aload_n dX9_findRows_81 rfl ?_
          refine zA_dup dX9_findRows_82 rfl ?_
          refine zA_getE (w := (cN (md (rF x1 v x2 w) (rX u n (μ 114 30)) (mV m) L (μ 114)) C : Int)) fX9_239 t_110 dX9_findRows_83 (by rw [zup_n (by decide)]; exact k30) ?_
          refine zA_iconst dX9_findRows_86 rfl ?_
          refine zA_iaddB dX9_findRows_87 ⟨by omega, by omega⟩ ?_
          refine zA_putI wX9_239 t_110 dX9_findRows_88 ?_
          refine zA_iincB (ls' := [some (zR 110), some (zI (L : Int)), some (zI (x1 : Int)), some (zI v), some (zI (x2 : Int)), some (zI w), some (zI (((36 ^ L : Nat) : Int))), some (zI ((C : Int) + 1))]) dX9_findRows_91 rfl rfl ⟨by omega, by omega⟩ rfl ?_
          refine zA_goto (tgt := 38) dX9_findRows_94 rfl ?_
          have hq := bm.mp (by simpa using h58)
          obtain ⟨g1, g2⟩ := (gSt (q := (md (rF x1 v x2 w) (rX u n (μ 114 30)) (mV m) L (μ 114))) (p := C) rfl rfl).1 hq
          refine ih _ (by omega) (C + 1) rfl (by omega) _ ⟨?_, ?_, fun i i1 i2 => ?_, fun c c1 c2 c3 => ?_⟩
          · rw [zup_s]; exact g1
          · rw [zup_n (by decide), zup_s, ← g2]
            first | rw [if_pos (by assumption)] | rw [if_neg (by assumption)]
          · rw [zup_n (fun q => i1 q.2), zup_n (fun q => i2 q.2), ki i i1 i2]
          · rw [← kc c c1 c2 c3]
            funext i
            rw [zup_k c3, zup_k c3]
theorem l_X9_findRows1 (d L x1 x2 n m t : Nat) (u v w : Int) (μ : zM) (hL : L ≤ 3) (h1 : x1 < 30) (h2 : x2 < 30) (hH : zMs μ n m t u) (hok : rOk n m (μ 114)) : ∀ (t0 k : Nat), L - k = t0 → k ≤ L → zA RX9 cX9_findRows 8 (zRm (d + 5) 0) zN0 TF 0 μ 6 [some (zR 110), some (zI (L : Int)), some (zI (x1 : Int)), some (zI v), some (zI (x2 : Int)), some (zI w), some (zI (((36 ^ k : Nat) : Int))), some (zI (k : Int))] [] (zPv (fun ξ => ξ 110 30 = (tot (rF x1 v x2 w) (rX u n (μ 114 30)) (mV m) L (μ 114) : Int) ∧ ξ 110 31 = gOb (fst (rF x1 v x2 w) (rX u n (μ 114 30)) (mV m) L (μ 114)) ∧ (∀ i, i ≠ 30 → i ≠ 31 → ξ 110 i = μ 110 i) ∧ ∀ c, c ≠ 122 → c ≠ 119 → c ≠ 110 → ξ c = μ c)) := by
  intro t0
  induction t0 using Nat.strongRecOn with
  | ind t0 ih =>
    intro k hk hkL
    refine zA_iload dX9_findRows_6 rfl ?_
    refine zA_iload_n dX9_findRows_8 rfl ?_
    refine zA_icmp_ge (tgt := 25) dX9_findRows_9 rfl (fun h9 => ?_) (fun h9 => ?_)
    · have hkL2 : k = L := by omega
      refine zA_aload_n dX9_findRows_25 rfl ?_
      refine zA_iconst dX9_findRows_26 rfl ?_
      refine zA_putI wX9_239 t_110 dX9_findRows_27 ?_
      refine zA_aload_n dX9_findRows_30 rfl ?_
      refine zA_iconst dX9_findRows_31 rfl ?_
      refine zA_putI wX9_242 t_110 dX9_findRows_32 ?_
      refine zA_iconst dX9_findRows_35 rfl ?_
      refine zA_istore (ls' := [some (zR 110), some (zI (L : Int)), some (zI (x1 : Int)), some (zI v), some (zI (x2 : Int)), some (zI w), some (zI (((36 ^ k : Nat) : Int))), some (zI 0)]) dX9_findRows_36 rfl rfl ?_
      refine zA_leq (ls' := [some (zR 110), some (zI (L : Int)), some (zI (x1 : Int)), some (zI v), some (zI (x2 : Int)), some (zI w), some (zI (((36 ^ L : Nat) : Int))), some (zI 0)]) (by rw [hkL2]) ?_
      refine l_X9_findRows2 d L x1 x2 n m t u v w μ hL h1 h2 hH hok _ 0 rfl (Nat.zero_le _) _ ⟨?_, zup_s, fun i i1 i2 => ?_, fun c c1 c2 c3 => ?_⟩
      · rw [zup_n (by decide), zup_s]; rfl
      · rw [zup_n (fun q => i2 q.2), zup_n (fun q => i1 q.2)]
      · funext i
        rw [zup_k c3, zup_k c3]
    · have hp3 := pw3 (show k + 1 ≤ 3 by omega)
      have hps : 36 ^ (k + 1) = 36 ^ k * 36 := by rw [Nat.pow_succ]
      refine zA_iload dX9_findRows_12 rfl ?_
      refine zA_bipush dX9_findRows_14 rfl ?_
      refine zA_imulE (w := ((36 ^ (k + 1) : Nat) : Int)) dX9_findRows_16 ⟨by omega, by omega⟩ (by omega) ?_
      refine zA_istore (ls' := [some (zR 110), some (zI (L : Int)), some (zI (x1 : Int)), some (zI v), some (zI (x2 : Int)), some (zI w), some (zI (((36 ^ (k + 1) : Nat) : Int))), some (zI (k : Int))]) dX9_findRows_17 rfl rfl ?_
      refine zA_iincB (ls' := [some (zR 110), some (zI (L : Int)), some (zI (x1 : Int)), some (zI v), some (zI (x2 : Int)), some (zI w), some (zI (((36 ^ (k + 1) : Nat) : Int))), some (zI ((k : Int) + 1))]) dX9_findRows_19 rfl rfl ⟨by omega, by omega⟩ rfl ?_
      refine zA_goto (tgt := 6) dX9_findRows_22 rfl ?_
      exact ih _ (by omega) (k + 1) rfl (by omega)
theorem c_X9_findRows (d L x1 x2 n m t : Nat) (u v w : Int) (μ : zM) (hL : L ≤ 3) (h1 : x1 < 30) (h2 : x2 < 30) (hH : zMs μ n m t u) (hok : rOk n m (μ 114)) : zMet (d + 5) 0 yX9_findRows cX9_findRows 8 none TF μ [zR 110, zI (L : Int), zI (x1 : Int), zI v, zI (x2 : Int), zI w] (zPv (fun ξ => ξ 110 30 = (tot (rF x1 v x2 w) (rX u n (μ 114 30)) (mV m) L (μ 114) : Int) ∧ ξ 110 31 = gOb (fst (rF x1 v x2 w) (rX u n (μ 114 30)) (mV m) L (μ 114)) ∧ (∀ i, i ≠ 30 → i ≠ 31 → ξ 110 i = μ 110 i) ∧ ∀ c, c ≠ 122 → c ≠ 119 → c ≠ 110 → ξ c = μ c)) := by
  refine zMv_of RX9 rfl (by decide) rfl (ls := [some (zR 110), some (zI (L : Int)), some (zI (x1 : Int)), some (zI v), some (zI (x2 : Int)), some (zI w), none, none]) rfl (fun hok0 => ?_)
  refine zA_iconst dX9_findRows_0 rfl ?_
  refine zA_istore (ls' := [some (zR 110), some (zI (L : Int)), some (zI (x1 : Int)), some (zI v), some (zI (x2 : Int)), some (zI w), some (zI 1), none]) dX9_findRows_1 rfl rfl ?_
  refine zA_iconst dX9_findRows_3 rfl ?_
  refine zA_istore (ls' := [some (zR 110), some (zI (L : Int)), some (zI (x1 : Int)), some (zI v), some (zI (x2 : Int)), some (zI w), some (zI 1), some (zI 0)]) dX9_findRows_4 rfl rfl ?_
  exact l_X9_findRows1 d L x1 x2 n m t u v w μ hL h1 h2 hH hok _ 0 rfl (by omega)
theorem l_X9_came (d n m t : Nat) (u a c v e w i : Int) (μ : zM) (hH : zMs μ n m t u) (hok : rOk n m (μ 114)) (ha : 0 ≤ a ∧ a < 6) (hc : 0 ≤ c ∧ c < 5) (he : 0 ≤ e ∧ e < 5) : ∀ (t0 k : Nat), 4 - k = t0 → k ≤ 3 → fB (fun L => decide (0 < (tot (rF (5 * a + c).toNat v (5 * a + e).toNat w) (rX u n (μ 114 30)) (mV m) L (μ 114)))) k = none → ∀ ν : zM, (ν 110 30 = ((tot (rF (5 * a + c).toNat v (5 * a + e).toNat w) (rX u n (μ 114 30)) (mV m) k (μ 114)) : Int) ∧ ν 110 31 = gOb (fst (rF (5 * a + c).toNat v (5 * a + e).toNat w) (rX u n (μ 114 30)) (mV m) k (μ 114)) ∧ (∀ i, i ≠ 30 → i ≠ 31 → ν 110 i = μ 110 i) ∧ ∀ c, c ≠ 122 → c ≠ 119 → c ≠ 110 → ν c = μ c) → zA RX9 cX9_came 9 (zRm (d + 6) 0) zN0 TF 0 ν 74 [some (zR 110), some (zI a), some (zI c), some (zI v), some (zI e), some (zI w), some (zI i), some (zI (k : Int)), none] [] (zPi (fun r ξ => r = cV (fun L => tot (rF (5 * a + c).toNat v (5 * a + e).toNat w) (rX u n (μ 114 30)) (mV m) L (μ 114)) (fun L => fst (rF (5 * a + c).toNat v (5 * a + e).toNat w) (rX u n (μ 114 30)) (mV m) L (μ 114)) i ∧ (∀ i, i ≠ 30 → i ≠ 31 → ξ 110 i = μ 110 i) ∧ ∀ c, c ≠ 122 → c ≠ 119 → c ≠ 110 → ξ c = μ c)) := by
  intro t0
  induction t0 using Nat.strongRecOn with
  | ind t0 ih =>
    intro k hk hk3 hnone ν hst
    obtain ⟨f1, f2, f3, f4⟩ := hst
    have hHν : zMs ν n m t u := by
      obtain ⟨y1, y2, y3, y4, y5⟩ := hH
      exact ⟨by rw [f3 0 (by decide) (by decide)]; exact y1, by rw [f3 1 (by decide) (by decide)]; exact y2, by rw [f3 2 (by decide) (by decide)]; exact y3, by rw [f3 5 (by decide) (by decide)]; exact y4, by rw [f4 112 (by decide) (by decide) (by decide), f4 113 (by decide) (by decide) (by decide)]; exact y5⟩
    refine zA_aload_n dX9_came_74 rfl ?_
    refine zA_getE (w := ((tot (rF (5 * a + c).toNat v (5 * a + e).toNat w) (rX u n (μ 114 30)) (mV m) k (μ 114)) : Int)) fX9_239 t_110 dX9_came_75 f1 ?_
    refine zA_if_ne (tgt := 113) dX9_came_78 rfl (fun h78 => ?_) (fun h78 => ?_)
    · have hTl : (tot (rF (5 * a + c).toNat v (5 * a + e).toNat w) (rX u n (μ 114 30)) (mV m) k (μ 114)) ≤ 46656 := cN_bd (by omega)
      refine zA_aload_n dX9_came_113 rfl ?_
      refine zA_getE (w := ((tot (rF (5 * a + c).toNat v (5 * a + e).toNat w) (rX u n (μ 114 30)) (mV m) k (μ 114)) : Int)) fX9_239 t_110 dX9_came_114 f1 ?_
      refine zA_if_ne (tgt := 122) dX9_came_117 rfl (fun h117 => ?_) (fun h117 => ?_)
      · obtain ⟨C, hC⟩ : ∃ C, (fst (rF (5 * a + c).toNat v (5 * a + e).toNat w) (rX u n (μ 114 30)) (mV m) k (μ 114)) = some C := by
          cases hx : (fst (rF (5 * a + c).toNat v (5 * a + e).toNat w) (rX u n (μ 114 30)) (mV m) k (μ 114)) with
          | none => exfalso; have := tot_fst.mpr hx; omega
          | some C => exact ⟨C, rfl⟩
        have hCl : C < 36 ^ k := (fB_lt hC).1
        have hpk := pw3 (show k ≤ 3 by omega)
        refine zA_iload dX9_came_122 rfl ?_
        refine zA_iconst dX9_came_124 rfl ?_
        refine zA_icmp_eq (tgt := 135) dX9_came_125 rfl (fun h125 => ?_) (fun h125 => ?_)
        · refine zA_iload dX9_came_135 rfl ?_
          refine zA_iconst dX9_came_137 rfl ?_
          refine zA_icmp_ne (tgt := 146) dX9_came_138 rfl (fun h138 => ?_) (fun h138 => ?_)
          · refine zA_aload_n dX9_came_146 rfl ?_
            refine zA_getE (w := ((tot (rF (5 * a + c).toNat v (5 * a + e).toNat w) (rX u n (μ 114 30)) (mV m) k (μ 114)) : Int)) fX9_239 t_110 dX9_came_147 f1 ?_
            refine zA_ri dX9_came_150 ⟨?_, f3, f4⟩
            unfold cV
            first
              | (exfalso; omega)
              | (have hF : fB (fun L => decide (0 < (tot (rF (5 * a + c).toNat v (5 * a + e).toNat w) (rX u n (μ 114 30)) (mV m) L (μ 114)))) 4 = none := by
                   rw [show (4 : Nat) = k + 1 by omega]
                   exact fB_no hnone (decide_eq_false (by omega))
                 rw [hF])
              | (have hF : fB (fun L => decide (0 < (tot (rF (5 * a + c).toNat v (5 * a + e).toNat w) (rX u n (μ 114 30)) (mV m) L (μ 114)))) 4 = some k := fB_yes hnone (decide_eq_true (by omega)) 4 (by omega)
                 rw [hF]
                 simp only
                 first
                   | (rw [if_pos (by omega)]; done)
                   | (rw [if_neg (by omega), if_pos (by omega)]; done)
                   | (rw [if_neg (by omega), if_neg (by omega), if_neg (fun q => by have := bi.mpr ⟨q.1, by omega⟩; simp_all)]; done)
                   | (rw [if_neg (by omega), if_neg (by omega), if_pos (by have := bi.mp (by simpa using h163); omega), hC]
                      show _ = pv (C / 36 ^ (k - 1 - i.toNat) % 36)
                      rw [← hp]
                      rfl))
          · refine zA_iload dX9_came_141 rfl ?_
            refine zA_goto (tgt := 150) dX9_came_143 rfl ?_
            refine zA_ri dX9_came_150 ⟨?_, f3, f4⟩
            unfold cV
            first
              | (exfalso; omega)
              | (have hF : fB (fun L => decide (0 < (tot (rF (5 * a + c).toNat v (5 * a + e).toNat w) (rX u n (μ 114 30)) (mV m) L (μ 114)))) 4 = none := by
                   rw [show (4 : Nat) = k + 1 by omega]
                   exact fB_no hnone (decide_eq_false (by omega))
                 rw [hF])
              | (have hF : fB (fun L => decide (0 < (tot (rF (5 * a + c).toNat v (5 * a + e).toNat w) (rX u n (μ 114 30)) (mV m) L (μ 114)))) 4 = some k := fB_yes hnone (decide_eq_true (by omega)) 4 (by omega)
                 rw [hF]
                 simp only
                 first
                   | (rw [if_pos (by omega)]; done)
                   | (rw [if_neg (by omega), if_pos (by omega)]; done)
                   | (rw [if_neg (by omega), if_neg (by omega), if_neg (fun q => by have := bi.mpr ⟨q.1, by omega⟩; simp_all)]; done)
                   | (rw [if_neg (by omega), if_neg (by omega), if_pos (by have := bi.mp (by simpa using h163); omega), hC]
                      show _ = pv (C / 36 ^ (k - 1 - i.toNat) % 36)
                      rw [← hp]
                      rfl))
        · refine zA_iload dX9_came_128 rfl ?_
          refine zA_bipush dX9_came_130 rfl ?_
          refine zA_icmp_ne (tgt := 151) dX9_came_132 rfl (fun h132 => ?_) (fun h132 => ?_)
          · refine zA_iload dX9_came_151 rfl ?_
            refine zA_i2l dX9_came_153 ?_
            refine zA_lconst (v := 0) dX9_came_154 rfl rfl ?_
            refine zA_iload dX9_came_155 rfl ?_
            refine zA_iconst dX9_came_157 rfl ?_
            refine zA_isubB dX9_came_158 ⟨by omega, by omega⟩ ?_
            refine zA_i2l dX9_came_159 ?_
            refine zA_cSb (st := []) kX9_81 (c_X9_in (d + 4) i 0 ((k : Int) - 1) ν) rfl rfl rfl dX9_came_160 (zfit0 (by omega) rfl) (fun v1 μ1 q1 => ?_)
            obtain ⟨bi, rfl⟩ := q1
            refine zA_ifb_eq (tgt := 180) dX9_came_163 rfl (fun h163 => ?_) (fun h163 => ?_)
            · refine zA_iconst dX9_came_180 rfl ?_
              refine zA_istore (ls' := [some (zR 110), some (zI a), some (zI c), some (zI v), some (zI e), some (zI w), some (zI i), some (zI (k : Int)), some (zI (-1))]) dX9_came_181 rfl rfl ?_
              refine zA_iload dX9_came_183 rfl ?_
              refine zA_if_ge (tgt := 192) dX9_came_185 rfl (fun h185 => False.elim (by omega)) fun h185 => ?_
              refine zA_iconst dX9_came_188 rfl ?_
              refine zA_goto (tgt := 206) dX9_came_189 rfl ?_
              refine zA_ri dX9_came_206 ⟨?_, f3, f4⟩
              unfold cV
              first
                | (exfalso; omega)
                | (have hF : fB (fun L => decide (0 < (tot (rF (5 * a + c).toNat v (5 * a + e).toNat w) (rX u n (μ 114 30)) (mV m) L (μ 114)))) 4 = none := by
                     rw [show (4 : Nat) = k + 1 by omega]
                     exact fB_no hnone (decide_eq_false (by omega))
                   rw [hF])
                | (have hF : fB (fun L => decide (0 < (tot (rF (5 * a + c).toNat v (5 * a + e).toNat w) (rX u n (μ 114 30)) (mV m) L (μ 114)))) 4 = some k := fB_yes hnone (decide_eq_true (by omega)) 4 (by omega)
                   rw [hF]
                   simp only
                   first
                     | (rw [if_pos (by omega)]; done)
                     | (rw [if_neg (by omega), if_pos (by omega)]; done)
                     | (rw [if_neg (by omega), if_neg (by omega), if_neg (fun q => by have := bi.mpr ⟨q.1, by omega⟩; simp_all)]; done)
                     | (rw [if_neg (by omega), if_neg (by omega), if_pos (by have := bi.mp (by simpa using h163); omega), hC]
                        show _ = pv (C / 36 ^ (k - 1 - i.toNat) % 36)
                        rw [← hp]
                        rfl))
            · have hbi := bi.mp (by simpa using h163)
              refine zA_aload_n dX9_came_166 rfl ?_
              refine zA_getE (w := (C : Int)) fX9_242 t_110 dX9_came_167 (by rw [f2, hC]; rfl) ?_
              refine zA_iload dX9_came_170 rfl ?_
              refine zA_iload dX9_came_172 rfl ?_
              refine zA_cSi (st := []) kX9_235 (c_X9_figureI (d + 4) C k i ν (by omega) (by omega) (by omega) (by omega)) rfl rfl rfl dX9_came_174 (zfit0 (by omega) rfl) (fun v2 μ2 q2 => ?_)
              obtain ⟨e1, rfl⟩ := q2
              obtain ⟨p, hp⟩ : ∃ p, p = C / 36 ^ (k - 1 - i.toNat) % 36 := ⟨_, rfl⟩
              rw [← hp] at e1
              have hp36 : p < 36 := by rw [hp]; exact Nat.mod_lt _ (by decide)
              subst e1
              refine zA_goto (tgt := 181) dX9_came_177 rfl ?_
              refine zA_istore (ls' := [some (zR 110), some (zI a), some (zI c), some (zI v), some (zI e), some (zI w), some (zI i), some (zI (k : Int)), some (zI (p : Int))]) dX9_came_181 rfl rfl ?_
              refine zA_iload dX9_came_183 rfl ?_
              refine zA_if_ge (tgt := 192) dX9_came_185 rfl (fun h185 => ?_) (fun h185 => ?_)
              · refine zA_bipush dX9_came_192 rfl ?_
                refine zA_iload dX9_came_194 rfl ?_
                refine zA_bipush dX9_came_196 rfl ?_
                refine zA_idivE (w := ((p / 6 : Nat) : Int)) dX9_came_198 (by omega) (by omega) (by omega) ?_
                refine zA_imulB dX9_came_199 ⟨by omega, by omega⟩ ?_
                refine zA_iload dX9_came_200 rfl ?_
                refine zA_bipush dX9_came_202 rfl ?_
                refine zA_iremE (w := ((p % 6 : Nat) : Int)) dX9_came_204 (by omega) (by omega) (by omega) ?_
                refine zA_iaddB dX9_came_205 ⟨by omega, by omega⟩ ?_
                refine zA_ri dX9_came_206 ⟨?_, f3, f4⟩
                unfold cV
                first
                  | (exfalso; omega)
                  | (have hF : fB (fun L => decide (0 < (tot (rF (5 * a + c).toNat v (5 * a + e).toNat w) (rX u n (μ 114 30)) (mV m) L (μ 114)))) 4 = none := by
                       rw [show (4 : Nat) = k + 1 by omega]
                       exact fB_no hnone (decide_eq_false (by omega))
                     rw [hF])
                  | (have hF : fB (fun L => decide (0 < (tot (rF (5 * a + c).toNat v (5 * a + e).toNat w) (rX u n (μ 114 30)) (mV m) L (μ 114)))) 4 = some k := fB_yes hnone (decide_eq_true (by omega)) 4 (by omega)
                     rw [hF]
                     simp only
                     first
                       | (rw [if_pos (by omega)]; done)
                       | (rw [if_neg (by omega), if_pos (by omega)]; done)
                       | (rw [if_neg (by omega), if_neg (by omega), if_neg (fun q => by have := bi.mpr ⟨q.1, by omega⟩; simp_all)]; done)
                       | (rw [if_neg (by omega), if_neg (by omega), if_pos (by have := bi.mp (by simpa using h163); omega), hC]
                          show _ = pv (C / 36 ^ (k - 1 - i.toNat) % 36)
                          rw [← hp]
                          rfl))
              · refine zA_iconst dX9_came_188 rfl ?_
                refine zA_goto (tgt := 206) dX9_came_189 rfl ?_
                refine zA_ri dX9_came_206 ⟨?_, f3, f4⟩
                unfold cV
                first
                  | (exfalso; omega)
                  | (have hF : fB (fun L => decide (0 < (tot (rF (5 * a + c).toNat v (5 * a + e).toNat w) (rX u n (μ 114 30)) (mV m) L (μ 114)))) 4 = none := by
                       rw [show (4 : Nat) = k + 1 by omega]
                       exact fB_no hnone (decide_eq_false (by omega))
                     rw [hF])
                  | (have hF : fB (fun L => decide (0 < (tot (rF (5 * a + c).toNat v (5 * a + e).toNat w) (rX u n (μ 114 30)) (mV m) L (μ 114)))) 4 = some k := fB_yes hnone (decide_eq_true (by omega)) 4 (by omega)
                     rw [hF]
                     simp only
                     first
                       | (rw [if_pos (by omega)]; done)
                       | (rw [if_neg (by omega), if_pos (by omega)]; done)
                       | (rw [if_neg (by omega), if_neg (by omega), if_neg (fun q => by have := bi.mpr ⟨q.1, by omega⟩; simp_all)]; done)
                       | (rw [if_neg (by omega), if_neg (by omega), if_pos (by have := bi.mp (by simpa using h163); omega), hC]
                          show _ = pv (C / 36 ^ (k - 1 - i.toNat) % 36)
                          rw [← hp]
                          rfl))
          · refine zA_iload dX9_came_135 rfl ?_
            refine zA_iconst dX9_came_137 rfl ?_
            refine zA_icmp_ne (tgt := 146) dX9_came_138 rfl (fun h138 => ?_) (fun h138 => ?_)
            · refine zA_aload_n dX9_came_146 rfl ?_
              refine zA_getE (w := ((tot (rF (5 * a + c).toNat v (5 * a + e).toNat w) (rX u n (μ 114 30)) (mV m) k (μ 114)) : Int)) fX9_239 t_110 dX9_came_147 f1 ?_
              refine zA_ri dX9_came_150 ⟨?_, f3, f4⟩
              unfold cV
              first
                | (exfalso; omega)
                | (have hF : fB (fun L => decide (0 < (tot (rF (5 * a + c).toNat v (5 * a + e).toNat w) (rX u n (μ 114 30)) (mV m) L (μ 114)))) 4 = none := by
                     rw [show (4 : Nat) = k + 1 by omega]
                     exact fB_no hnone (decide_eq_false (by omega))
                   rw [hF])
                | (have hF : fB (fun L => decide (0 < (tot (rF (5 * a + c).toNat v (5 * a + e).toNat w) (rX u n (μ 114 30)) (mV m) L (μ 114)))) 4 = some k := fB_yes hnone (decide_eq_true (by omega)) 4 (by omega)
                   rw [hF]
                   simp only
                   first
                     | (rw [if_pos (by omega)]; done)
                     | (rw [if_neg (by omega), if_pos (by omega)]; done)
                     | (rw [if_neg (by omega), if_neg (by omega), if_neg (fun q => by have := bi.mpr ⟨q.1, by omega⟩; simp_all)]; done)
                     | (rw [if_neg (by omega), if_neg (by omega), if_pos (by have := bi.mp (by simpa using h163); omega), hC]
                        show _ = pv (C / 36 ^ (k - 1 - i.toNat) % 36)
                        rw [← hp]
                        rfl))
            · refine zA_iload dX9_came_141 rfl ?_
              refine zA_goto (tgt := 150) dX9_came_143 rfl ?_
              refine zA_ri dX9_came_150 ⟨?_, f3, f4⟩
              unfold cV
              first
                | (exfalso; omega)
                | (have hF : fB (fun L => decide (0 < (tot (rF (5 * a + c).toNat v (5 * a + e).toNat w) (rX u n (μ 114 30)) (mV m) L (μ 114)))) 4 = none := by
                     rw [show (4 : Nat) = k + 1 by omega]
                     exact fB_no hnone (decide_eq_false (by omega))
                   rw [hF])
                | (have hF : fB (fun L => decide (0 < (tot (rF (5 * a + c).toNat v (5 * a + e).toNat w) (rX u n (μ 114 30)) (mV m) L (μ 114)))) 4 = some k := fB_yes hnone (decide_eq_true (by omega)) 4 (by omega)
                   rw [hF]
                   simp only
                   first
                     | (rw [if_pos (by omega)]; done)
                     | (rw [if_neg (by omega), if_pos (by omega)]; done)
                     | (rw [if_neg (by omega), if_neg (by omega), if_neg (fun q => by have := bi.mpr ⟨q.1, by omega⟩; simp_all)]; done)
                     | (rw [if_neg (by omega), if_neg (by omega), if_pos (by have := bi.mp (by simpa using h163); omega), hC]
                        show _ = pv (C / 36 ^ (k - 1 - i.toNat) % 36)
                        rw [← hp]
                        rfl))
      · refine zA_iconst dX9_came_120 rfl ?_
        refine zA_ri dX9_came_121 ⟨?_, f3, f4⟩
        unfold cV
        first
          | (exfalso; omega)
          | (have hF : fB (fun L => decide (0 < (tot (rF (5 * a + c).toNat v (5 * a + e).toNat w) (rX u n (μ 114 30)) (mV m) L (μ 114)))) 4 = none := by
               rw [show (4 : Nat) = k + 1 by omega]
               exact fB_no hnone (decide_eq_false (by omega))
             rw [hF])
          | (have hF : fB (fun L => decide (0 < (tot (rF (5 * a + c).toNat v (5 * a + e).toNat w) (rX u n (μ 114 30)) (mV m) L (μ 114)))) 4 = some k := fB_yes hnone (decide_eq_true (by omega)) 4 (by omega)
             rw [hF]
             simp only
             first
               | (rw [if_pos (by omega)]; done)
               | (rw [if_neg (by omega), if_pos (by omega)]; done)
               | (rw [if_neg (by omega), if_neg (by omega), if_neg (fun q => by have := bi.mpr ⟨q.1, by omega⟩; simp_all)]; done)
               | (rw [if_neg (by omega), if_neg (by omega), if_pos (by have := bi.mp (by simpa using h163); omega), hC]
                  show _ = pv (C / 36 ^ (k - 1 - i.toNat) % 36)
                  rw [← hp]
                  rfl))
    · refine zA_iload dX9_came_81 rfl ?_
      refine zA_iconst dX9_came_83 rfl ?_
      refine zA_icmp_ge (tgt := 113) dX9_came_84 rfl (fun h84 => ?_) (fun h84 => ?_)
      · have hTl : (tot (rF (5 * a + c).toNat v (5 * a + e).toNat w) (rX u n (μ 114 30)) (mV m) k (μ 114)) ≤ 46656 := cN_bd (by omega)
        refine zA_aload_n dX9_came_113 rfl ?_
        refine zA_getE (w := ((tot (rF (5 * a + c).toNat v (5 * a + e).toNat w) (rX u n (μ 114 30)) (mV m) k (μ 114)) : Int)) fX9_239 t_110 dX9_came_114 f1 ?_
        refine zA_if_ne (tgt := 122) dX9_came_117 rfl (fun h117 => ?_) (fun h117 => ?_)
        · obtain ⟨C, hC⟩ : ∃ C, (fst (rF (5 * a + c).toNat v (5 * a + e).toNat w) (rX u n (μ 114 30)) (mV m) k (μ 114)) = some C := by
            cases hx : (fst (rF (5 * a + c).toNat v (5 * a + e).toNat w) (rX u n (μ 114 30)) (mV m) k (μ 114)) with
            | none => exfalso; have := tot_fst.mpr hx; omega
            | some C => exact ⟨C, rfl⟩
          have hCl : C < 36 ^ k := (fB_lt hC).1
          have hpk := pw3 (show k ≤ 3 by omega)
          refine zA_iload dX9_came_122 rfl ?_
          refine zA_iconst dX9_came_124 rfl ?_
          refine zA_icmp_eq (tgt := 135) dX9_came_125 rfl (fun h125 => ?_) (fun h125 => ?_)
          · refine zA_iload dX9_came_135 rfl ?_
            refine zA_iconst dX9_came_137 rfl ?_
            refine zA_icmp_ne (tgt := 146) dX9_came_138 rfl (fun h138 => ?_) (fun h138 => ?_)
            · refine zA_aload_n dX9_came_146 rfl ?_
              refine zA_getE (w := ((tot (rF (5 * a + c).toNat v (5 * a + e).toNat w) (rX u n (μ 114 30)) (mV m) k (μ 114)) : Int)) fX9_239 t_110 dX9_came_147 f1 ?_
              refine zA_ri dX9_came_150 ⟨?_, f3, f4⟩
              unfold cV
              first
                | (exfalso; omega)
                | (have hF : fB (fun L => decide (0 < (tot (rF (5 * a + c).toNat v (5 * a + e).toNat w) (rX u n (μ 114 30)) (mV m) L (μ 114)))) 4 = none := by
                     rw [show (4 : Nat) = k + 1 by omega]
                     exact fB_no hnone (decide_eq_false (by omega))
                   rw [hF])
                | (have hF : fB (fun L => decide (0 < (tot (rF (5 * a + c).toNat v (5 * a + e).toNat w) (rX u n (μ 114 30)) (mV m) L (μ 114)))) 4 = some k := fB_yes hnone (decide_eq_true (by omega)) 4 (by omega)
                   rw [hF]
                   simp only
                   first
                     | (rw [if_pos (by omega)]; done)
                     | (rw [if_neg (by omega), if_pos (by omega)]; done)
                     | (rw [if_neg (by omega), if_neg (by omega), if_neg (fun q => by have := bi.mpr ⟨q.1, by omega⟩; simp_all)]; done)
                     | (rw [if_neg (by omega), if_neg (by omega), if_pos (by have := bi.mp (by simpa using h163); omega), hC]
                        show _ = pv (C / 36 ^ (k - 1 - i.toNat) % 36)
                        rw [← hp]
                        rfl))
            · refine zA_iload dX9_came_141 rfl ?_
              refine zA_goto (tgt := 150) dX9_came_143 rfl ?_
              refine zA_ri dX9_came_150 ⟨?_, f3, f4⟩
              unfold cV
              first
                | (exfalso; omega)
                | (have hF : fB (fun L => decide (0 < (tot (rF (5 * a + c).toNat v (5 * a + e).toNat w) (rX u n (μ 114 30)) (mV m) L (μ 114)))) 4 = none := by
                     rw [show (4 : Nat) = k + 1 by omega]
                     exact fB_no hnone (decide_eq_false (by omega))
                   rw [hF])
                | (have hF : fB (fun L => decide (0 < (tot (rF (5 * a + c).toNat v (5 * a + e).toNat w) (rX u n (μ 114 30)) (mV m) L (μ 114)))) 4 = some k := fB_yes hnone (decide_eq_true (by omega)) 4 (by omega)
                   rw [hF]
                   simp only
                   first
                     | (rw [if_pos (by omega)]; done)
                     | (rw [if_neg (by omega), if_pos (by omega)]; done)
                     | (rw [if_neg (by omega), if_neg (by omega), if_neg (fun q => by have := bi.mpr ⟨q.1, by omega⟩; simp_all)]; done)
                     | (rw [if_neg (by omega), if_neg (by omega), if_pos (by have := bi.mp (by simpa using h163); omega), hC]
                        show _ = pv (C / 36 ^ (k - 1 - i.toNat) % 36)
                        rw [← hp]
                        rfl))
          · refine zA_iload dX9_came_128 rfl ?_
            refine zA_bipush dX9_came_130 rfl ?_
            refine zA_icmp_ne (tgt := 151) dX9_came_132 rfl (fun h132 => ?_) (fun h132 => ?_)
            · refine zA_iload dX9_came_151 rfl ?_
              refine zA_i2l dX9_came_153 ?_
              refine zA_lconst (v := 0) dX9_came_154 rfl rfl ?_
              refine zA_iload dX9_came_155 rfl ?_
              refine zA_iconst dX9_came_157 rfl ?_
              refine zA_isubB dX9_came_158 ⟨by omega, by omega⟩ ?_
              refine zA_i2l dX9_came_159 ?_
              refine zA_cSb (st := []) kX9_81 (c_X9_in (d + 4) i 0 ((k : Int) - 1) ν) rfl rfl rfl dX9_came_160 (zfit0 (by omega) rfl) (fun v3 μ3 q3 => ?_)
              obtain ⟨bi, rfl⟩ := q3
              refine zA_ifb_eq (tgt := 180) dX9_came_163 rfl (fun h163 => ?_) (fun h163 => ?_)
              · refine zA_iconst dX9_came_180 rfl ?_
                refine zA_istore (ls' := [some (zR 110), some (zI a), some (zI c), some (zI v), some (zI e), some (zI w), some (zI i), some (zI (k : Int)), some (zI (-1))]) dX9_came_181 rfl rfl ?_
                refine zA_iload dX9_came_183 rfl ?_
                refine zA_if_ge (tgt := 192) dX9_came_185 rfl (fun h185 => False.elim (by omega)) fun h185 => ?_
                refine zA_iconst dX9_came_188 rfl ?_
                refine zA_goto (tgt := 206) dX9_came_189 rfl ?_
                refine zA_ri dX9_came_206 ⟨?_, f3, f4⟩
                unfold cV
                first
                  | (exfalso; omega)
                  | (have hF : fB (fun L => decide (0 < (tot (rF (5 * a + c).toNat v (5 * a + e).toNat w) (rX u n (μ 114 30)) (mV m) L (μ 114)))) 4 = none := by
                       rw [show (4 : Nat) = k + 1 by omega]
                       exact fB_no hnone (decide_eq_false (by omega))
                     rw [hF])
                  | (have hF : fB (fun L => decide (0 < (tot (rF (5 * a + c).toNat v (5 * a + e).toNat w) (rX u n (μ 114 30)) (mV m) L (μ 114)))) 4 = some k := fB_yes hnone (decide_eq_true (by omega)) 4 (by omega)
                     rw [hF]
                     simp only
                     first
                       | (rw [if_pos (by omega)]; done)
                       | (rw [if_neg (by omega), if_pos (by omega)]; done)
                       | (rw [if_neg (by omega), if_neg (by omega), if_neg (fun q => by have := bi.mpr ⟨q.1, by omega⟩; simp_all)]; done)
                       | (rw [if_neg (by omega), if_neg (by omega), if_pos (by have := bi.mp (by simpa using h163); omega), hC]
                          show _ = pv (C / 36 ^ (k - 1 - i.toNat) % 36)
                          rw [← hp]
                          rfl))
              · have hbi := bi.mp (by simpa using h163)
                refine zA_aload_n dX9_came_166 rfl ?_
                refine zA_getE (w := (C : Int)) fX9_242 t_110 dX9_came_167 (by rw [f2, hC]; rfl) ?_
                refine zA_iload dX9_came_170 rfl ?_
                refine zA_iload dX9_came_172 rfl ?_
                refine zA_cSi (st := []) kX9_235 (c_X9_figureI (d + 4) C k i ν (by omega) (by omega) (by omega) (by omega)) rfl rfl rfl dX9_came_174 (zfit0 (by omega) rfl) (fun v4 μ4 q4 => ?_)
                obtain ⟨e1, rfl⟩ := q4
                obtain ⟨p, hp⟩ : ∃ p, p = C / 36 ^ (k - 1 - i.toNat) % 36 := ⟨_, rfl⟩
                rw [← hp] at e1
                have hp36 : p < 36 := by rw [hp]; exact Nat.mod_lt _ (by decide)
                subst e1
                refine zA_goto (tgt := 181) dX9_came_177 rfl ?_
                refine zA_istore (ls' := [some (zR 110), some (zI a), some (zI c), some (zI v), some (zI e), some (zI w), some (zI i), some (zI (k : Int)), some (zI (p : Int))]) dX9_came_181 rfl rfl ?_
                refine zA_iload dX9_came_183 rfl ?_
                refine zA_if_ge (tgt := 192) dX9_came_185 rfl (fun h185 => ?_) (fun h185 => ?_)
                · refine zA_bipush dX9_came_192 rfl ?_
                  refine zA_iload dX9_came_194 rfl ?_
                  refine zA_bipush dX9_came_196 rfl ?_
                  refine zA_idivE (w := ((p / 6 : Nat) : Int)) dX9_came_198 (by omega) (by omega) (by omega) ?_
                  refine zA_imulB dX9_came_199 ⟨by omega, by omega⟩ ?_
                  refine zA_iload dX9_came_200 rfl ?_
                  refine zA_bipush dX9_came_202 rfl ?_
                  refine zA_iremE (w := ((p % 6 : Nat) : Int)) dX9_came_204 (by omega) (by omega) (by omega) ?_
                  refine zA_iaddB dX9_came_205 ⟨by omega, by omega⟩ ?_
                  refine zA_ri dX9_came_206 ⟨?_, f3, f4⟩
                  unfold cV
                  first
                    | (exfalso; omega)
                    | (have hF : fB (fun L => decide (0 < (tot (rF (5 * a + c).toNat v (5 * a + e).toNat w) (rX u n (μ 114 30)) (mV m) L (μ 114)))) 4 = none := by
                         rw [show (4 : Nat) = k + 1 by omega]
                         exact fB_no hnone (decide_eq_false (by omega))
                       rw [hF])
                    | (have hF : fB (fun L => decide (0 < (tot (rF (5 * a + c).toNat v (5 * a + e).toNat w) (rX u n (μ 114 30)) (mV m) L (μ 114)))) 4 = some k := fB_yes hnone (decide_eq_true (by omega)) 4 (by omega)
                       rw [hF]
                       simp only
                       first
                         | (rw [if_pos (by omega)]; done)
                         | (rw [if_neg (by omega), if_pos (by omega)]; done)
                         | (rw [if_neg (by omega), if_neg (by omega), if_neg (fun q => by have := bi.mpr ⟨q.1, by omega⟩; simp_all)]; done)
                         | (rw [if_neg (by omega), if_neg (by omega), if_pos (by have := bi.mp (by simpa using h163); omega), hC]
                            show _ = pv (C / 36 ^ (k - 1 - i.toNat) % 36)
                            rw [← hp]
                            rfl))
                · refine zA_iconst dX9_came_188 rfl ?_
                  refine zA_goto (tgt := 206) dX9_came_189 rfl ?_
                  refine zA_ri dX9_came_206 ⟨?_, f3, f4⟩
                  unfold cV
                  first
                    | (exfalso; omega)
                    | (have hF : fB (fun L => decide (0 < (tot (rF (5 * a + c).toNat v (5 * a + e).toNat w) (rX u n (μ 114 30)) (mV m) L (μ 114)))) 4 = none := by
                         rw [show (4 : Nat) = k + 1 by omega]
                         exact fB_no hnone (decide_eq_false (by omega))
                       rw [hF])
                    | (have hF : fB (fun L => decide (0 < (tot (rF (5 * a + c).toNat v (5 * a + e).toNat w) (rX u n (μ 114 30)) (mV m) L (μ 114)))) 4 = some k := fB_yes hnone (decide_eq_true (by omega)) 4 (by omega)
                       rw [hF]
                       simp only
                       first
                         | (rw [if_pos (by omega)]; done)
                         | (rw [if_neg (by omega), if_pos (by omega)]; done)
                         | (rw [if_neg (by omega), if_neg (by omega), if_neg (fun q => by have := bi.mpr ⟨q.1, by omega⟩; simp_all)]; done)
                         | (rw [if_neg (by omega), if_neg (by omega), if_pos (by have := bi.mp (by simpa using h163); omega), hC]
                            show _ = pv (C / 36 ^ (k - 1 - i.toNat) % 36)
                            rw [← hp]
                            rfl))
            · refine zA_iload dX9_came_135 rfl ?_
              refine zA_iconst dX9_came_137 rfl ?_
              refine zA_icmp_ne (tgt := 146) dX9_came_138 rfl (fun h138 => ?_) (fun h138 => ?_)
              · refine zA_aload_n dX9_came_146 rfl ?_
                refine zA_getE (w := ((tot (rF (5 * a + c).toNat v (5 * a + e).toNat w) (rX u n (μ 114 30)) (mV m) k (μ 114)) : Int)) fX9_239 t_110 dX9_came_147 f1 ?_
                refine zA_ri dX9_came_150 ⟨?_, f3, f4⟩
                unfold cV
                first
                  | (exfalso; omega)
                  | (have hF : fB (fun L => decide (0 < (tot (rF (5 * a + c).toNat v (5 * a + e).toNat w) (rX u n (μ 114 30)) (mV m) L (μ 114)))) 4 = none := by
                       rw [show (4 : Nat) = k + 1 by omega]
                       exact fB_no hnone (decide_eq_false (by omega))
                     rw [hF])
                  | (have hF : fB (fun L => decide (0 < (tot (rF (5 * a + c).toNat v (5 * a + e).toNat w) (rX u n (μ 114 30)) (mV m) L (μ 114)))) 4 = some k := fB_yes hnone (decide_eq_true (by omega)) 4 (by omega)
                     rw [hF]
                     simp only
                     first
                       | (rw [if_pos (by omega)]; done)
                       | (rw [if_neg (by omega), if_pos (by omega)]; done)
                       | (rw [if_neg (by omega), if_neg (by omega), if_neg (fun q => by have := bi.mpr ⟨q.1, by omega⟩; simp_all)]; done)
                       | (rw [if_neg (by omega), if_neg (by omega), if_pos (by have := bi.mp (by simpa using h163); omega), hC]
                          show _ = pv (C / 36 ^ (k - 1 - i.toNat) % 36)
                          rw [← hp]
                          rfl))
              · refine zA_iload dX9_came_141 rfl ?_
                refine zA_goto (tgt := 150) dX9_came_143 rfl ?_
                refine zA_ri dX9_came_150 ⟨?_, f3, f4⟩
                unfold cV
                first
                  | (exfalso; omega)
                  | (have hF : fB (fun L => decide (0 < (tot (rF (5 * a + c).toNat v (5 * a + e).toNat w) (rX u n (μ 114 30)) (mV m) L (μ 114)))) 4 = none := by
                       rw [show (4 : Nat) = k + 1 by omega]
                       exact fB_no hnone (decide_eq_false (by omega))
                     rw [hF])
                  | (have hF : fB (fun L => decide (0 < (tot (rF (5 * a + c).toNat v (5 * a + e).toNat w) (rX u n (μ 114 30)) (mV m) L (μ 114)))) 4 = some k := fB_yes hnone (decide_eq_true (by omega)) 4 (by omega)
                     rw [hF]
                     simp only
                     first
                       | (rw [if_pos (by omega)]; done)
                       | (rw [if_neg (by omega), if_pos (by omega)]; done)
                       | (rw [if_neg (by omega), if_neg (by omega), if_neg (fun q => by have := bi.mpr ⟨q.1, by omega⟩; simp_all)]; done)
                       | (rw [if_neg (by omega), if_neg (by omega), if_pos (by have := bi.mp (by simpa using h163); omega), hC]
                          show _ = pv (C / 36 ^ (k - 1 - i.toNat) % 36)
                          rw [← hp]
                          rfl))
        · refine zA_iconst dX9_came_120 rfl ?_
          refine zA_ri dX9_came_121 ⟨?_, f3, f4⟩
          unfold cV
          first
            | (exfalso; omega)
            | (have hF : fB (fun L => decide (0 < (tot (rF (5 * a + c).toNat v (5 * a + e).toNat w) (rX u n (μ 114 30)) (mV m) L (μ 114)))) 4 = none := by
                 rw [show (4 : Nat) = k + 1 by omega]
                 exact fB_no hnone (decide_eq_false (by omega))
               rw [hF])
            | (have hF : fB (fun L => decide (0 < (tot (rF (5 * a + c).toNat v (5 * a + e).toNat w) (rX u n (μ 114 30)) (mV m) L (μ 114)))) 4 = some k := fB_yes hnone (decide_eq_true (by omega)) 4 (by omega)
               rw [hF]
               simp only
               first
                 | (rw [if_pos (by omega)]; done)
                 | (rw [if_neg (by omega), if_pos (by omega)]; done)
                 | (rw [if_neg (by omega), if_neg (by omega), if_neg (fun q => by have := bi.mpr ⟨q.1, by omega⟩; simp_all)]; done)
                 | (rw [if_neg (by omega), if_neg (by omega), if_pos (by have := bi.mp (by simpa using h163); omega), hC]
                    show _ = pv (C / 36 ^ (k - 1 - i.toNat) % 36)
                    rw [← hp]
                    rfl))
      · refine zA_iincE (ls' := [some (zR 110), some (zI a), some (zI c), some (zI v), some (zI e), some (zI w), some (zI i), some (zI (((k + 1 : Nat) : Int))), none]) (w := ((k + 1 : Nat) : Int)) dX9_came_87 rfl rfl ⟨by omega, by omega⟩ (by omega) rfl ?_
        refine zA_aload_n dX9_came_90 rfl ?_
        refine zA_iload dX9_came_91 rfl ?_
        refine zA_iconst dX9_came_93 rfl ?_
        refine zA_iload_n dX9_came_94 rfl ?_
        refine zA_imulB dX9_came_95 ⟨by omega, by omega⟩ ?_
        refine zA_iload_n dX9_came_96 rfl ?_
        refine zA_iaddE (w := (((5 * a + c).toNat : Nat) : Int)) dX9_came_97 ⟨by omega, by omega⟩ (by omega) ?_
        refine zA_iload_n dX9_came_98 rfl ?_
        refine zA_iconst dX9_came_99 rfl ?_
        refine zA_iload_n dX9_came_100 rfl ?_
        refine zA_imulB dX9_came_101 ⟨by omega, by omega⟩ ?_
        refine zA_iload dX9_came_102 rfl ?_
        refine zA_iaddE (w := (((5 * a + e).toNat : Nat) : Int)) dX9_came_104 ⟨by omega, by omega⟩ (by omega) ?_
        refine zA_iload dX9_came_105 rfl ?_
        refine zA_cVv (st := []) kX9_252 t_110 rfl rfl (c_X9_findRows d (k + 1) (5 * a + c).toNat (5 * a + e).toNat n m t u v w ν (by omega) (by omega) (by omega) hHν (by rw [f4 114 (by decide) (by decide) (by decide)]; exact hok)) rfl rfl rfl dX9_came_107 (zfit0 (by omega) rfl) (fun μ5 q5 => ?_)
        obtain ⟨q1, q2, q3, q4⟩ := q5
        rw [f4 114 (by decide) (by decide) (by decide)] at q1 q2
        refine zA_goto (tgt := 74) dX9_came_110 rfl ?_
        have h0 : (tot (rF (5 * a + c).toNat v (5 * a + e).toNat w) (rX u n (μ 114 30)) (mV m) k (μ 114)) = 0 := by omega
        refine ih _ (by omega) (k + 1) rfl (by omega) (fB_no hnone (decide_eq_false (by omega))) μ5 ⟨q1, q2, fun i i1 i2 => by rw [q3 i i1 i2, f3 i i1 i2], fun c c1 c2 c3 => by rw [q4 c c1 c2 c3, f4 c c1 c2 c3]⟩
theorem c_X9_came (d : Nat) (μ : zM) (n m t : Nat) (u a c v e w i : Int) (hH : zMs μ n m t u) (hok : rOk n m (μ 114)) : zMet (d + 6) 0 yX9_came cX9_came 9 (some .int) TF μ [zR 110, zI a, zI c, zI v, zI e, zI w, zI i] (zPi (fun r ξ => qM μ ξ ∧ ((¬ (((0 ≤ a ∧ a < m) ∧ (0 ≤ c ∧ c < n)) ∧ (0 ≤ e ∧ e < n) ∧ c ≠ e) ∧ r = -1000000001) ∨ ((((0 ≤ a ∧ a < m) ∧ (0 ≤ c ∧ c < n)) ∧ (0 ≤ e ∧ e < n) ∧ c ≠ e) ∧ ¬ ((0 ≤ v ∧ v ≤ 60) ∧ (0 ≤ w ∧ w ≤ 60)) ∧ r = -1000000002) ∨ ((((0 ≤ a ∧ a < m) ∧ (0 ≤ c ∧ c < n)) ∧ (0 ≤ e ∧ e < n) ∧ c ≠ e) ∧ ((0 ≤ v ∧ v ≤ 60) ∧ (0 ≤ w ∧ w ≤ 60)) ∧ r = cV (fun L => tot (rF (5 * a + c).toNat v (5 * a + e).toNat w) (rX u n (μ 114 30)) (mV m) L (μ 114)) (fun L => fst (rF (5 * a + c).toNat v (5 * a + e).toNat w) (rX u n (μ 114 30)) (mV m) L (μ 114)) i)))) := by
  have hH0 := hH
  obtain ⟨hn, hu, hm, ht, hn5, hm6, ht10, hu1, hdk⟩ := hH0
  refine zMi_of RX9 rfl (by decide) rfl (ls := [some (zR 110), some (zI a), some (zI c), some (zI v), some (zI e), some (zI w), some (zI i), none, none]) rfl (fun hok0 => ?_)
  refine zA_aload_n dX9_came_0 rfl ?_
  refine zA_iload_n dX9_came_1 rfl ?_
  refine zA_cVb (st := []) kX9_187 t_110 rfl rfl (c_X9_isCoat (d + 3) a μ (by omega)) rfl rfl rfl dX9_came_2 (zfit0 (by omega) rfl) (fun v1 μ1 q1 => ?_)
  obtain ⟨ba, rfl⟩ := q1
  rw [hm] at ba
  refine zA_ifb_eq (tgt := 31) dX9_came_5 rfl (fun h5 => ?_) (fun h5 => ?_)
  · refine zA_ldc cX9_194 dX9_came_31 rfl ?_
    exact zA_ri dX9_came_33 ⟨qM.refl _, Or.inl ⟨fun q => by first | exact absurd h28 q.2.2 | (have := ba.mpr q.1.1; simp_all; done) | (have := bc.mpr q.1.2; simp_all; done) | (have := be.mpr q.2.1; simp_all; done) | (have := q.2.2; simp_all; done), rfl⟩⟩
  · refine zA_aload_n dX9_came_8 rfl ?_
    refine zA_iload_n dX9_came_9 rfl ?_
    refine zA_cVb (st := []) kX9_191 t_110 rfl rfl (c_X9_isColour (d + 3) c μ (by omega)) rfl rfl rfl dX9_came_10 (zfit0 (by omega) rfl) (fun v2 μ2 q2 => ?_)
    obtain ⟨bc, rfl⟩ := q2
    rw [hn] at bc
    refine zA_ifb_eq (tgt := 31) dX9_came_13 rfl (fun h13 => ?_) (fun h13 => ?_)
    · refine zA_ldc cX9_194 dX9_came_31 rfl ?_
      exact zA_ri dX9_came_33 ⟨qM.refl _, Or.inl ⟨fun q => by first | exact absurd h28 q.2.2 | (have := ba.mpr q.1.1; simp_all; done) | (have := bc.mpr q.1.2; simp_all; done) | (have := be.mpr q.2.1; simp_all; done) | (have := q.2.2; simp_all; done), rfl⟩⟩
    · refine zA_aload_n dX9_came_16 rfl ?_
      refine zA_iload dX9_came_17 rfl ?_
      refine zA_cVb (st := []) kX9_191 t_110 rfl rfl (c_X9_isColour (d + 3) e μ (by omega)) rfl rfl rfl dX9_came_19 (zfit0 (by omega) rfl) (fun v3 μ3 q3 => ?_)
      obtain ⟨be, rfl⟩ := q3
      rw [hn] at be
      refine zA_ifb_eq (tgt := 31) dX9_came_22 rfl (fun h22 => ?_) (fun h22 => ?_)
      · refine zA_ldc cX9_194 dX9_came_31 rfl ?_
        exact zA_ri dX9_came_33 ⟨qM.refl _, Or.inl ⟨fun q => by first | exact absurd h28 q.2.2 | (have := ba.mpr q.1.1; simp_all; done) | (have := bc.mpr q.1.2; simp_all; done) | (have := be.mpr q.2.1; simp_all; done) | (have := q.2.2; simp_all; done), rfl⟩⟩
      · refine zA_iload_n dX9_came_25 rfl ?_
        refine zA_iload dX9_came_26 rfl ?_
        refine zA_icmp_ne (tgt := 34) dX9_came_28 rfl (fun h28 => ?_) (fun h28 => ?_)
        · have hb : ((0 ≤ a ∧ a < m) ∧ (0 ≤ c ∧ c < n)) ∧ (0 ≤ e ∧ e < n) ∧ c ≠ e := ⟨⟨ba.mp (by simpa using h5), bc.mp (by simpa using h13)⟩, be.mp (by simpa using h22), h28⟩
          refine zA_iload_n dX9_came_34 rfl ?_
          refine zA_cSb (st := []) kX9_249 (c_X9_isParts (d + 3) v μ) rfl rfl rfl dX9_came_35 (zfit0 (by omega) rfl) (fun v4 μ4 q4 => ?_)
          obtain ⟨b3, rfl⟩ := q4
          refine zA_ifb_eq (tgt := 49) dX9_came_38 rfl (fun h38 => ?_) (fun h38 => ?_)
          · refine zA_ldc cX9_89 dX9_came_49 rfl ?_
            exact zA_ri dX9_came_51 ⟨qM.refl _, Or.inr (Or.inl ⟨hb, fun q => by first | (have := b3.mpr q.1; simp_all; done) | (have := b4.mpr q.2; simp_all; done), rfl⟩)⟩
          · refine zA_iload dX9_came_41 rfl ?_
            refine zA_cSb (st := []) kX9_249 (c_X9_isParts (d + 3) w μ) rfl rfl rfl dX9_came_43 (zfit0 (by omega) rfl) (fun v5 μ5 q5 => ?_)
            obtain ⟨b4, rfl⟩ := q5
            refine zA_ifb_ne (tgt := 52) dX9_came_46 rfl (fun h46 => ?_) (fun h46 => ?_)
            · have hv : (0 ≤ v ∧ v ≤ 60) ∧ (0 ≤ w ∧ w ≤ 60) := ⟨b3.mp (by simpa using h38), b4.mp (by simpa using h46)⟩
              refine zA_iconst dX9_came_52 rfl ?_
              refine zA_istore (ls' := [some (zR 110), some (zI a), some (zI c), some (zI v), some (zI e), some (zI w), some (zI i), some (zI 0), none]) dX9_came_53 rfl rfl ?_
              refine zA_aload_n dX9_came_55 rfl ?_
              refine zA_iconst dX9_came_56 rfl ?_
              refine zA_iconst dX9_came_57 rfl ?_
              refine zA_iload_n dX9_came_58 rfl ?_
              refine zA_imulB dX9_came_59 ⟨by omega, by omega⟩ ?_
              refine zA_iload_n dX9_came_60 rfl ?_
              refine zA_iaddE (w := (((5 * a + c).toNat : Nat) : Int)) dX9_came_61 ⟨by omega, by omega⟩ (by omega) ?_
              refine zA_iload_n dX9_came_62 rfl ?_
              refine zA_iconst dX9_came_63 rfl ?_
              refine zA_iload_n dX9_came_64 rfl ?_
              refine zA_imulB dX9_came_65 ⟨by omega, by omega⟩ ?_
              refine zA_iload dX9_came_66 rfl ?_
              refine zA_iaddE (w := (((5 * a + e).toNat : Nat) : Int)) dX9_came_68 ⟨by omega, by omega⟩ (by omega) ?_
              refine zA_iload dX9_came_69 rfl ?_
              refine zA_cVv (st := []) kX9_252 t_110 rfl rfl (c_X9_findRows d 0 (5 * a + c).toNat (5 * a + e).toNat n m t u v w μ (by omega) (by omega) (by omega) hH hok) rfl rfl rfl dX9_came_71 (zfit0 (by omega) rfl) (fun μ6 q6 => ?_)
              obtain ⟨q1, q2, q3, q4⟩ := q6
              exact zAi_mono (l_X9_came d n m t u a c v e w i μ hH hok (by omega) (by omega) (by omega) _ 0 rfl (by omega) rfl μ6 ⟨q1, q2, q3, q4⟩) (fun r ξ h => ⟨⟨fun k h1 h2 _ h4 _ _ => h.2.2 k h4 h2 h1, h.2.1⟩, Or.inr (Or.inr ⟨hb, hv, h.1⟩)⟩)
            · refine zA_ldc cX9_89 dX9_came_49 rfl ?_
              exact zA_ri dX9_came_51 ⟨qM.refl _, Or.inr (Or.inl ⟨hb, fun q => by first | (have := b3.mpr q.1; simp_all; done) | (have := b4.mpr q.2; simp_all; done), rfl⟩)⟩
        · refine zA_ldc cX9_194 dX9_came_31 rfl ?_
          exact zA_ri dX9_came_33 ⟨qM.refl _, Or.inl ⟨fun q => by first | exact absurd h28 q.2.2 | (have := ba.mpr q.1.1; simp_all; done) | (have := bc.mpr q.1.2; simp_all; done) | (have := be.mpr q.2.1; simp_all; done) | (have := q.2.2; simp_all; done), rfl⟩⟩
theorem pr_came (μ : zM) (a c v e w i : Int) (n m t : Nat) (u : Int) (hI : zInv μ n m t u) : zPair yX8_came cX8_came 7 yX9_came cX9_came 9 [zI a, zI c, zI v, zI e, zI w, zI i] μ := by
  obtain ⟨hn, hu, hm, ht0, hn5, hm6, ht10, hu1, hdk⟩ := hI.1.1
  have hg : μ 52 1 = μ 114 30 := hI.2.1.2.2.1
  refine zPair_q hI (if ((0 ≤ a ∧ a < m) ∧ (0 ≤ c ∧ c < n)) ∧ (0 ≤ e ∧ e < n) ∧ c ≠ e then (if (0 ≤ v ∧ v ≤ 60) ∧ (0 ≤ w ∧ w ≤ 60) then cV (fun L => tot (rF (5 * a + c).toNat v (5 * a + e).toNat w) (rX u n (μ 114 30)) (mV m) L (μ 114)) (fun L => fst (rF (5 * a + c).toNat v (5 * a + e).toNat w) (rX u n (μ 114 30)) (mV m) L (μ 114)) i else -1000000002) else -1000000001) (zMi_mono (c_X8_came 11 μ n m t u a c v e w i hI.1.1 hI.2.1.2.1) ?_) (fun ν hq hν => zMi_mono (c_X9_came 14 ν n m t u a c v e w i hν.1.2.1 hν.mrow) ?_)
  · rintro r ν ⟨hq, h⟩
    refine ⟨?_, hq⟩
    rcases h with ⟨h1, hr⟩ | ⟨h1, h2, hr⟩ | ⟨h1, h2, hr⟩
    · rw [hr, if_neg h1]
    · rw [hr, if_pos h1, if_neg h2]
    · rw [hr, if_pos h1, if_pos h2, hg]
      have hM : ∀ L C, md (rF (5 * a + c).toNat v (5 * a + e).toNat w) (rX u n (μ 114 30)) (mV m) L (μ 53) C = md (rF (5 * a + c).toNat v (5 * a + e).toNat w) (rX u n (μ 114 30)) (mV m) L (μ 114) C := fun L C => md_congrL hn5 (by omega) (by omega) L _ _ C hI.row
      have hT : (fun L => tot (rF (5 * a + c).toNat v (5 * a + e).toNat w) (rX u n (μ 114 30)) (mV m) L (μ 53)) = (fun L => tot (rF (5 * a + c).toNat v (5 * a + e).toNat w) (rX u n (μ 114 30)) (mV m) L (μ 114)) := funext (fun L => cN_congr (fun j _ => hM L j))
      have hC : (fun L => fst (rF (5 * a + c).toNat v (5 * a + e).toNat w) (rX u n (μ 114 30)) (mV m) L (μ 53)) = (fun L => fst (rF (5 * a + c).toNat v (5 * a + e).toNat w) (rX u n (μ 114 30)) (mV m) L (μ 114)) := funext (fun L => fB_congr (fun j _ => hM L j))
      rw [hT, hC]
  · rintro r ξ ⟨hx, h⟩
    refine ⟨?_, hx⟩
    have e114 : ν 114 = μ 114 := hq 114 (by unfold cScr; omega)
    rw [e114] at h
    rcases h with ⟨h1, hr⟩ | ⟨h1, h2, hr⟩ | ⟨h1, h2, hr⟩
    · rw [hr, if_neg h1]
    · rw [hr, if_pos h1, if_neg h2]
    · rw [hr, if_pos h1, if_pos h2]
