/-! ===== look ===== -/
def gC (q : Nat → Bool) (e : Nat → Int) (w : Int) (k : Nat) : Nat := cN (fun i => q i && decide (e i = w)) k
def gV (q : Nat → Bool) (e : Nat → Int) : Nat → Nat
  | 0 => 0
  | k + 1 => if q k = true then (if gV q e k < gC q e (e k) (k + 1) then gC q e (e k) (k + 1) else gV q e k) else gV q e k
def gM (q : Nat → Bool) (e : Nat → Int) (k G : Nat) : Prop := (∀ w, gC q e w k ≤ G) ∧ ∃ w, gC q e w k = G
theorem gM_uni {q : Nat → Bool} {e : Nat → Int} {k G G' : Nat} (h : gM q e k G) (h' : gM q e k G') : G = G' := by
  obtain ⟨h1, w, h2⟩ := h
  obtain ⟨h1', w', h2'⟩ := h'
  have := h1 w'
  have := h1' w
  omega
theorem gC_s {q : Nat → Bool} {e : Nat → Int} {w : Int} {k : Nat} : gC q e w (k + 1) = if q k = true ∧ e k = w then gC q e w k + 1 else gC q e w k := by
  unfold gC
  simp only [cN, Bool.and_eq_true, decide_eq_true_eq]
theorem gV_M {q : Nat → Bool} {e : Nat → Int} : ∀ k, gM q e k (gV q e k)
  | 0 => ⟨fun w => Nat.le_refl _, 0, rfl⟩
  | k + 1 => by
    obtain ⟨h1, w, h2⟩ := gV_M (q := q) (e := e) k
    simp only [gV]
    cases hq : q k with
    | false =>
      simp only [Bool.false_eq_true, if_false]
      refine ⟨fun w => ?_, w, ?_⟩
      · rw [gC_s, hq, if_neg (by simp)]; exact h1 w
      · rw [gC_s, hq, if_neg (by simp)]; exact h2
    | true =>
      simp only [if_true]
      have hk : gC q e (e k) (k + 1) = gC q e (e k) k + 1 := by rw [gC_s, if_pos ⟨hq, rfl⟩]
      refine ⟨fun w' => ?_, ?_⟩
      · by_cases hw : e k = w'
        · rw [← hw]; split <;> omega
        · rw [gC_s, if_neg (fun q => hw q.2)]
          have := h1 w'
          split <;> omega
      · by_cases hlt : gV q e k < gC q e (e k) (k + 1)
        · rw [if_pos hlt]; exact ⟨e k, rfl⟩
        · rw [if_neg hlt]
          refine ⟨w, ?_⟩
          by_cases hw : e k = w
          · exfalso; rw [hw] at hk hlt; omega
          · rw [gC_s, if_neg (fun q => hw q.2)]; exact h2
theorem gC_congr {q : Nat → Bool} {e e' : Nat → Int} {w : Int} {k : Nat} (h : ∀ i, i < k → q i = true → e i = e' i) : gC q e w k = gC q e' w k := by
  unfold gC
  refine cN_congr (fun j hj => ?_)
  cases hq : q j with
  | false => rfl
  | true => rw [h j hj hq]
theorem gV_congr {q : Nat → Bool} {e e' : Nat → Int} : ∀ {k : Nat}, (∀ i, i < k → q i = true → e i = e' i) → gV q e k = gV q e' k
  | 0, _ => rfl
  | k + 1, h => by
    simp only [gV]
    rw [gV_congr (fun i hi => h i (by omega))]
    cases hq : q k with
    | false => rfl
    | true => rw [h k (by omega) hq, gC_congr h]
theorem gV_skip {q : Nat → Bool} {e : Nat → Int} {p : Nat} : ∀ (x : Nat), (∀ i, p ≤ i → i < p + x → q i = false) → gV q e (p + x) = gV q e p
  | 0, _ => rfl
  | x + 1, h => by
    rw [← Nat.add_assoc]
    simp only [gV]
    rw [h (p + x) (by omega) (by omega), if_neg (by decide), gV_skip x (fun i h1 h2 => h i h1 (by omega))]
theorem gC_le {q : Nat → Bool} {e : Nat → Int} {w : Int} {k : Nat} : gC q e w k ≤ k := cN_le _ _
theorem gV_le {q : Nat → Bool} {e : Nat → Int} {k : Nat} : gV q e k ≤ k := by
  obtain ⟨h1, w, h2⟩ := gV_M (q := q) (e := e) k
  have := gC_le (q := q) (e := e) (w := w) (k := k)
  omega
theorem cN_pos {q : Nat → Bool} : ∀ {p : Nat}, 0 < cN q p → ∃ i, i < p ∧ q i = true
  | 0, h => by simp [cN] at h
  | p + 1, h => by
    cases hq : q p with
    | true => exact ⟨p, by omega, hq⟩
    | false =>
      simp only [cN, hq, Bool.false_eq_true, if_false] at h
      obtain ⟨i, h1, h2⟩ := cN_pos h
      exact ⟨i, by omega, h2⟩
/-- the model's greatest part -/
def gMo (q : Nat → Bool) (e : Nat → Int) (T g most : Nat) : Prop := (∀ j, j < g → q j = true → gC q e (e j) T ≤ most) ∧ (most = 0 ∨ ∃ j, j < g ∧ q j = true ∧ most = gC q e (e j) T)
theorem gMo_end {q : Nat → Bool} {e : Nat → Int} {T most : Nat} (h : gMo q e T T most) : most = gV q e T := by
  obtain ⟨h1, h2⟩ := h
  have hall : ∀ w, gC q e w T ≤ most := by
    intro w
    rcases Nat.eq_zero_or_pos (gC q e w T) with h0 | h0
    · omega
    · obtain ⟨i, hi, hq⟩ := cN_pos h0
      simp only [Bool.and_eq_true, decide_eq_true_eq] at hq
      have := h1 i hi hq.1
      rw [hq.2] at this
      exact this
  refine gM_uni ⟨hall, ?_⟩ (gV_M T)
  rcases h2 with h0 | ⟨j, _, _, hj⟩
  · exact ⟨0, by have := hall 0; omega⟩
  · exact ⟨e j, hj.symm⟩
def nG (q : Nat → Bool) (e : Nat → Int) (g h : Nat) : Nat := if q g = true then gC q e (e g) h else 0
theorem nG_s {q : Nat → Bool} {e : Nat → Int} {g h : Nat} : nG q e g (h + 1) = if q g = true ∧ q h = true ∧ e g = e h then nG q e g h + 1 else nG q e g h := by
  unfold nG
  cases hq : q g with
  | false => simp
  | true =>
    simp only [if_true, true_and]
    rw [gC_s]
    by_cases hc : q h = true ∧ e h = e g
    · rw [if_pos hc, if_pos ⟨hc.1, hc.2.symm⟩]
    · rw [if_neg hc, if_neg (fun r => hc ⟨r.1, r.2.symm⟩)]
theorem gMo_s {q : Nat → Bool} {e : Nat → Int} {T g most : Nat} (h : gMo q e T g most) : gMo q e T (g + 1) (if most < nG q e g T then nG q e g T else most) := by
  obtain ⟨h1, h2⟩ := h
  unfold nG
  cases hq : q g with
  | false =>
    simp only [Bool.false_eq_true, if_false]
    rw [if_neg (by omega)]
    refine ⟨fun j hj hqj => h1 j (by by_cases e : j = g; (rw [e, hq] at hqj; cases hqj); omega) hqj, ?_⟩
    rcases h2 with h0 | ⟨j, a, b, c⟩
    · exact Or.inl h0
    · exact Or.inr ⟨j, by omega, b, c⟩
  | true =>
    simp only [if_true]
    refine ⟨fun j hj hqj => ?_, ?_⟩
    · by_cases ej : j = g
      · rw [ej]; split <;> omega
      · have := h1 j (by omega) hqj; split <;> omega
    · by_cases hlt : most < gC q e (e g) T
      · rw [if_pos hlt]; exact Or.inr ⟨g, by omega, hq, rfl⟩
      · rw [if_neg hlt]
        rcases h2 with h0 | ⟨j, a, b, c⟩
        · exact Or.inl h0
        · exact Or.inr ⟨j, by omega, b, c⟩
/-- which cell to look at: (least, best) -/
def lI (f : Nat → Int) (a : Nat) (l b : Int) : Nat → Int × Int
  | 0 => (l, b)
  | c + 1 => if f (a * 5 + c) < (lI f a l b c).1 then (f (a * 5 + c), 10 * (a : Int) + (c : Int)) else lI f a l b c
def lO (f : Nat → Int) (n : Nat) (l0 : Int) : Nat → Int × Int
  | 0 => (l0, -1)
  | a + 1 => lI f a (lO f n l0 a).1 (lO f n l0 a).2 n
theorem lI_congr {f f' : Nat → Int} {a : Nat} {l b : Int} : ∀ {n : Nat}, (∀ c, c < n → f (a * 5 + c) = f' (a * 5 + c)) → lI f a l b n = lI f' a l b n
  | 0, _ => rfl
  | n + 1, h => by simp only [lI]; rw [lI_congr (fun c hc => h c (by omega)), h n (by omega)]
theorem lO_congr {f f' : Nat → Int} {n : Nat} {l0 : Int} : ∀ {m : Nat}, (∀ a c, a < m → c < n → f (a * 5 + c) = f' (a * 5 + c)) → lO f n l0 m = lO f' n l0 m
  | 0, _ => rfl
  | m + 1, h => by simp only [lO]; rw [lO_congr (fun a c ha hc => h a c (by omega) hc), lI_congr (fun c hc => h m c (by omega) hc)]
theorem l_X0_greatestPart1 (d S x : Nat) (μ : zM) (P : zP) (hc : ∀ ν : zM, (∀ j, j < 61 → ν 51 j = 0) → (∀ c, c ≠ 51 → ν c = μ c) → zA RX0 cX0_greatestPart 6 (zRm (d + 2) 0) zN0 TF 0 ν 21 [some (zR 38), some (zI (S : Int)), some (zI (x : Int)), none, none, none] [] P) : ∀ (t0 i : Nat), 61 - i = t0 → i ≤ 61 → ∀ ν : zM, (∀ j, j < i → ν 51 j = 0) → (∀ c, c ≠ 51 → ν c = μ c) → zA RX0 cX0_greatestPart 6 (zRm (d + 2) 0) zN0 TF 0 ν 2 [some (zR 38), some (zI (S : Int)), some (zI (x : Int)), some (zI (i : Int)), none, none] [] P := by
  intro t0
  induction t0 using Nat.strongRecOn with
  | ind t0 ih =>
    intro i hi hi61 ν hv hfr
    refine zA_iload_n dX0_greatestPart_2 rfl ?_
    refine zA_bipush dX0_greatestPart_3 rfl ?_
    refine zA_icmp_gt (tgt := 21) dX0_greatestPart_5 rfl (fun h5 => ?_) (fun h5 => ?_)
    · refine zA_dr (ls' := [some (zR 38), some (zI (S : Int)), some (zI (x : Int)), none, none, none]) 3 rfl ?_
      exact hc ν (fun j hj => hv j (by omega)) hfr
    · refine zA_aload_n dX0_greatestPart_8 rfl ?_
      refine zA_getR fX0_16 t_38 rfl dX0_greatestPart_9 ?_
      refine zA_iload_n dX0_greatestPart_12 rfl ?_
      refine zA_iconst dX0_greatestPart_13 rfl ?_
      refine zA_iasE (j := i) t_51 (by omega) (by omega) dX0_greatestPart_14 rfl ?_
      refine zA_iincB (ls' := [some (zR 38), some (zI (S : Int)), some (zI (x : Int)), some (zI ((i : Int) + 1)), none, none]) dX0_greatestPart_15 rfl rfl ⟨by omega, by omega⟩ rfl ?_
      refine zA_goto (tgt := 2) dX0_greatestPart_18 rfl ?_
      refine ih _ (by omega) (i + 1) rfl (by omega) _ ?_ ?_
      · intro j hj
        by_cases e : j = i
        · subst e
          rw [zup_s]
        · rw [zup_n (fun q => e q.2), hv j (by omega)]
      · intro c hc
        rw [← hfr c hc]
        funext j
        rw [zup_k hc]
theorem l_X0_greatestPart2 (d S x : Nat) (μ : zM) (hx : x < 30) (hea : ∀ k, k < 11 → (bQ (S : Int)) k = true → 0 ≤ μ (40 + k) x ∧ μ (40 + k) x ≤ 60) : ∀ (t0 k : Nat), 11 - k = t0 → k ≤ 11 → ∀ ν : zM, (∀ j : Nat, j < 61 → ν 51 j = (gC (bQ (S : Int)) (fun k => μ (40 + k) x) (j : Int) k : Int)) → (∀ c, c ≠ 51 → ν c = μ c) → zA RX0 cX0_greatestPart 6 (zRm (d + 2) 0) zN0 TF 0 ν 26 [some (zR 38), some (zI (S : Int)), some (zI (x : Int)), some (zI ((gV (bQ (S : Int)) (fun k => μ (40 + k) x) k : Int))), some (zI (k : Int)), none] [] (zPi (fun v ξ => v = (gV (bQ (S : Int)) (fun k => μ (40 + k) x) 11 : Int) ∧ ∀ c, c ≠ 51 → ξ c = μ c)) := by
  intro t0
  induction t0 using Nat.strongRecOn with
  | ind t0 ih =>
    intro k hk hk11 ν hv hfr
    refine zA_iload dX0_greatestPart_26 rfl ?_
    refine zA_bipush dX0_greatestPart_28 rfl ?_
    refine zA_icmp_gt (tgt := 90) dX0_greatestPart_30 rfl (fun h30 => ?_) (fun h30 => ?_)
    · refine zA_iload_n dX0_greatestPart_90 rfl ?_
      exact zA_ri dX0_greatestPart_91 ⟨by rw [show (11 : Nat) = k by omega], hfr⟩
    · obtain ⟨e, he⟩ : ∃ e, e = μ (40 + k) x := ⟨_, rfl⟩
      have hgl := gV_le (q := (bQ (S : Int))) (e := (fun k => μ (40 + k) x)) (k := k)
      refine zA_aload_n dX0_greatestPart_33 rfl ?_
      refine zA_getR fX0_11 t_38 rfl dX0_greatestPart_34 ?_
      refine zA_iload dX0_greatestPart_37 rfl ?_
      refine zA_aaldG (k' := 40 + k) t_39 (by omega) (by omega) (t_ges k (by omega)) dX0_greatestPart_39 ?_
      refine zA_iload_n dX0_greatestPart_40 rfl ?_
      refine zA_ialE (w := e) (j := x) (t_ge k (by omega)) (by omega) (by omega) dX0_greatestPart_41 rfl (by rw [hfr _ (by omega)]; exact he.symm) ?_
      refine zA_istore (ls' := [some (zR 38), some (zI (S : Int)), some (zI (x : Int)), some (zI ((gV (bQ (S : Int)) (fun k => μ (40 + k) x) k : Int))), some (zI (k : Int)), some (zI e)]) dX0_greatestPart_42 rfl rfl ?_
      refine zA_iload_n dX0_greatestPart_44 rfl ?_
      refine zA_iload dX0_greatestPart_45 rfl ?_
      refine zA_cNb (st := []) kX0_67 (c_X8_isIn d (S : Int) (k : Int) ν) rfl rfl rfl dX0_greatestPart_47 (zfit0 (by omega) rfl) (fun v1 μ1 q1 => ?_)
      obtain ⟨b1, rfl⟩ := q1
      refine zA_ifb_eq (tgt := 84) dX0_greatestPart_50 rfl (fun h50 => ?_) (fun h50 => ?_)
      · refine zA_iincB (ls' := [some (zR 38), some (zI (S : Int)), some (zI (x : Int)), some (zI ((gV (bQ (S : Int)) (fun k => μ (40 + k) x) k : Int))), some (zI ((k : Int) + 1)), some (zI e)]) dX0_greatestPart_84 rfl rfl ⟨by omega, by omega⟩ rfl ?_
        refine zA_goto (tgt := 26) dX0_greatestPart_87 rfl ?_
        refine zA_dr (ls' := [some (zR 38), some (zI (S : Int)), some (zI (x : Int)), some (zI ((gV (bQ (S : Int)) (fun k => μ (40 + k) x) k : Int))), some (zI ((k : Int) + 1)), none]) 5 rfl ?_
        have hq : (bQ (S : Int)) k = false := by
          cases hx : (bQ (S : Int)) k with
          | false => rfl
          | true =>
            exfalso
            have h1 := b1.mpr (of_decide_eq_true hx)
            first
              | (simp_all; done)
              | (have h2 := b2.mpr (by rw [he]; exact hea k (by omega) hx); simp_all)
        refine zA_leq (ls' := [some (zR 38), some (zI (S : Int)), some (zI (x : Int)), some (zI ((gV (bQ (S : Int)) (fun k => μ (40 + k) x) (k + 1) : Int))), some (zI ((k : Int) + 1)), none]) (by simp only [gV, hq, Bool.false_eq_true, if_false]) ?_
        exact ih _ (by omega) (k + 1) rfl (by omega) ν (fun j hj => by rw [hv j hj, gC_s, if_neg (fun q => by rw [hq] at q; exact absurd q.1 (by decide))]) hfr
      · refine zA_iload dX0_greatestPart_53 rfl ?_
        refine zA_cNb (st := []) kX0_71 (c_X8_isAmount d e ν) rfl rfl rfl dX0_greatestPart_55 (zfit0 (by omega) rfl) (fun v2 μ2 q2 => ?_)
        obtain ⟨b2, rfl⟩ := q2
        refine zA_ifb_eq (tgt := 84) dX0_greatestPart_58 rfl (fun h58 => ?_) (fun h58 => ?_)
        · refine zA_iincB (ls' := [some (zR 38), some (zI (S : Int)), some (zI (x : Int)), some (zI ((gV (bQ (S : Int)) (fun k => μ (40 + k) x) k : Int))), some (zI ((k : Int) + 1)), some (zI e)]) dX0_greatestPart_84 rfl rfl ⟨by omega, by omega⟩ rfl ?_
          refine zA_goto (tgt := 26) dX0_greatestPart_87 rfl ?_
          refine zA_dr (ls' := [some (zR 38), some (zI (S : Int)), some (zI (x : Int)), some (zI ((gV (bQ (S : Int)) (fun k => μ (40 + k) x) k : Int))), some (zI ((k : Int) + 1)), none]) 5 rfl ?_
          have hq : (bQ (S : Int)) k = false := by
            cases hx : (bQ (S : Int)) k with
            | false => rfl
            | true =>
              exfalso
              have h1 := b1.mpr (of_decide_eq_true hx)
              first
                | (simp_all; done)
                | (have h2 := b2.mpr (by rw [he]; exact hea k (by omega) hx); simp_all)
          refine zA_leq (ls' := [some (zR 38), some (zI (S : Int)), some (zI (x : Int)), some (zI ((gV (bQ (S : Int)) (fun k => μ (40 + k) x) (k + 1) : Int))), some (zI ((k : Int) + 1)), none]) (by simp only [gV, hq, Bool.false_eq_true, if_false]) ?_
          exact ih _ (by omega) (k + 1) rfl (by omega) ν (fun j hj => by rw [hv j hj, gC_s, if_neg (fun q => by rw [hq] at q; exact absurd q.1 (by decide))]) hfr
        · have hq : (bQ (S : Int)) k = true := decide_eq_true (b1.mp (by simpa using h50))
          have ham := b2.mp (by simpa using h58)
          have hvb := hv e.toNat (by omega)
          have hcl := gC_le (q := (bQ (S : Int))) (e := (fun k => μ (40 + k) x)) (w := ((e.toNat : Nat) : Int)) (k := k)
          refine zA_aload_n dX0_greatestPart_61 rfl ?_
          refine zA_getR fX0_16 t_38 rfl dX0_greatestPart_62 ?_
          refine zA_iload dX0_greatestPart_65 rfl ?_
          refine zA_dup2 dX0_greatestPart_67 rfl rfl ?_
          refine zA_ialE (w := ν 51 e.toNat) (j := e.toNat) t_51 (by omega) (by omega) dX0_greatestPart_68 rfl rfl ?_
          refine zA_iconst dX0_greatestPart_69 rfl ?_
          refine zA_iaddB dX0_greatestPart_70 ⟨by omega, by omega⟩ ?_
          refine zA_iasE (j := e.toNat) t_51 (by omega) (by omega) dX0_greatestPart_71 rfl ?_
          refine zA_iload_n dX0_greatestPart_72 rfl ?_
          refine zA_aload_n dX0_greatestPart_73 rfl ?_
          refine zA_getR fX0_16 t_38 rfl dX0_greatestPart_74 ?_
          refine zA_iload dX0_greatestPart_77 rfl ?_
          refine zA_ialE (w := (ν 51 e.toNat) + 1) (j := e.toNat) t_51 (by omega) (by omega) dX0_greatestPart_79 rfl (by rw [zup_s]) ?_
          refine zA_max kX0_75 kmx_st kma_in kmx_c dX0_greatestPart_80 (by show 1 ≤ d + 2; omega) (by show _ ≤ 100 * (d + 2); simp only [zcat]; omega) (Nat.zero_le _) (Nat.zero_le _) ?_
          refine zA_istore_n (ls' := [some (zR 38), some (zI (S : Int)), some (zI (x : Int)), some (zI (if (gV (bQ (S : Int)) (fun k => μ (40 + k) x) k : Int) < (ν 51 e.toNat) + 1 then (ν 51 e.toNat) + 1 else (gV (bQ (S : Int)) (fun k => μ (40 + k) x) k : Int))), some (zI (k : Int)), some (zI e)]) dX0_greatestPart_83 rfl rfl ?_
          refine zA_iincB (ls' := [some (zR 38), some (zI (S : Int)), some (zI (x : Int)), some (zI (if (gV (bQ (S : Int)) (fun k => μ (40 + k) x) k : Int) < (ν 51 e.toNat) + 1 then (ν 51 e.toNat) + 1 else (gV (bQ (S : Int)) (fun k => μ (40 + k) x) k : Int))), some (zI ((k : Int) + 1)), some (zI e)]) dX0_greatestPart_84 rfl rfl ⟨by omega, by omega⟩ rfl ?_
          refine zA_goto (tgt := 26) dX0_greatestPart_87 rfl ?_
          refine zA_dr (ls' := [some (zR 38), some (zI (S : Int)), some (zI (x : Int)), some (zI (if (gV (bQ (S : Int)) (fun k => μ (40 + k) x) k : Int) < (ν 51 e.toNat) + 1 then (ν 51 e.toNat) + 1 else (gV (bQ (S : Int)) (fun k => μ (40 + k) x) k : Int))), some (zI ((k : Int) + 1)), none]) 5 rfl ?_
          have hgk : gC (bQ (S : Int)) (fun k => μ (40 + k) x) e (k + 1) = gC (bQ (S : Int)) (fun k => μ (40 + k) x) e k + 1 := by rw [gC_s, if_pos ⟨hq, he.symm⟩]
          refine zA_leq (ls' := [some (zR 38), some (zI (S : Int)), some (zI (x : Int)), some (zI ((gV (bQ (S : Int)) (fun k => μ (40 + k) x) (k + 1) : Int))), some (zI ((k : Int) + 1)), none]) ?_ ?_
          · simp only [gV, hq, if_true]
            rw [show μ (40 + k) x = e from he.symm, hgk]
            have hvv := hv e.toNat (by omega)
            rw [show ((e.toNat : Nat) : Int) = e by omega] at hvv
            rw [hvv]
            by_cases hlt : gV (bQ (S : Int)) (fun k => μ (40 + k) x) k < gC (bQ (S : Int)) (fun k => μ (40 + k) x) e k + 1
            · rw [if_pos hlt, if_pos (by omega)]; rfl
            · rw [if_neg hlt, if_neg (by omega)]
          · refine ih _ (by omega) (k + 1) rfl (by omega) _ (fun j hj => ?_) (fun c hc => ?_)
            · by_cases ej : j = e.toNat
              · have hvv := hv e.toNat (by omega)
                rw [show ((e.toNat : Nat) : Int) = e by omega] at hvv
                rw [ej, zup_s, show ((e.toNat : Nat) : Int) = e by omega, hgk, hvv]; rfl
              · rw [zup_n (fun q => ej q.2), hv j hj, gC_s, if_neg (fun q => ej (by have : e = (j : Int) := he.trans q.2; omega))]
            · rw [← hfr c hc]
              funext j
              rw [zup_k hc]
theorem c_X0_greatestPart (d S x : Nat) (μ : zM) (hx : x < 30) (hea : ∀ k, k < 11 → (bQ (S : Int)) k = true → 0 ≤ μ (40 + k) x ∧ μ (40 + k) x ≤ 60) : zMet (d + 2) 0 yX0_greatestPart cX0_greatestPart 6 (some .int) TF μ [zR 38, zI (S : Int), zI (x : Int)] (zPi (fun v ξ => v = (gV (bQ (S : Int)) (fun k => μ (40 + k) x) 11 : Int) ∧ ∀ c, c ≠ 51 → ξ c = μ c)) := by
  refine zMi_of RX0 rfl (by decide) rfl (ls := [some (zR 38), some (zI (S : Int)), some (zI (x : Int)), none, none, none]) rfl (fun hok0 => ?_)
  refine zA_iconst dX0_greatestPart_0 rfl ?_
  refine zA_istore_n (ls' := [some (zR 38), some (zI (S : Int)), some (zI (x : Int)), some (zI 0), none, none]) dX0_greatestPart_1 rfl rfl ?_
  refine l_X0_greatestPart1 d S x μ _ (fun ν h1 h2 => ?_) _ 0 rfl (by omega) μ (fun j hj => by omega) (fun _ _ => rfl)
  refine zA_iconst dX0_greatestPart_21 rfl ?_
  refine zA_istore_n (ls' := [some (zR 38), some (zI (S : Int)), some (zI (x : Int)), some (zI 0), none, none]) dX0_greatestPart_22 rfl rfl ?_
  refine zA_iconst dX0_greatestPart_23 rfl ?_
  refine zA_istore (ls' := [some (zR 38), some (zI (S : Int)), some (zI (x : Int)), some (zI 0), some (zI 0), none]) dX0_greatestPart_24 rfl rfl ?_
  exact l_X0_greatestPart2 d S x μ hx hea _ 0 rfl (by omega) ν (fun j hj => by rw [h1 j hj]; rfl) h2
theorem l_X0_bestLookI (d : Nat) (μ : zM) (n m t S : Nat) (u : Int) (hH : zHs μ n m t u) (hea : ∀ k, k < 11 → bQ (S : Int) k = true → ∀ a c, a < m → c < n → 0 ≤ μ (40 + k) (a * 5 + c) ∧ μ (40 + k) (a * 5 + c) ≤ 60) (a : Nat) (ha : a < m) (P : zP) (hc : ∀ ν : zM, (∀ c, c ≠ 51 → ν c = μ c) → zA RX0 cX0_bestLook 8 (zRm (d + 3) 0) zN0 TF 0 ν 71 [some (zR 38), some (zR 1), some (zI (S : Int)), some (zI ((lI (fun x => (gV (bQ (S : Int)) (fun k => μ (40 + k) x) 11 : Int)) a (lO (fun x => (gV (bQ (S : Int)) (fun k => μ (40 + k) x) 11 : Int)) n (cN (bQ (S : Int)) 12 : Int) a).1 (lO (fun x => (gV (bQ (S : Int)) (fun k => μ (40 + k) x) 11 : Int)) n (cN (bQ (S : Int)) 12 : Int) a).2 n).1)), some (zI ((lI (fun x => (gV (bQ (S : Int)) (fun k => μ (40 + k) x) 11 : Int)) a (lO (fun x => (gV (bQ (S : Int)) (fun k => μ (40 + k) x) 11 : Int)) n (cN (bQ (S : Int)) 12 : Int) a).1 (lO (fun x => (gV (bQ (S : Int)) (fun k => μ (40 + k) x) 11 : Int)) n (cN (bQ (S : Int)) 12 : Int) a).2 n).2)), some (zI (a : Int)), none, none] [] P) : ∀ (t0 c : Nat), n - c = t0 → c ≤ n → ∀ ν : zM, (∀ c, c ≠ 51 → ν c = μ c) → zA RX0 cX0_bestLook 8 (zRm (d + 3) 0) zN0 TF 0 ν 23 [some (zR 38), some (zR 1), some (zI (S : Int)), some (zI ((lI (fun x => (gV (bQ (S : Int)) (fun k => μ (40 + k) x) 11 : Int)) a (lO (fun x => (gV (bQ (S : Int)) (fun k => μ (40 + k) x) 11 : Int)) n (cN (bQ (S : Int)) 12 : Int) a).1 (lO (fun x => (gV (bQ (S : Int)) (fun k => μ (40 + k) x) 11 : Int)) n (cN (bQ (S : Int)) 12 : Int) a).2 c).1)), some (zI ((lI (fun x => (gV (bQ (S : Int)) (fun k => μ (40 + k) x) 11 : Int)) a (lO (fun x => (gV (bQ (S : Int)) (fun k => μ (40 + k) x) 11 : Int)) n (cN (bQ (S : Int)) 12 : Int) a).1 (lO (fun x => (gV (bQ (S : Int)) (fun k => μ (40 + k) x) 11 : Int)) n (cN (bQ (S : Int)) 12 : Int) a).2 c).2)), some (zI (a : Int)), some (zI (c : Int)), none] [] P := by
  have hH0 := hH
  obtain ⟨hn, hu, hm, ht, hn5, hm6, ht10, hu1, hdk⟩ := hH0
  intro t0
  induction t0 using Nat.strongRecOn with
  | ind t0 ih =>
    intro c hk hcn ν hfr
    refine zA_iload dX0_bestLook_23 rfl ?_
    refine zA_aload_n dX0_bestLook_25 rfl ?_
    refine zA_getE (w := (n : Int)) fX0_57 t_1 dX0_bestLook_26 (by rw [hfr 1 (by decide)]; exact hn) ?_
    refine zA_icmp_ge (tgt := 71) dX0_bestLook_29 rfl (fun h29 => ?_) (fun h29 => ?_)
    · refine zA_dr (ls' := [some (zR 38), some (zR 1), some (zI (S : Int)), some (zI ((lI (fun x => (gV (bQ (S : Int)) (fun k => μ (40 + k) x) 11 : Int)) a (lO (fun x => (gV (bQ (S : Int)) (fun k => μ (40 + k) x) 11 : Int)) n (cN (bQ (S : Int)) 12 : Int) a).1 (lO (fun x => (gV (bQ (S : Int)) (fun k => μ (40 + k) x) 11 : Int)) n (cN (bQ (S : Int)) 12 : Int) a).2 c).1)), some (zI ((lI (fun x => (gV (bQ (S : Int)) (fun k => μ (40 + k) x) 11 : Int)) a (lO (fun x => (gV (bQ (S : Int)) (fun k => μ (40 + k) x) 11 : Int)) n (cN (bQ (S : Int)) 12 : Int) a).1 (lO (fun x => (gV (bQ (S : Int)) (fun k => μ (40 + k) x) 11 : Int)) n (cN (bQ (S : Int)) 12 : Int) a).2 c).2)), some (zI (a : Int)), none, none]) 6 rfl ?_
      obtain rfl : c = n := by omega
      exact hc ν hfr
    · refine zA_aload_n dX0_bestLook_32 rfl ?_
      refine zA_iload_n dX0_bestLook_33 rfl ?_
      refine zA_iload dX0_bestLook_34 rfl ?_
      refine zA_iload dX0_bestLook_36 rfl ?_
      refine zA_cNi (st := [zI (S : Int), zR 38]) kX0_60 (c_X8_cell (d + 1) (a : Int) (c : Int) ν (by omega) (by omega)) rfl rfl rfl dX0_bestLook_38 (zfit0 (by omega) rfl) (fun v1 μ1 q1 => ?_)
      obtain ⟨rfl, rfl⟩ := q1
      refine zA_cVi (st := []) kX0_64 t_38 rfl rfl (c_X0_greatestPart d S (a * 5 + c) ν (by omega) (fun k hk hq => by rw [hfr _ (by omega)]; exact hea k hk hq a c (by omega) (by omega))) rfl rfl rfl dX0_bestLook_41 (zfit0 (by omega) rfl) (fun v2 μ2 q2 => ?_)
      obtain ⟨eg, fg⟩ := q2
      have eg2 : v2 = (gV (bQ (S : Int)) (fun k => μ (40 + k) (a * 5 + c)) 11 : Int) := by rw [eg]; congr 1; exact gV_congr (fun k hk _ => by rw [hfr _ (by omega)])
      have fr2 : ∀ c, c ≠ 51 → μ2 c = μ c := fun c hc => by rw [fg c hc, hfr c hc]
      have hgl := gV_le (q := bQ (S : Int)) (e := fun k => μ (40 + k) (a * 5 + c)) (k := 11)
      refine zA_istore (ls' := [some (zR 38), some (zR 1), some (zI (S : Int)), some (zI ((lI (fun x => (gV (bQ (S : Int)) (fun k => μ (40 + k) x) 11 : Int)) a (lO (fun x => (gV (bQ (S : Int)) (fun k => μ (40 + k) x) 11 : Int)) n (cN (bQ (S : Int)) 12 : Int) a).1 (lO (fun x => (gV (bQ (S : Int)) (fun k => μ (40 + k) x) 11 : Int)) n (cN (bQ (S : Int)) 12 : Int) a).2 c).1)), some (zI ((lI (fun x => (gV (bQ (S : Int)) (fun k => μ (40 + k) x) 11 : Int)) a (lO (fun x => (gV (bQ (S : Int)) (fun k => μ (40 + k) x) 11 : Int)) n (cN (bQ (S : Int)) 12 : Int) a).1 (lO (fun x => (gV (bQ (S : Int)) (fun k => μ (40 + k) x) 11 : Int)) n (cN (bQ (S : Int)) 12 : Int) a).2 c).2)), some (zI (a : Int)), some (zI (c : Int)), some (zI v2)]) dX0_bestLook_44 rfl rfl ?_
      refine zA_iload dX0_bestLook_46 rfl ?_
      refine zA_iload_n dX0_bestLook_48 rfl ?_
      refine zA_icmp_ge (tgt := 65) dX0_bestLook_49 rfl (fun h49 => ?_) (fun h49 => ?_)
      · refine zA_iincB (ls' := [some (zR 38), some (zR 1), some (zI (S : Int)), some (zI ((lI (fun x => (gV (bQ (S : Int)) (fun k => μ (40 + k) x) 11 : Int)) a (lO (fun x => (gV (bQ (S : Int)) (fun k => μ (40 + k) x) 11 : Int)) n (cN (bQ (S : Int)) 12 : Int) a).1 (lO (fun x => (gV (bQ (S : Int)) (fun k => μ (40 + k) x) 11 : Int)) n (cN (bQ (S : Int)) 12 : Int) a).2 c).1)), some (zI ((lI (fun x => (gV (bQ (S : Int)) (fun k => μ (40 + k) x) 11 : Int)) a (lO (fun x => (gV (bQ (S : Int)) (fun k => μ (40 + k) x) 11 : Int)) n (cN (bQ (S : Int)) 12 : Int) a).1 (lO (fun x => (gV (bQ (S : Int)) (fun k => μ (40 + k) x) 11 : Int)) n (cN (bQ (S : Int)) 12 : Int) a).2 c).2)), some (zI (a : Int)), some (zI ((c : Int) + 1)), some (zI v2)]) dX0_bestLook_65 rfl rfl ⟨by omega, by omega⟩ rfl ?_
        refine zA_goto (tgt := 23) dX0_bestLook_68 rfl ?_
        refine zA_dr (ls' := [some (zR 38), some (zR 1), some (zI (S : Int)), some (zI ((lI (fun x => (gV (bQ (S : Int)) (fun k => μ (40 + k) x) 11 : Int)) a (lO (fun x => (gV (bQ (S : Int)) (fun k => μ (40 + k) x) 11 : Int)) n (cN (bQ (S : Int)) 12 : Int) a).1 (lO (fun x => (gV (bQ (S : Int)) (fun k => μ (40 + k) x) 11 : Int)) n (cN (bQ (S : Int)) 12 : Int) a).2 c).1)), some (zI ((lI (fun x => (gV (bQ (S : Int)) (fun k => μ (40 + k) x) 11 : Int)) a (lO (fun x => (gV (bQ (S : Int)) (fun k => μ (40 + k) x) 11 : Int)) n (cN (bQ (S : Int)) 12 : Int) a).1 (lO (fun x => (gV (bQ (S : Int)) (fun k => μ (40 + k) x) 11 : Int)) n (cN (bQ (S : Int)) 12 : Int) a).2 c).2)), some (zI (a : Int)), some (zI ((c : Int) + 1)), none]) 7 rfl ?_
        refine zA_leq (ls' := [some (zR 38), some (zR 1), some (zI (S : Int)), some (zI ((lI (fun x => (gV (bQ (S : Int)) (fun k => μ (40 + k) x) 11 : Int)) a (lO (fun x => (gV (bQ (S : Int)) (fun k => μ (40 + k) x) 11 : Int)) n (cN (bQ (S : Int)) 12 : Int) a).1 (lO (fun x => (gV (bQ (S : Int)) (fun k => μ (40 + k) x) 11 : Int)) n (cN (bQ (S : Int)) 12 : Int) a).2 (c + 1)).1)), some (zI ((lI (fun x => (gV (bQ (S : Int)) (fun k => μ (40 + k) x) 11 : Int)) a (lO (fun x => (gV (bQ (S : Int)) (fun k => μ (40 + k) x) 11 : Int)) n (cN (bQ (S : Int)) 12 : Int) a).1 (lO (fun x => (gV (bQ (S : Int)) (fun k => μ (40 + k) x) 11 : Int)) n (cN (bQ (S : Int)) 12 : Int) a).2 (c + 1)).2)), some (zI (a : Int)), some (zI ((c : Int) + 1)), none]) (by simp only [lI]; rw [if_neg (by rw [← eg2]; omega)]) ?_
        exact ih _ (by omega) (c + 1) rfl (by omega) μ2 fr2
      · refine zA_iload dX0_bestLook_52 rfl ?_
        refine zA_istore_n (ls' := [some (zR 38), some (zR 1), some (zI (S : Int)), some (zI v2), some (zI ((lI (fun x => (gV (bQ (S : Int)) (fun k => μ (40 + k) x) 11 : Int)) a (lO (fun x => (gV (bQ (S : Int)) (fun k => μ (40 + k) x) 11 : Int)) n (cN (bQ (S : Int)) 12 : Int) a).1 (lO (fun x => (gV (bQ (S : Int)) (fun k => μ (40 + k) x) 11 : Int)) n (cN (bQ (S : Int)) 12 : Int) a).2 c).2)), some (zI (a : Int)), some (zI (c : Int)), some (zI v2)]) dX0_bestLook_54 rfl rfl ?_
        refine zA_bipush dX0_bestLook_55 rfl ?_
        refine zA_iload dX0_bestLook_57 rfl ?_
        refine zA_imulB dX0_bestLook_59 ⟨by omega, by omega⟩ ?_
        refine zA_iload dX0_bestLook_60 rfl ?_
        refine zA_iaddB dX0_bestLook_62 ⟨by omega, by omega⟩ ?_
        refine zA_istore (ls' := [some (zR 38), some (zR 1), some (zI (S : Int)), some (zI v2), some (zI ((10 * (a : Int)) + (c : Int))), some (zI (a : Int)), some (zI (c : Int)), some (zI v2)]) dX0_bestLook_63 rfl rfl ?_
        refine zA_iincB (ls' := [some (zR 38), some (zR 1), some (zI (S : Int)), some (zI v2), some (zI ((10 * (a : Int)) + (c : Int))), some (zI (a : Int)), some (zI ((c : Int) + 1)), some (zI v2)]) dX0_bestLook_65 rfl rfl ⟨by omega, by omega⟩ rfl ?_
        refine zA_goto (tgt := 23) dX0_bestLook_68 rfl ?_
        refine zA_dr (ls' := [some (zR 38), some (zR 1), some (zI (S : Int)), some (zI v2), some (zI ((10 * (a : Int)) + (c : Int))), some (zI (a : Int)), some (zI ((c : Int) + 1)), none]) 7 rfl ?_
        refine zA_leq (ls' := [some (zR 38), some (zR 1), some (zI (S : Int)), some (zI ((lI (fun x => (gV (bQ (S : Int)) (fun k => μ (40 + k) x) 11 : Int)) a (lO (fun x => (gV (bQ (S : Int)) (fun k => μ (40 + k) x) 11 : Int)) n (cN (bQ (S : Int)) 12 : Int) a).1 (lO (fun x => (gV (bQ (S : Int)) (fun k => μ (40 + k) x) 11 : Int)) n (cN (bQ (S : Int)) 12 : Int) a).2 (c + 1)).1)), some (zI ((lI (fun x => (gV (bQ (S : Int)) (fun k => μ (40 + k) x) 11 : Int)) a (lO (fun x => (gV (bQ (S : Int)) (fun k => μ (40 + k) x) 11 : Int)) n (cN (bQ (S : Int)) 12 : Int) a).1 (lO (fun x => (gV (bQ (S : Int)) (fun k => μ (40 + k) x) 11 : Int)) n (cN (bQ (S : Int)) 12 : Int) a).2 (c + 1)).2)), some (zI (a : Int)), some (zI ((c : Int) + 1)), none]) (by simp only [lI]; rw [if_pos (by rw [← eg2]; omega), ← eg2]) ?_
        exact ih _ (by omega) (c + 1) rfl (by omega) μ2 fr2
theorem l_X0_bestLook (d : Nat) (μ : zM) (n m t S : Nat) (u : Int) (hH : zHs μ n m t u) (hea : ∀ k, k < 11 → bQ (S : Int) k = true → ∀ a c, a < m → c < n → 0 ≤ μ (40 + k) (a * 5 + c) ∧ μ (40 + k) (a * 5 + c) ≤ 60) : ∀ (t0 a : Nat), m - a = t0 → a ≤ m → ∀ ν : zM, (∀ c, c ≠ 51 → ν c = μ c) → zA RX0 cX0_bestLook 8 (zRm (d + 3) 0) zN0 TF 0 ν 11 [some (zR 38), some (zR 1), some (zI (S : Int)), some (zI ((lO (fun x => (gV (bQ (S : Int)) (fun k => μ (40 + k) x) 11 : Int)) n (cN (bQ (S : Int)) 12 : Int) a).1)), some (zI ((lO (fun x => (gV (bQ (S : Int)) (fun k => μ (40 + k) x) 11 : Int)) n (cN (bQ (S : Int)) 12 : Int) a).2)), some (zI (a : Int)), none, none] [] (zPi (fun v ξ => v = (lO (fun x => (gV (bQ (S : Int)) (fun k => μ (40 + k) x) 11 : Int)) n (cN (bQ (S : Int)) 12 : Int) m).2 ∧ ∀ c, c ≠ 51 → ξ c = μ c)) := by
  have hH0 := hH
  obtain ⟨hn, hu, hm, ht, hn5, hm6, ht10, hu1, hdk⟩ := hH0
  intro t0
  induction t0 using Nat.strongRecOn with
  | ind t0 ih =>
    intro a hk ham ν hfr
    refine zA_iload dX0_bestLook_11 rfl ?_
    refine zA_aload_n dX0_bestLook_13 rfl ?_
    refine zA_getE (w := (m : Int)) fX0_54 t_1 dX0_bestLook_14 (by rw [hfr 1 (by decide)]; exact hm) ?_
    refine zA_icmp_ge (tgt := 77) dX0_bestLook_17 rfl (fun h17 => ?_) (fun h17 => ?_)
    · refine zA_iload dX0_bestLook_77 rfl ?_
      exact zA_ri dX0_bestLook_79 ⟨by rw [show m = a by omega], hfr⟩
    · refine zA_iconst dX0_bestLook_20 rfl ?_
      refine zA_istore (ls' := [some (zR 38), some (zR 1), some (zI (S : Int)), some (zI ((lO (fun x => (gV (bQ (S : Int)) (fun k => μ (40 + k) x) 11 : Int)) n (cN (bQ (S : Int)) 12 : Int) a).1)), some (zI ((lO (fun x => (gV (bQ (S : Int)) (fun k => μ (40 + k) x) 11 : Int)) n (cN (bQ (S : Int)) 12 : Int) a).2)), some (zI (a : Int)), some (zI 0), none]) dX0_bestLook_21 rfl rfl ?_
      refine l_X0_bestLookI d μ n m t S u hH hea a (by omega) _ (fun ν hfr => ?_) _ 0 rfl (by omega) ν hfr
      refine zA_iincB (ls' := [some (zR 38), some (zR 1), some (zI (S : Int)), some (zI ((lI (fun x => (gV (bQ (S : Int)) (fun k => μ (40 + k) x) 11 : Int)) a (lO (fun x => (gV (bQ (S : Int)) (fun k => μ (40 + k) x) 11 : Int)) n (cN (bQ (S : Int)) 12 : Int) a).1 (lO (fun x => (gV (bQ (S : Int)) (fun k => μ (40 + k) x) 11 : Int)) n (cN (bQ (S : Int)) 12 : Int) a).2 n).1)), some (zI ((lI (fun x => (gV (bQ (S : Int)) (fun k => μ (40 + k) x) 11 : Int)) a (lO (fun x => (gV (bQ (S : Int)) (fun k => μ (40 + k) x) 11 : Int)) n (cN (bQ (S : Int)) 12 : Int) a).1 (lO (fun x => (gV (bQ (S : Int)) (fun k => μ (40 + k) x) 11 : Int)) n (cN (bQ (S : Int)) 12 : Int) a).2 n).2)), some (zI ((a : Int) + 1)), none, none]) dX0_bestLook_71 rfl rfl ⟨by omega, by omega⟩ rfl ?_
      refine zA_goto (tgt := 11) dX0_bestLook_74 rfl ?_
      exact ih _ (by omega) (a + 1) rfl (by omega) ν hfr
theorem c_X0_bestLook (d : Nat) (μ : zM) (n m t S : Nat) (u : Int) (hH : zHs μ n m t u) (hea : ∀ k, k < 11 → bQ (S : Int) k = true → ∀ a c, a < m → c < n → 0 ≤ μ (40 + k) (a * 5 + c) ∧ μ (40 + k) (a * 5 + c) ≤ 60) (hS : S < 2048) : zMet (d + 3) 0 yX0_bestLook cX0_bestLook 8 (some .int) TF μ [zR 38, zR 1, zI (S : Int)] (zPi (fun v ξ => v = (lO (fun x => (gV (bQ (S : Int)) (fun k => μ (40 + k) x) 11 : Int)) n (cN (bQ (S : Int)) 12 : Int) m).2 ∧ ∀ c, c ≠ 51 → ξ c = μ c)) := by
  refine zMi_of RX0 rfl (by decide) rfl (ls := [some (zR 38), some (zR 1), some (zI (S : Int)), none, none, none, none, none]) rfl (fun hok0 => ?_)
  refine zA_iload_n dX0_bestLook_0 rfl ?_
  refine zA_cSi (st := []) kX0_48 (c_bitCount (d + 1) S μ hS) rfl rfl rfl dX0_bestLook_1 (zfit0 (by omega) rfl) (fun v1 μ1 q1 => ?_)
  obtain ⟨rfl, rfl⟩ := q1
  refine zA_istore_n (ls' := [some (zR 38), some (zR 1), some (zI (S : Int)), some (zI ((cN (bQ (S : Int)) 12 : Int))), none, none, none, none]) dX0_bestLook_4 rfl rfl ?_
  refine zA_iconst dX0_bestLook_5 rfl ?_
  refine zA_istore (ls' := [some (zR 38), some (zR 1), some (zI (S : Int)), some (zI ((cN (bQ (S : Int)) 12 : Int))), some (zI (-1)), none, none, none]) dX0_bestLook_6 rfl rfl ?_
  refine zA_iconst dX0_bestLook_8 rfl ?_
  refine zA_istore (ls' := [some (zR 38), some (zR 1), some (zI (S : Int)), some (zI ((cN (bQ (S : Int)) 12 : Int))), some (zI (-1)), some (zI 0), none, none]) dX0_bestLook_9 rfl rfl ?_
  exact l_X0_bestLook d μ n m t S u hH hea _ 0 rfl (by omega) μ (fun _ _ => rfl)
theorem c_X8_look (d : Nat) (μ : zM) (n m t s : Nat) (u : Int) (hH : zHs μ n m t u) (hok : rOk n m (μ 53)) (hs8 : s ≤ 8) (hs3 : μ 96 3 = s) (hs5 : ∀ k, k < s → 0 ≤ μ 97 k ∧ μ 97 k < 30) : zMet (d + 7) 0 yX8_look cX8_look 1 (some .int) TF μ [zR 0] (zPi (fun v ξ => v = (lO (fun x => (gV (bQ ((sB (fun j => fitB (dRow u n (μ 52 1) (μ 3) (μ 4) ((2 ^ j : Nat) : Int) (μ 53) t) (μ 97) (μ 98) s) (t + 1)) : Int)) (fun k => (dRow u n (μ 52 1) (μ 3) (μ 4) ((2 ^ k : Nat) : Int) (μ 53) t) x) 11 : Int)) n (cN (bQ ((sB (fun j => fitB (dRow u n (μ 52 1) (μ 3) (μ 4) ((2 ^ j : Nat) : Int) (μ 53) t) (μ 97) (μ 98) s) (t + 1)) : Int)) 12 : Int) m).2 ∧ qC μ ξ)) := by
  have hH0 := hH
  obtain ⟨hn, hu, hm, ht, hn5, hm6, ht10, hu1, hdk⟩ := hH0
  refine zMi_of RX8 rfl (by decide) rfl (ls := [some (zR 0)]) rfl (fun hok0 => ?_)
  refine zA_aload_n dX8_look_0 rfl ?_
  refine zA_getR fX8_40 t_0 rfl dX8_look_1 ?_
  refine zA_aload_n dX8_look_4 rfl ?_
  refine zA_getR fX8_12 t_0 rfl dX8_look_5 ?_
  refine zA_aload_n dX8_look_8 rfl ?_
  refine zA_getR fX8_40 t_0 rfl dX8_look_9 ?_
  refine zA_aload_n dX8_look_12 rfl ?_
  refine zA_getR fX8_12 t_0 rfl dX8_look_13 ?_
  refine zA_aload_n dX8_look_16 rfl ?_
  refine zA_getR fX8_47 t_0 rfl dX8_look_17 ?_
  refine zA_aload_n dX8_look_20 rfl ?_
  refine zA_getR fX8_63 t_0 rfl dX8_look_21 ?_
  refine zA_cVi (st := [zR 1, zR 38]) kX8_261 t_38 rfl rfl (c_X0_findFitting d μ n m t s u hH hok hs8 hs3 hs5) rfl rfl rfl dX8_look_24 (zfit0 (by omega) rfl) (fun v1 μ1 q1 => ?_)
  obtain ⟨rfl, e2, e3⟩ := q1
  refine zA_cVi (st := []) kX8_265 t_38 rfl rfl (c_X0_bestLook (d + 3) μ1 n m t (sB (fun j => fitB (dRow u n (μ 52 1) (μ 3) (μ 4) ((2 ^ j : Nat) : Int) (μ 53) t) (μ 97) (μ 98) s) (t + 1)) u (hH.keep (e3 1 (by decide) (by decide) (by decide) (by decide)) (e3 3 (by decide) (by decide) (by decide) (by decide)) (e3 4 (by decide) (by decide) (by decide) (by decide))) (fun k hk hq a c ha hc => by have hk1 : k < t + 1 := Decidable.byContradiction (fun h => by rw [bQ_hi (sB_lt (t + 1)) (by omega) (by omega)] at hq; cases hq); rw [e2 k hk1 _ (by omega)]; have hr := dRow_ok (g := μ 52 1) (wo := ((2 ^ k : Nat) : Int)) hn5 hu1 hdk hok t (Nat.le_refl _); exact ⟨(hr a ha).1 c hc, gOk_le (hr a ha) hc⟩) (Nat.lt_of_lt_of_le (sB_lt (t + 1)) (Nat.le_trans (Nat.pow_le_pow_right (n := 2) (by decide) (show t + 1 ≤ 11 by omega)) (by decide)))) rfl rfl rfl dX8_look_27 (zfit0 (by omega) rfl) (fun v2 μ2 q2 => ?_)
  obtain ⟨e4, e5⟩ := q2
  refine zA_ri dX8_look_30 ⟨?_, ?_⟩
  · rw [e4]
    congr 1
    refine lO_congr (fun a c ha hc => ?_)
    show (gV _ _ 11 : Int) = (gV _ _ 11 : Int)
    congr 1
    refine gV_congr (fun k hk hq => ?_)
    have hk1 : k < t + 1 := Decidable.byContradiction (fun h => by rw [bQ_hi (sB_lt (t + 1)) (by omega) (by omega)] at hq; cases hq)
    exact e2 k hk1 _ (by omega)
  · intro k hk
    have h51 : k ≠ 51 := fun e => hk (by unfold cScr; omega)
    rw [e5 k h51]
    exact qC_gap e3 k hk
theorem l_X9_greatestPartI (d S x t g M : Nat) (μ : zM) (P : zP) (ht : μ 110 5 = t) (ht10 : t ≤ 10) (hx : x < 30) (hg : g ≤ t) (hc : zA RX9 cX9_greatestPart 7 (zRm (d + 2) 0) zN0 TF 0 μ 90 [some (zR 110), some (zI (S : Int)), some (zI (x : Int)), some (zI (M : Int)), some (zI (g : Int)), some (zI ((nG (bQ (S : Int)) (fun k => μ 126 (30 * k + x)) g (t + 1) : Int))), none] [] P) : ∀ (t0 h : Nat), t + 1 - h = t0 → h ≤ t + 1 → zA RX9 cX9_greatestPart 7 (zRm (d + 2) 0) zN0 TF 0 μ 20 [some (zR 110), some (zI (S : Int)), some (zI (x : Int)), some (zI (M : Int)), some (zI (g : Int)), some (zI ((nG (bQ (S : Int)) (fun k => μ 126 (30 * k + x)) g h : Int))), some (zI (h : Int))] [] P := by
  intro t0
  induction t0 using Nat.strongRecOn with
  | ind t0 ih =>
    intro h hk hht
    refine zA_iload dX9_greatestPart_20 rfl ?_
    refine zA_aload_n dX9_greatestPart_22 rfl ?_
    refine zA_getE (w := (t : Int)) fX9_169 t_110 dX9_greatestPart_23 ht ?_
    refine zA_icmp_gt (tgt := 90) dX9_greatestPart_26 rfl (fun h26 => ?_) (fun h26 => ?_)
    · refine zA_dr (ls' := [some (zR 110), some (zI (S : Int)), some (zI (x : Int)), some (zI (M : Int)), some (zI (g : Int)), some (zI ((nG (bQ (S : Int)) (fun k => μ 126 (30 * k + x)) g h : Int))), none]) 6 rfl ?_
      obtain rfl : h = t + 1 := by omega
      exact hc
    · have hnl : nG (bQ (S : Int)) (fun k => μ 126 (30 * k + x)) g h ≤ h := by unfold nG; split; exact gC_le; omega
      refine zA_iload dX9_greatestPart_29 rfl ?_
      refine zA_iload_n dX9_greatestPart_31 rfl ?_
      refine zA_iload dX9_greatestPart_32 rfl ?_
      refine zA_cSb (st := [zI ((nG (bQ (S : Int)) (fun k => μ 126 (30 * k + x)) g h : Int))]) kX9_140 (c_X9_has d (S : Int) (g : Int) μ) rfl rfl rfl dX9_greatestPart_34 (zfit0 (by omega) rfl) (fun v1 μ1 q1 => ?_)
      obtain ⟨b1, rfl⟩ := q1
      refine zA_ifb_eq (tgt := 80) dX9_greatestPart_37 rfl (fun h37 => ?_) (fun h37 => ?_)
      · refine zA_iconst dX9_greatestPart_80 rfl ?_
        refine zA_iaddB dX9_greatestPart_81 ⟨by omega, by omega⟩ ?_
        refine zA_istore (ls' := [some (zR 110), some (zI (S : Int)), some (zI (x : Int)), some (zI (M : Int)), some (zI (g : Int)), some (zI (((nG (bQ (S : Int)) (fun k => μ 126 (30 * k + x)) g h : Int)) + 0)), some (zI (h : Int))]) dX9_greatestPart_82 rfl rfl ?_
        refine zA_iincB (ls' := [some (zR 110), some (zI (S : Int)), some (zI (x : Int)), some (zI (M : Int)), some (zI (g : Int)), some (zI (((nG (bQ (S : Int)) (fun k => μ 126 (30 * k + x)) g h : Int)) + 0)), some (zI ((h : Int) + 1))]) dX9_greatestPart_84 rfl rfl ⟨by omega, by omega⟩ rfl ?_
        refine zA_goto (tgt := 20) dX9_greatestPart_87 rfl ?_
        refine zA_leq (ls' := [some (zR 110), some (zI (S : Int)), some (zI (x : Int)), some (zI (M : Int)), some (zI (g : Int)), some (zI ((nG (bQ (S : Int)) (fun k => μ 126 (30 * k + x)) g (h + 1) : Int))), some (zI ((h : Int) + 1))]) (by rw [nG_s, if_neg (fun r => by first | exact h73 r.2.2 | (have := b1.mpr (of_decide_eq_true r.1); simp_all; done) | (have := b2.mpr (of_decide_eq_true r.2.1); simp_all; done)), Int.add_zero]) ?_
        exact ih _ (by omega) (h + 1) rfl (by omega)
      · refine zA_iload_n dX9_greatestPart_40 rfl ?_
        refine zA_iload dX9_greatestPart_41 rfl ?_
        refine zA_cSb (st := [zI ((nG (bQ (S : Int)) (fun k => μ 126 (30 * k + x)) g h : Int))]) kX9_140 (c_X9_has d (S : Int) (h : Int) μ) rfl rfl rfl dX9_greatestPart_43 (zfit0 (by omega) rfl) (fun v2 μ2 q2 => ?_)
        obtain ⟨b2, rfl⟩ := q2
        refine zA_ifb_eq (tgt := 80) dX9_greatestPart_46 rfl (fun h46 => ?_) (fun h46 => ?_)
        · refine zA_iconst dX9_greatestPart_80 rfl ?_
          refine zA_iaddB dX9_greatestPart_81 ⟨by omega, by omega⟩ ?_
          refine zA_istore (ls' := [some (zR 110), some (zI (S : Int)), some (zI (x : Int)), some (zI (M : Int)), some (zI (g : Int)), some (zI (((nG (bQ (S : Int)) (fun k => μ 126 (30 * k + x)) g h : Int)) + 0)), some (zI (h : Int))]) dX9_greatestPart_82 rfl rfl ?_
          refine zA_iincB (ls' := [some (zR 110), some (zI (S : Int)), some (zI (x : Int)), some (zI (M : Int)), some (zI (g : Int)), some (zI (((nG (bQ (S : Int)) (fun k => μ 126 (30 * k + x)) g h : Int)) + 0)), some (zI ((h : Int) + 1))]) dX9_greatestPart_84 rfl rfl ⟨by omega, by omega⟩ rfl ?_
          refine zA_goto (tgt := 20) dX9_greatestPart_87 rfl ?_
          refine zA_leq (ls' := [some (zR 110), some (zI (S : Int)), some (zI (x : Int)), some (zI (M : Int)), some (zI (g : Int)), some (zI ((nG (bQ (S : Int)) (fun k => μ 126 (30 * k + x)) g (h + 1) : Int))), some (zI ((h : Int) + 1))]) (by rw [nG_s, if_neg (fun r => by first | exact h73 r.2.2 | (have := b1.mpr (of_decide_eq_true r.1); simp_all; done) | (have := b2.mpr (of_decide_eq_true r.2.1); simp_all; done)), Int.add_zero]) ?_
          exact ih _ (by omega) (h + 1) rfl (by omega)
        · refine zA_aload_n dX9_greatestPart_49 rfl ?_
          refine zA_getR fX9_59 t_110 rfl dX9_greatestPart_50 ?_
          refine zA_bipush dX9_greatestPart_53 rfl ?_
          refine zA_iload dX9_greatestPart_55 rfl ?_
          refine zA_imulB dX9_greatestPart_57 ⟨by omega, by omega⟩ ?_
          refine zA_iload_n dX9_greatestPart_58 rfl ?_
          refine zA_iaddB dX9_greatestPart_59 ⟨by omega, by omega⟩ ?_
          refine zA_ialE (w := μ 126 (30 * g + x)) (j := 30 * g + x) t_126 (by omega) (by omega) dX9_greatestPart_60 rfl rfl ?_
          refine zA_aload_n dX9_greatestPart_61 rfl ?_
          refine zA_getR fX9_59 t_110 rfl dX9_greatestPart_62 ?_
          refine zA_bipush dX9_greatestPart_65 rfl ?_
          refine zA_iload dX9_greatestPart_67 rfl ?_
          refine zA_imulB dX9_greatestPart_69 ⟨by omega, by omega⟩ ?_
          refine zA_iload_n dX9_greatestPart_70 rfl ?_
          refine zA_iaddB dX9_greatestPart_71 ⟨by omega, by omega⟩ ?_
          refine zA_ialE (w := μ 126 (30 * h + x)) (j := 30 * h + x) t_126 (by omega) (by omega) dX9_greatestPart_72 rfl rfl ?_
          refine zA_icmp_ne (tgt := 80) dX9_greatestPart_73 rfl (fun h73 => ?_) (fun h73 => ?_)
          · refine zA_iconst dX9_greatestPart_80 rfl ?_
            refine zA_iaddB dX9_greatestPart_81 ⟨by omega, by omega⟩ ?_
            refine zA_istore (ls' := [some (zR 110), some (zI (S : Int)), some (zI (x : Int)), some (zI (M : Int)), some (zI (g : Int)), some (zI (((nG (bQ (S : Int)) (fun k => μ 126 (30 * k + x)) g h : Int)) + 0)), some (zI (h : Int))]) dX9_greatestPart_82 rfl rfl ?_
            refine zA_iincB (ls' := [some (zR 110), some (zI (S : Int)), some (zI (x : Int)), some (zI (M : Int)), some (zI (g : Int)), some (zI (((nG (bQ (S : Int)) (fun k => μ 126 (30 * k + x)) g h : Int)) + 0)), some (zI ((h : Int) + 1))]) dX9_greatestPart_84 rfl rfl ⟨by omega, by omega⟩ rfl ?_
            refine zA_goto (tgt := 20) dX9_greatestPart_87 rfl ?_
            refine zA_leq (ls' := [some (zR 110), some (zI (S : Int)), some (zI (x : Int)), some (zI (M : Int)), some (zI (g : Int)), some (zI ((nG (bQ (S : Int)) (fun k => μ 126 (30 * k + x)) g (h + 1) : Int))), some (zI ((h : Int) + 1))]) (by rw [nG_s, if_neg (fun r => by first | exact h73 r.2.2 | (have := b1.mpr (of_decide_eq_true r.1); simp_all; done) | (have := b2.mpr (of_decide_eq_true r.2.1); simp_all; done)), Int.add_zero]) ?_
            exact ih _ (by omega) (h + 1) rfl (by omega)
          · refine zA_iconst dX9_greatestPart_76 rfl ?_
            refine zA_goto (tgt := 81) dX9_greatestPart_77 rfl ?_
            refine zA_iaddB dX9_greatestPart_81 ⟨by omega, by omega⟩ ?_
            refine zA_istore (ls' := [some (zR 110), some (zI (S : Int)), some (zI (x : Int)), some (zI (M : Int)), some (zI (g : Int)), some (zI (((nG (bQ (S : Int)) (fun k => μ 126 (30 * k + x)) g h : Int)) + 1)), some (zI (h : Int))]) dX9_greatestPart_82 rfl rfl ?_
            refine zA_iincB (ls' := [some (zR 110), some (zI (S : Int)), some (zI (x : Int)), some (zI (M : Int)), some (zI (g : Int)), some (zI (((nG (bQ (S : Int)) (fun k => μ 126 (30 * k + x)) g h : Int)) + 1)), some (zI ((h : Int) + 1))]) dX9_greatestPart_84 rfl rfl ⟨by omega, by omega⟩ rfl ?_
            refine zA_goto (tgt := 20) dX9_greatestPart_87 rfl ?_
            refine zA_leq (ls' := [some (zR 110), some (zI (S : Int)), some (zI (x : Int)), some (zI (M : Int)), some (zI (g : Int)), some (zI ((nG (bQ (S : Int)) (fun k => μ 126 (30 * k + x)) g (h + 1) : Int))), some (zI ((h : Int) + 1))]) (by rw [nG_s, if_pos ⟨decide_eq_true (b1.mp (by simpa using h37)), decide_eq_true (b2.mp (by simpa using h46)), h73⟩]; rfl) ?_
            exact ih _ (by omega) (h + 1) rfl (by omega)
theorem l_X9_greatestPart (d S x t : Nat) (μ : zM) (ht : μ 110 5 = t) (ht10 : t ≤ 10) (hx : x < 30) : ∀ (t0 g M : Nat), t + 1 - g = t0 → g ≤ t + 1 → gMo (bQ (S : Int)) (fun k => μ 126 (30 * k + x)) (t + 1) g M → zA RX9 cX9_greatestPart 7 (zRm (d + 2) 0) zN0 TF 0 μ 5 [some (zR 110), some (zI (S : Int)), some (zI (x : Int)), some (zI (M : Int)), some (zI (g : Int)), none, none] [] (zPi (fun v ξ => v = (gV (bQ (S : Int)) (fun k => μ 126 (30 * k + x)) (t + 1) : Int) ∧ μ = ξ)) := by
  intro t0
  induction t0 using Nat.strongRecOn with
  | ind t0 ih =>
    intro g M hk hgt hM
    refine zA_iload dX9_greatestPart_5 rfl ?_
    refine zA_aload_n dX9_greatestPart_7 rfl ?_
    refine zA_getE (w := (t : Int)) fX9_169 t_110 dX9_greatestPart_8 ht ?_
    refine zA_icmp_gt (tgt := 109) dX9_greatestPart_11 rfl (fun h11 => ?_) (fun h11 => ?_)
    · refine zA_iload_n dX9_greatestPart_109 rfl ?_
      exact zA_ri dX9_greatestPart_110 ⟨by rw [show g = t + 1 by omega] at hM; rw [gMo_end hM], rfl⟩
    · refine zA_iconst dX9_greatestPart_14 rfl ?_
      refine zA_istore (ls' := [some (zR 110), some (zI (S : Int)), some (zI (x : Int)), some (zI (M : Int)), some (zI (g : Int)), some (zI 0), none]) dX9_greatestPart_15 rfl rfl ?_
      refine zA_iconst dX9_greatestPart_17 rfl ?_
      refine zA_istore (ls' := [some (zR 110), some (zI (S : Int)), some (zI (x : Int)), some (zI (M : Int)), some (zI (g : Int)), some (zI 0), some (zI 0)]) dX9_greatestPart_18 rfl rfl ?_
      refine zA_leq (ls' := [some (zR 110), some (zI (S : Int)), some (zI (x : Int)), some (zI (M : Int)), some (zI (g : Int)), some (zI ((nG (bQ (S : Int)) (fun k => μ 126 (30 * k + x)) g 0 : Int))), some (zI 0)]) (by rw [show nG (bQ (S : Int)) (fun k => μ 126 (30 * k + x)) g 0 = 0 by unfold nG gC; split <;> rfl]; rfl) ?_
      refine l_X9_greatestPartI d S x t g M μ _ ht ht10 hx (by omega) ?_ _ 0 rfl (by omega)
      refine zA_iload dX9_greatestPart_90 rfl ?_
      refine zA_iload_n dX9_greatestPart_92 rfl ?_
      refine zA_icmp_le (tgt := 101) dX9_greatestPart_93 rfl (fun h93 => ?_) (fun h93 => ?_)
      · refine zA_iload_n dX9_greatestPart_101 rfl ?_
        refine zA_istore_n (ls' := [some (zR 110), some (zI (S : Int)), some (zI (x : Int)), some (zI (M : Int)), some (zI (g : Int)), some (zI ((nG (bQ (S : Int)) (fun k => μ 126 (30 * k + x)) g (t + 1) : Int))), none]) dX9_greatestPart_102 rfl rfl ?_
        refine zA_iincB (ls' := [some (zR 110), some (zI (S : Int)), some (zI (x : Int)), some (zI (M : Int)), some (zI ((g : Int) + 1)), some (zI ((nG (bQ (S : Int)) (fun k => μ 126 (30 * k + x)) g (t + 1) : Int))), none]) dX9_greatestPart_103 rfl rfl ⟨by omega, by omega⟩ rfl ?_
        refine zA_goto (tgt := 5) dX9_greatestPart_106 rfl ?_
        refine zA_dr (ls' := [some (zR 110), some (zI (S : Int)), some (zI (x : Int)), some (zI (M : Int)), some (zI ((g : Int) + 1)), none, none]) 5 rfl ?_
        refine zA_leq (ls' := [some (zR 110), some (zI (S : Int)), some (zI (x : Int)), some (zI (((if M < nG (bQ (S : Int)) (fun k => μ 126 (30 * k + x)) g (t + 1) then nG (bQ (S : Int)) (fun k => μ 126 (30 * k + x)) g (t + 1) else M : Nat) : Int))), some (zI ((g : Int) + 1)), none, none]) (by rw [if_neg (by omega)]) ?_
        exact ih _ (by omega) (g + 1) _ rfl (by omega) (gMo_s hM)
      · refine zA_iload dX9_greatestPart_96 rfl ?_
        refine zA_goto (tgt := 102) dX9_greatestPart_98 rfl ?_
        refine zA_istore_n (ls' := [some (zR 110), some (zI (S : Int)), some (zI (x : Int)), some (zI ((nG (bQ (S : Int)) (fun k => μ 126 (30 * k + x)) g (t + 1) : Int))), some (zI (g : Int)), some (zI ((nG (bQ (S : Int)) (fun k => μ 126 (30 * k + x)) g (t + 1) : Int))), none]) dX9_greatestPart_102 rfl rfl ?_
        refine zA_iincB (ls' := [some (zR 110), some (zI (S : Int)), some (zI (x : Int)), some (zI ((nG (bQ (S : Int)) (fun k => μ 126 (30 * k + x)) g (t + 1) : Int))), some (zI ((g : Int) + 1)), some (zI ((nG (bQ (S : Int)) (fun k => μ 126 (30 * k + x)) g (t + 1) : Int))), none]) dX9_greatestPart_103 rfl rfl ⟨by omega, by omega⟩ rfl ?_
        refine zA_goto (tgt := 5) dX9_greatestPart_106 rfl ?_
        refine zA_dr (ls' := [some (zR 110), some (zI (S : Int)), some (zI (x : Int)), some (zI ((nG (bQ (S : Int)) (fun k => μ 126 (30 * k + x)) g (t + 1) : Int))), some (zI ((g : Int) + 1)), none, none]) 5 rfl ?_
        refine zA_leq (ls' := [some (zR 110), some (zI (S : Int)), some (zI (x : Int)), some (zI (((if M < nG (bQ (S : Int)) (fun k => μ 126 (30 * k + x)) g (t + 1) then nG (bQ (S : Int)) (fun k => μ 126 (30 * k + x)) g (t + 1) else M : Nat) : Int))), some (zI ((g : Int) + 1)), none, none]) (by rw [if_pos (by omega)]) ?_
        exact ih _ (by omega) (g + 1) _ rfl (by omega) (gMo_s hM)
theorem c_X9_greatestPart (d S x t : Nat) (μ : zM) (ht : μ 110 5 = t) (ht10 : t ≤ 10) (hx : x < 30) : zMet (d + 2) 0 yX9_greatestPart cX9_greatestPart 7 (some .int) TF μ [zR 110, zI (S : Int), zI (x : Int)] (zPi (fun v ξ => v = (gV (bQ (S : Int)) (fun k => μ 126 (30 * k + x)) (t + 1) : Int) ∧ μ = ξ)) := by
  refine zMi_of RX9 rfl (by decide) rfl (ls := [some (zR 110), some (zI (S : Int)), some (zI (x : Int)), none, none, none, none]) rfl (fun hok0 => ?_)
  refine zA_iconst dX9_greatestPart_0 rfl ?_
  refine zA_istore_n (ls' := [some (zR 110), some (zI (S : Int)), some (zI (x : Int)), some (zI 0), none, none, none]) dX9_greatestPart_1 rfl rfl ?_
  refine zA_iconst dX9_greatestPart_2 rfl ?_
  refine zA_istore (ls' := [some (zR 110), some (zI (S : Int)), some (zI (x : Int)), some (zI 0), some (zI 0), none, none]) dX9_greatestPart_3 rfl rfl ?_
  exact l_X9_greatestPart d S x t μ ht ht10 hx _ 0 0 rfl (by omega) ⟨fun j hj => by omega, Or.inl rfl⟩
theorem l_X9_lookI (d : Nat) (μ : zM) (n m t S : Nat) (hn : μ 110 0 = n) (hm : μ 110 2 = m) (ht : μ 110 5 = t) (hn5 : n ≤ 5) (hm6 : m ≤ 6) (ht10 : t ≤ 10) (a : Nat) (ha : a < m) (P : zP) (hc : zA RX9 cX9_look 7 (zRm (d + 3) 0) zN0 TF 0 μ 88 [some (zR 110), some (zI (S : Int)), some (zI ((lI (fun x => (gV (bQ (S : Int)) (fun k => μ 126 (30 * k + x)) (t + 1) : Int)) a (lO (fun x => (gV (bQ (S : Int)) (fun k => μ 126 (30 * k + x)) (t + 1) : Int)) n (cN (bQ (S : Int)) 12 : Int) a).1 (lO (fun x => (gV (bQ (S : Int)) (fun k => μ 126 (30 * k + x)) (t + 1) : Int)) n (cN (bQ (S : Int)) 12 : Int) a).2 n).2)), some (zI ((lI (fun x => (gV (bQ (S : Int)) (fun k => μ 126 (30 * k + x)) (t + 1) : Int)) a (lO (fun x => (gV (bQ (S : Int)) (fun k => μ 126 (30 * k + x)) (t + 1) : Int)) n (cN (bQ (S : Int)) 12 : Int) a).1 (lO (fun x => (gV (bQ (S : Int)) (fun k => μ 126 (30 * k + x)) (t + 1) : Int)) n (cN (bQ (S : Int)) 12 : Int) a).2 n).1)), some (zI (a : Int)), none, none] [] P) : ∀ (t0 c : Nat), n - c = t0 → c ≤ n → zA RX9 cX9_look 7 (zRm (d + 3) 0) zN0 TF 0 μ 27 [some (zR 110), some (zI (S : Int)), some (zI ((lI (fun x => (gV (bQ (S : Int)) (fun k => μ 126 (30 * k + x)) (t + 1) : Int)) a (lO (fun x => (gV (bQ (S : Int)) (fun k => μ 126 (30 * k + x)) (t + 1) : Int)) n (cN (bQ (S : Int)) 12 : Int) a).1 (lO (fun x => (gV (bQ (S : Int)) (fun k => μ 126 (30 * k + x)) (t + 1) : Int)) n (cN (bQ (S : Int)) 12 : Int) a).2 c).2)), some (zI ((lI (fun x => (gV (bQ (S : Int)) (fun k => μ 126 (30 * k + x)) (t + 1) : Int)) a (lO (fun x => (gV (bQ (S : Int)) (fun k => μ 126 (30 * k + x)) (t + 1) : Int)) n (cN (bQ (S : Int)) 12 : Int) a).1 (lO (fun x => (gV (bQ (S : Int)) (fun k => μ 126 (30 * k + x)) (t + 1) : Int)) n (cN (bQ (S : Int)) 12 : Int) a).2 c).1)), some (zI (a : Int)), some (zI (c : Int)), none] [] P := by
  intro t0
  induction t0 using Nat.strongRecOn with
  | ind t0 ih =>
    intro c hk hcn
    refine zA_iload dX9_look_27 rfl ?_
    refine zA_aload_n dX9_look_29 rfl ?_
    refine zA_getE (w := (n : Int)) fX9_75 t_110 dX9_look_30 hn ?_
    refine zA_icmp_ge (tgt := 88) dX9_look_33 rfl (fun h33 => ?_) (fun h33 => ?_)
    · refine zA_dr (ls' := [some (zR 110), some (zI (S : Int)), some (zI ((lI (fun x => (gV (bQ (S : Int)) (fun k => μ 126 (30 * k + x)) (t + 1) : Int)) a (lO (fun x => (gV (bQ (S : Int)) (fun k => μ 126 (30 * k + x)) (t + 1) : Int)) n (cN (bQ (S : Int)) 12 : Int) a).1 (lO (fun x => (gV (bQ (S : Int)) (fun k => μ 126 (30 * k + x)) (t + 1) : Int)) n (cN (bQ (S : Int)) 12 : Int) a).2 c).2)), some (zI ((lI (fun x => (gV (bQ (S : Int)) (fun k => μ 126 (30 * k + x)) (t + 1) : Int)) a (lO (fun x => (gV (bQ (S : Int)) (fun k => μ 126 (30 * k + x)) (t + 1) : Int)) n (cN (bQ (S : Int)) 12 : Int) a).1 (lO (fun x => (gV (bQ (S : Int)) (fun k => μ 126 (30 * k + x)) (t + 1) : Int)) n (cN (bQ (S : Int)) 12 : Int) a).2 c).1)), some (zI (a : Int)), none, none]) 5 rfl ?_
      obtain rfl : c = n := by omega
      exact hc
    · refine zA_aload_n dX9_look_36 rfl ?_
      refine zA_iload_n dX9_look_37 rfl ?_
      refine zA_iconst dX9_look_38 rfl ?_
      refine zA_iload dX9_look_39 rfl ?_
      refine zA_imulB dX9_look_41 ⟨by omega, by omega⟩ ?_
      refine zA_iload dX9_look_42 rfl ?_
      refine zA_iaddE (w := ((5 * a + c : Nat) : Int)) dX9_look_44 ⟨by omega, by omega⟩ (by omega) ?_
      refine zA_cVi (st := []) kX9_269 t_110 rfl rfl (c_X9_greatestPart d S (5 * a + c) t μ ht ht10 (by omega)) rfl rfl rfl dX9_look_45 (zfit0 (by omega) rfl) (fun v1 μ1 q1 => ?_)
      obtain ⟨eg, rfl⟩ := q1
      have eg2 : v1 = (gV (bQ (S : Int)) (fun k => μ 126 (30 * k + (a * 5 + c))) (t + 1) : Int) := by rw [eg, Nat.mul_comm 5 a]
      have hgl := gV_le (q := bQ (S : Int)) (e := fun k => μ 126 (30 * k + (a * 5 + c))) (k := t + 1)
      refine zA_istore (ls' := [some (zR 110), some (zI (S : Int)), some (zI ((lI (fun x => (gV (bQ (S : Int)) (fun k => μ 126 (30 * k + x)) (t + 1) : Int)) a (lO (fun x => (gV (bQ (S : Int)) (fun k => μ 126 (30 * k + x)) (t + 1) : Int)) n (cN (bQ (S : Int)) 12 : Int) a).1 (lO (fun x => (gV (bQ (S : Int)) (fun k => μ 126 (30 * k + x)) (t + 1) : Int)) n (cN (bQ (S : Int)) 12 : Int) a).2 c).2)), some (zI ((lI (fun x => (gV (bQ (S : Int)) (fun k => μ 126 (30 * k + x)) (t + 1) : Int)) a (lO (fun x => (gV (bQ (S : Int)) (fun k => μ 126 (30 * k + x)) (t + 1) : Int)) n (cN (bQ (S : Int)) 12 : Int) a).1 (lO (fun x => (gV (bQ (S : Int)) (fun k => μ 126 (30 * k + x)) (t + 1) : Int)) n (cN (bQ (S : Int)) 12 : Int) a).2 c).1)), some (zI (a : Int)), some (zI (c : Int)), some (zI v1)]) dX9_look_48 rfl rfl ?_
      refine zA_iload dX9_look_50 rfl ?_
      refine zA_iload_n dX9_look_52 rfl ?_
      refine zA_icmp_ge (tgt := 67) dX9_look_53 rfl (fun h53 => ?_) (fun h53 => ?_)
      · refine zA_iload_n dX9_look_67 rfl ?_
        refine zA_istore_n (ls' := [some (zR 110), some (zI (S : Int)), some (zI ((lI (fun x => (gV (bQ (S : Int)) (fun k => μ 126 (30 * k + x)) (t + 1) : Int)) a (lO (fun x => (gV (bQ (S : Int)) (fun k => μ 126 (30 * k + x)) (t + 1) : Int)) n (cN (bQ (S : Int)) 12 : Int) a).1 (lO (fun x => (gV (bQ (S : Int)) (fun k => μ 126 (30 * k + x)) (t + 1) : Int)) n (cN (bQ (S : Int)) 12 : Int) a).2 c).2)), some (zI ((lI (fun x => (gV (bQ (S : Int)) (fun k => μ 126 (30 * k + x)) (t + 1) : Int)) a (lO (fun x => (gV (bQ (S : Int)) (fun k => μ 126 (30 * k + x)) (t + 1) : Int)) n (cN (bQ (S : Int)) 12 : Int) a).1 (lO (fun x => (gV (bQ (S : Int)) (fun k => μ 126 (30 * k + x)) (t + 1) : Int)) n (cN (bQ (S : Int)) 12 : Int) a).2 c).1)), some (zI (a : Int)), some (zI (c : Int)), some (zI v1)]) dX9_look_68 rfl rfl ?_
        refine zA_iload dX9_look_69 rfl ?_
        refine zA_iload_n dX9_look_71 rfl ?_
        refine zA_icmp_ge (tgt := 80) dX9_look_72 rfl (fun h72 => ?_) (fun h72 => ?_)
        · refine zA_iload_n dX9_look_80 rfl ?_
          refine zA_istore_n (ls' := [some (zR 110), some (zI (S : Int)), some (zI ((lI (fun x => (gV (bQ (S : Int)) (fun k => μ 126 (30 * k + x)) (t + 1) : Int)) a (lO (fun x => (gV (bQ (S : Int)) (fun k => μ 126 (30 * k + x)) (t + 1) : Int)) n (cN (bQ (S : Int)) 12 : Int) a).1 (lO (fun x => (gV (bQ (S : Int)) (fun k => μ 126 (30 * k + x)) (t + 1) : Int)) n (cN (bQ (S : Int)) 12 : Int) a).2 c).2)), some (zI ((lI (fun x => (gV (bQ (S : Int)) (fun k => μ 126 (30 * k + x)) (t + 1) : Int)) a (lO (fun x => (gV (bQ (S : Int)) (fun k => μ 126 (30 * k + x)) (t + 1) : Int)) n (cN (bQ (S : Int)) 12 : Int) a).1 (lO (fun x => (gV (bQ (S : Int)) (fun k => μ 126 (30 * k + x)) (t + 1) : Int)) n (cN (bQ (S : Int)) 12 : Int) a).2 c).1)), some (zI (a : Int)), some (zI (c : Int)), some (zI v1)]) dX9_look_81 rfl rfl ?_
          refine zA_iincB (ls' := [some (zR 110), some (zI (S : Int)), some (zI ((lI (fun x => (gV (bQ (S : Int)) (fun k => μ 126 (30 * k + x)) (t + 1) : Int)) a (lO (fun x => (gV (bQ (S : Int)) (fun k => μ 126 (30 * k + x)) (t + 1) : Int)) n (cN (bQ (S : Int)) 12 : Int) a).1 (lO (fun x => (gV (bQ (S : Int)) (fun k => μ 126 (30 * k + x)) (t + 1) : Int)) n (cN (bQ (S : Int)) 12 : Int) a).2 c).2)), some (zI ((lI (fun x => (gV (bQ (S : Int)) (fun k => μ 126 (30 * k + x)) (t + 1) : Int)) a (lO (fun x => (gV (bQ (S : Int)) (fun k => μ 126 (30 * k + x)) (t + 1) : Int)) n (cN (bQ (S : Int)) 12 : Int) a).1 (lO (fun x => (gV (bQ (S : Int)) (fun k => μ 126 (30 * k + x)) (t + 1) : Int)) n (cN (bQ (S : Int)) 12 : Int) a).2 c).1)), some (zI (a : Int)), some (zI ((c : Int) + 1)), some (zI v1)]) dX9_look_82 rfl rfl ⟨by omega, by omega⟩ rfl ?_
          refine zA_goto (tgt := 27) dX9_look_85 rfl ?_
          refine zA_dr (ls' := [some (zR 110), some (zI (S : Int)), some (zI ((lI (fun x => (gV (bQ (S : Int)) (fun k => μ 126 (30 * k + x)) (t + 1) : Int)) a (lO (fun x => (gV (bQ (S : Int)) (fun k => μ 126 (30 * k + x)) (t + 1) : Int)) n (cN (bQ (S : Int)) 12 : Int) a).1 (lO (fun x => (gV (bQ (S : Int)) (fun k => μ 126 (30 * k + x)) (t + 1) : Int)) n (cN (bQ (S : Int)) 12 : Int) a).2 c).2)), some (zI ((lI (fun x => (gV (bQ (S : Int)) (fun k => μ 126 (30 * k + x)) (t + 1) : Int)) a (lO (fun x => (gV (bQ (S : Int)) (fun k => μ 126 (30 * k + x)) (t + 1) : Int)) n (cN (bQ (S : Int)) 12 : Int) a).1 (lO (fun x => (gV (bQ (S : Int)) (fun k => μ 126 (30 * k + x)) (t + 1) : Int)) n (cN (bQ (S : Int)) 12 : Int) a).2 c).1)), some (zI (a : Int)), some (zI ((c : Int) + 1)), none]) 6 rfl ?_
          first
            | (exfalso; omega)
            | (refine zA_leq (ls' := [some (zR 110), some (zI (S : Int)), some (zI ((lI (fun x => (gV (bQ (S : Int)) (fun k => μ 126 (30 * k + x)) (t + 1) : Int)) a (lO (fun x => (gV (bQ (S : Int)) (fun k => μ 126 (30 * k + x)) (t + 1) : Int)) n (cN (bQ (S : Int)) 12 : Int) a).1 (lO (fun x => (gV (bQ (S : Int)) (fun k => μ 126 (30 * k + x)) (t + 1) : Int)) n (cN (bQ (S : Int)) 12 : Int) a).2 (c + 1)).2)), some (zI ((lI (fun x => (gV (bQ (S : Int)) (fun k => μ 126 (30 * k + x)) (t + 1) : Int)) a (lO (fun x => (gV (bQ (S : Int)) (fun k => μ 126 (30 * k + x)) (t + 1) : Int)) n (cN (bQ (S : Int)) 12 : Int) a).1 (lO (fun x => (gV (bQ (S : Int)) (fun k => μ 126 (30 * k + x)) (t + 1) : Int)) n (cN (bQ (S : Int)) 12 : Int) a).2 (c + 1)).1)), some (zI (a : Int)), some (zI ((c : Int) + 1)), none]) (by simp only [lI]; rw [if_neg (by rw [← eg2]; omega)]) ?_; exact ih _ (by omega) (c + 1) rfl (by omega))
        · refine zA_iload dX9_look_75 rfl ?_
          refine zA_goto (tgt := 81) dX9_look_77 rfl ?_
          refine zA_istore_n (ls' := [some (zR 110), some (zI (S : Int)), some (zI ((lI (fun x => (gV (bQ (S : Int)) (fun k => μ 126 (30 * k + x)) (t + 1) : Int)) a (lO (fun x => (gV (bQ (S : Int)) (fun k => μ 126 (30 * k + x)) (t + 1) : Int)) n (cN (bQ (S : Int)) 12 : Int) a).1 (lO (fun x => (gV (bQ (S : Int)) (fun k => μ 126 (30 * k + x)) (t + 1) : Int)) n (cN (bQ (S : Int)) 12 : Int) a).2 c).2)), some (zI v1), some (zI (a : Int)), some (zI (c : Int)), some (zI v1)]) dX9_look_81 rfl rfl ?_
          refine zA_iincB (ls' := [some (zR 110), some (zI (S : Int)), some (zI ((lI (fun x => (gV (bQ (S : Int)) (fun k => μ 126 (30 * k + x)) (t + 1) : Int)) a (lO (fun x => (gV (bQ (S : Int)) (fun k => μ 126 (30 * k + x)) (t + 1) : Int)) n (cN (bQ (S : Int)) 12 : Int) a).1 (lO (fun x => (gV (bQ (S : Int)) (fun k => μ 126 (30 * k + x)) (t + 1) : Int)) n (cN (bQ (S : Int)) 12 : Int) a).2 c).2)), some (zI v1), some (zI (a : Int)), some (zI ((c : Int) + 1)), some (zI v1)]) dX9_look_82 rfl rfl ⟨by omega, by omega⟩ rfl ?_
          refine zA_goto (tgt := 27) dX9_look_85 rfl ?_
          refine zA_dr (ls' := [some (zR 110), some (zI (S : Int)), some (zI ((lI (fun x => (gV (bQ (S : Int)) (fun k => μ 126 (30 * k + x)) (t + 1) : Int)) a (lO (fun x => (gV (bQ (S : Int)) (fun k => μ 126 (30 * k + x)) (t + 1) : Int)) n (cN (bQ (S : Int)) 12 : Int) a).1 (lO (fun x => (gV (bQ (S : Int)) (fun k => μ 126 (30 * k + x)) (t + 1) : Int)) n (cN (bQ (S : Int)) 12 : Int) a).2 c).2)), some (zI v1), some (zI (a : Int)), some (zI ((c : Int) + 1)), none]) 6 rfl ?_
          first
            | (exfalso; omega)
            | (refine zA_leq (ls' := [some (zR 110), some (zI (S : Int)), some (zI ((lI (fun x => (gV (bQ (S : Int)) (fun k => μ 126 (30 * k + x)) (t + 1) : Int)) a (lO (fun x => (gV (bQ (S : Int)) (fun k => μ 126 (30 * k + x)) (t + 1) : Int)) n (cN (bQ (S : Int)) 12 : Int) a).1 (lO (fun x => (gV (bQ (S : Int)) (fun k => μ 126 (30 * k + x)) (t + 1) : Int)) n (cN (bQ (S : Int)) 12 : Int) a).2 (c + 1)).2)), some (zI ((lI (fun x => (gV (bQ (S : Int)) (fun k => μ 126 (30 * k + x)) (t + 1) : Int)) a (lO (fun x => (gV (bQ (S : Int)) (fun k => μ 126 (30 * k + x)) (t + 1) : Int)) n (cN (bQ (S : Int)) 12 : Int) a).1 (lO (fun x => (gV (bQ (S : Int)) (fun k => μ 126 (30 * k + x)) (t + 1) : Int)) n (cN (bQ (S : Int)) 12 : Int) a).2 (c + 1)).1)), some (zI (a : Int)), some (zI ((c : Int) + 1)), none]) (by simp only [lI]; rw [if_pos (by rw [← eg2]; omega), ← eg2]) ?_; exact ih _ (by omega) (c + 1) rfl (by omega))
      · refine zA_bipush dX9_look_56 rfl ?_
        refine zA_iload dX9_look_58 rfl ?_
        refine zA_imulB dX9_look_60 ⟨by omega, by omega⟩ ?_
        refine zA_iload dX9_look_61 rfl ?_
        refine zA_iaddB dX9_look_63 ⟨by omega, by omega⟩ ?_
        refine zA_goto (tgt := 68) dX9_look_64 rfl ?_
        refine zA_istore_n (ls' := [some (zR 110), some (zI (S : Int)), some (zI ((10 * (a : Int)) + (c : Int))), some (zI ((lI (fun x => (gV (bQ (S : Int)) (fun k => μ 126 (30 * k + x)) (t + 1) : Int)) a (lO (fun x => (gV (bQ (S : Int)) (fun k => μ 126 (30 * k + x)) (t + 1) : Int)) n (cN (bQ (S : Int)) 12 : Int) a).1 (lO (fun x => (gV (bQ (S : Int)) (fun k => μ 126 (30 * k + x)) (t + 1) : Int)) n (cN (bQ (S : Int)) 12 : Int) a).2 c).1)), some (zI (a : Int)), some (zI (c : Int)), some (zI v1)]) dX9_look_68 rfl rfl ?_
        refine zA_iload dX9_look_69 rfl ?_
        refine zA_iload_n dX9_look_71 rfl ?_
        refine zA_icmp_ge (tgt := 80) dX9_look_72 rfl (fun h72 => ?_) (fun h72 => ?_)
        · refine zA_iload_n dX9_look_80 rfl ?_
          refine zA_istore_n (ls' := [some (zR 110), some (zI (S : Int)), some (zI ((10 * (a : Int)) + (c : Int))), some (zI ((lI (fun x => (gV (bQ (S : Int)) (fun k => μ 126 (30 * k + x)) (t + 1) : Int)) a (lO (fun x => (gV (bQ (S : Int)) (fun k => μ 126 (30 * k + x)) (t + 1) : Int)) n (cN (bQ (S : Int)) 12 : Int) a).1 (lO (fun x => (gV (bQ (S : Int)) (fun k => μ 126 (30 * k + x)) (t + 1) : Int)) n (cN (bQ (S : Int)) 12 : Int) a).2 c).1)), some (zI (a : Int)), some (zI (c : Int)), some (zI v1)]) dX9_look_81 rfl rfl ?_
          refine zA_iincB (ls' := [some (zR 110), some (zI (S : Int)), some (zI ((10 * (a : Int)) + (c : Int))), some (zI ((lI (fun x => (gV (bQ (S : Int)) (fun k => μ 126 (30 * k + x)) (t + 1) : Int)) a (lO (fun x => (gV (bQ (S : Int)) (fun k => μ 126 (30 * k + x)) (t + 1) : Int)) n (cN (bQ (S : Int)) 12 : Int) a).1 (lO (fun x => (gV (bQ (S : Int)) (fun k => μ 126 (30 * k + x)) (t + 1) : Int)) n (cN (bQ (S : Int)) 12 : Int) a).2 c).1)), some (zI (a : Int)), some (zI ((c : Int) + 1)), some (zI v1)]) dX9_look_82 rfl rfl ⟨by omega, by omega⟩ rfl ?_
          refine zA_goto (tgt := 27) dX9_look_85 rfl ?_
          refine zA_dr (ls' := [some (zR 110), some (zI (S : Int)), some (zI ((10 * (a : Int)) + (c : Int))), some (zI ((lI (fun x => (gV (bQ (S : Int)) (fun k => μ 126 (30 * k + x)) (t + 1) : Int)) a (lO (fun x => (gV (bQ (S : Int)) (fun k => μ 126 (30 * k + x)) (t + 1) : Int)) n (cN (bQ (S : Int)) 12 : Int) a).1 (lO (fun x => (gV (bQ (S : Int)) (fun k => μ 126 (30 * k + x)) (t + 1) : Int)) n (cN (bQ (S : Int)) 12 : Int) a).2 c).1)), some (zI (a : Int)), some (zI ((c : Int) + 1)), none]) 6 rfl ?_
          first
            | (exfalso; omega)
            | (refine zA_leq (ls' := [some (zR 110), some (zI (S : Int)), some (zI ((lI (fun x => (gV (bQ (S : Int)) (fun k => μ 126 (30 * k + x)) (t + 1) : Int)) a (lO (fun x => (gV (bQ (S : Int)) (fun k => μ 126 (30 * k + x)) (t + 1) : Int)) n (cN (bQ (S : Int)) 12 : Int) a).1 (lO (fun x => (gV (bQ (S : Int)) (fun k => μ 126 (30 * k + x)) (t + 1) : Int)) n (cN (bQ (S : Int)) 12 : Int) a).2 (c + 1)).2)), some (zI ((lI (fun x => (gV (bQ (S : Int)) (fun k => μ 126 (30 * k + x)) (t + 1) : Int)) a (lO (fun x => (gV (bQ (S : Int)) (fun k => μ 126 (30 * k + x)) (t + 1) : Int)) n (cN (bQ (S : Int)) 12 : Int) a).1 (lO (fun x => (gV (bQ (S : Int)) (fun k => μ 126 (30 * k + x)) (t + 1) : Int)) n (cN (bQ (S : Int)) 12 : Int) a).2 (c + 1)).1)), some (zI (a : Int)), some (zI ((c : Int) + 1)), none]) (by simp only [lI]; rw [if_neg (by rw [← eg2]; omega)]) ?_; exact ih _ (by omega) (c + 1) rfl (by omega))
        · refine zA_iload dX9_look_75 rfl ?_
          refine zA_goto (tgt := 81) dX9_look_77 rfl ?_
          refine zA_istore_n (ls' := [some (zR 110), some (zI (S : Int)), some (zI ((10 * (a : Int)) + (c : Int))), some (zI v1), some (zI (a : Int)), some (zI (c : Int)), some (zI v1)]) dX9_look_81 rfl rfl ?_
          refine zA_iincB (ls' := [some (zR 110), some (zI (S : Int)), some (zI ((10 * (a : Int)) + (c : Int))), some (zI v1), some (zI (a : Int)), some (zI ((c : Int) + 1)), some (zI v1)]) dX9_look_82 rfl rfl ⟨by omega, by omega⟩ rfl ?_
          refine zA_goto (tgt := 27) dX9_look_85 rfl ?_
          refine zA_dr (ls' := [some (zR 110), some (zI (S : Int)), some (zI ((10 * (a : Int)) + (c : Int))), some (zI v1), some (zI (a : Int)), some (zI ((c : Int) + 1)), none]) 6 rfl ?_
          first
            | (exfalso; omega)
            | (refine zA_leq (ls' := [some (zR 110), some (zI (S : Int)), some (zI ((lI (fun x => (gV (bQ (S : Int)) (fun k => μ 126 (30 * k + x)) (t + 1) : Int)) a (lO (fun x => (gV (bQ (S : Int)) (fun k => μ 126 (30 * k + x)) (t + 1) : Int)) n (cN (bQ (S : Int)) 12 : Int) a).1 (lO (fun x => (gV (bQ (S : Int)) (fun k => μ 126 (30 * k + x)) (t + 1) : Int)) n (cN (bQ (S : Int)) 12 : Int) a).2 (c + 1)).2)), some (zI ((lI (fun x => (gV (bQ (S : Int)) (fun k => μ 126 (30 * k + x)) (t + 1) : Int)) a (lO (fun x => (gV (bQ (S : Int)) (fun k => μ 126 (30 * k + x)) (t + 1) : Int)) n (cN (bQ (S : Int)) 12 : Int) a).1 (lO (fun x => (gV (bQ (S : Int)) (fun k => μ 126 (30 * k + x)) (t + 1) : Int)) n (cN (bQ (S : Int)) 12 : Int) a).2 (c + 1)).1)), some (zI (a : Int)), some (zI ((c : Int) + 1)), none]) (by simp only [lI]; rw [if_pos (by rw [← eg2]; omega), ← eg2]) ?_; exact ih _ (by omega) (c + 1) rfl (by omega))
theorem l_X9_look (d : Nat) (μ : zM) (n m t S : Nat) (hn : μ 110 0 = n) (hm : μ 110 2 = m) (ht : μ 110 5 = t) (hn5 : n ≤ 5) (hm6 : m ≤ 6) (ht10 : t ≤ 10) : ∀ (t0 a : Nat), m - a = t0 → a ≤ m → zA RX9 cX9_look 7 (zRm (d + 3) 0) zN0 TF 0 μ 15 [some (zR 110), some (zI (S : Int)), some (zI ((lO (fun x => (gV (bQ (S : Int)) (fun k => μ 126 (30 * k + x)) (t + 1) : Int)) n (cN (bQ (S : Int)) 12 : Int) a).2)), some (zI ((lO (fun x => (gV (bQ (S : Int)) (fun k => μ 126 (30 * k + x)) (t + 1) : Int)) n (cN (bQ (S : Int)) 12 : Int) a).1)), some (zI (a : Int)), none, none] [] (zPi (fun v ξ => v = (lO (fun x => (gV (bQ (S : Int)) (fun k => μ 126 (30 * k + x)) (t + 1) : Int)) n (cN (bQ (S : Int)) 12 : Int) m).2 ∧ μ = ξ)) := by
  intro t0
  induction t0 using Nat.strongRecOn with
  | ind t0 ih =>
    intro a hk ham
    refine zA_iload dX9_look_15 rfl ?_
    refine zA_aload_n dX9_look_17 rfl ?_
    refine zA_getE (w := (m : Int)) fX9_78 t_110 dX9_look_18 hm ?_
    refine zA_icmp_ge (tgt := 94) dX9_look_21 rfl (fun h21 => ?_) (fun h21 => ?_)
    · refine zA_iload_n dX9_look_94 rfl ?_
      exact zA_ri dX9_look_95 ⟨by rw [show m = a by omega], rfl⟩
    · refine zA_iconst dX9_look_24 rfl ?_
      refine zA_istore (ls' := [some (zR 110), some (zI (S : Int)), some (zI ((lO (fun x => (gV (bQ (S : Int)) (fun k => μ 126 (30 * k + x)) (t + 1) : Int)) n (cN (bQ (S : Int)) 12 : Int) a).2)), some (zI ((lO (fun x => (gV (bQ (S : Int)) (fun k => μ 126 (30 * k + x)) (t + 1) : Int)) n (cN (bQ (S : Int)) 12 : Int) a).1)), some (zI (a : Int)), some (zI 0), none]) dX9_look_25 rfl rfl ?_
      refine l_X9_lookI d μ n m t S hn hm ht hn5 hm6 ht10 a (by omega) _ ?_ _ 0 rfl (by omega)
      refine zA_iincB (ls' := [some (zR 110), some (zI (S : Int)), some (zI ((lI (fun x => (gV (bQ (S : Int)) (fun k => μ 126 (30 * k + x)) (t + 1) : Int)) a (lO (fun x => (gV (bQ (S : Int)) (fun k => μ 126 (30 * k + x)) (t + 1) : Int)) n (cN (bQ (S : Int)) 12 : Int) a).1 (lO (fun x => (gV (bQ (S : Int)) (fun k => μ 126 (30 * k + x)) (t + 1) : Int)) n (cN (bQ (S : Int)) 12 : Int) a).2 n).2)), some (zI ((lI (fun x => (gV (bQ (S : Int)) (fun k => μ 126 (30 * k + x)) (t + 1) : Int)) a (lO (fun x => (gV (bQ (S : Int)) (fun k => μ 126 (30 * k + x)) (t + 1) : Int)) n (cN (bQ (S : Int)) 12 : Int) a).1 (lO (fun x => (gV (bQ (S : Int)) (fun k => μ 126 (30 * k + x)) (t + 1) : Int)) n (cN (bQ (S : Int)) 12 : Int) a).2 n).1)), some (zI ((a : Int) + 1)), none, none]) dX9_look_88 rfl rfl ⟨by omega, by omega⟩ rfl ?_
      refine zA_goto (tgt := 15) dX9_look_91 rfl ?_
      exact ih _ (by omega) (a + 1) rfl (by omega)
theorem c_X9_look (d : Nat) (μ : zM) (n m t s : Nat) (u : Int) (hH : zMs μ n m t u) (hok : rOk n m (μ 114)) (hs8 : s ≤ 8) (hs3 : μ 110 33 = s) (hs5 : ∀ k, k < s → 0 ≤ μ 124 k ∧ μ 124 k < 30) : zMet (d + 6) 0 yX9_look cX9_look 7 (some .int) TF μ [zR 110] (zPi (fun v ξ => v = (lO (fun x => (gV (bQ ((sB (fun j => fitB (dRow u n (μ 114 30) (μ 112) (μ 113) (gW t j) (μ 114) t) (μ 124) (μ 125) s) (t + 1)) : Int)) (fun k => (dRow u n (μ 114 30) (μ 112) (μ 113) (gW t k) (μ 114) t) x) (t + 1) : Int)) n (cN (bQ ((sB (fun j => fitB (dRow u n (μ 114 30) (μ 112) (μ 113) (gW t j) (μ 114) t) (μ 124) (μ 125) s) (t + 1)) : Int)) 12 : Int) m).2 ∧ qM μ ξ)) := by
  have hH0 := hH
  obtain ⟨hn, hu, hm, ht, hn5, hm6, ht10, hu1, hdk⟩ := hH0
  refine zMi_of RX9 rfl (by decide) rfl (ls := [some (zR 110), none, none, none, none, none, none]) rfl (fun hok0 => ?_)
  refine zA_aload_n dX9_look_0 rfl ?_
  refine zA_cVi (st := []) kX9_266 t_110 rfl rfl (c_X9_findGap d μ n m t s u hH hok hs8 hs3 hs5) rfl rfl rfl dX9_look_1 (zfit0 (by omega) rfl) (fun v1 μ1 q1 => ?_)
  obtain ⟨rfl, e2, e3⟩ := q1
  refine zA_istore_n (ls' := [some (zR 110), some (zI (((sB (fun j => fitB (dRow u n (μ 114 30) (μ 112) (μ 113) (gW t j) (μ 114) t) (μ 124) (μ 125) s) (t + 1)) : Int))), none, none, none, none, none]) dX9_look_4 rfl rfl ?_
  refine zA_iconst dX9_look_5 rfl ?_
  refine zA_istore_n (ls' := [some (zR 110), some (zI (((sB (fun j => fitB (dRow u n (μ 114 30) (μ 112) (μ 113) (gW t j) (μ 114) t) (μ 124) (μ 125) s) (t + 1)) : Int))), some (zI (-1)), none, none, none, none]) dX9_look_6 rfl rfl ?_
  refine zA_iload_n dX9_look_7 rfl ?_
  refine zA_cSi (st := []) kX9_256 (c_X9_bits (d + 4) ((sB (fun j => fitB (dRow u n (μ 114 30) (μ 112) (μ 113) (gW t j) (μ 114) t) (μ 124) (μ 125) s) (t + 1)) : Int) μ1) rfl rfl rfl dX9_look_8 (zfit0 (by omega) rfl) (fun v2 μ2 q2 => ?_)
  obtain ⟨rfl, rfl⟩ := q2
  refine zA_istore_n (ls' := [some (zR 110), some (zI (((sB (fun j => fitB (dRow u n (μ 114 30) (μ 112) (μ 113) (gW t j) (μ 114) t) (μ 124) (μ 125) s) (t + 1)) : Int))), some (zI (-1)), some (zI ((cN (bQ ((sB (fun j => fitB (dRow u n (μ 114 30) (μ 112) (μ 113) (gW t j) (μ 114) t) (μ 124) (μ 125) s) (t + 1)) : Int)) 12 : Int))), none, none, none]) dX9_look_11 rfl rfl ?_
  refine zA_iconst dX9_look_12 rfl ?_
  refine zA_istore (ls' := [some (zR 110), some (zI (((sB (fun j => fitB (dRow u n (μ 114 30) (μ 112) (μ 113) (gW t j) (μ 114) t) (μ 124) (μ 125) s) (t + 1)) : Int))), some (zI (-1)), some (zI ((cN (bQ ((sB (fun j => fitB (dRow u n (μ 114 30) (μ 112) (μ 113) (gW t j) (μ 114) t) (μ 124) (μ 125) s) (t + 1)) : Int)) 12 : Int))), some (zI 0), none, none]) dX9_look_13 rfl rfl ?_
  refine zAi_mono (l_X9_look (d + 3) μ1 n m t (sB (fun j => fitB (dRow u n (μ 114 30) (μ 112) (μ 113) (gW t j) (μ 114) t) (μ 124) (μ 125) s) (t + 1)) (by rw [e3 110 (by decide) (by decide) (by decide)]; exact hn) (by rw [e3 110 (by decide) (by decide) (by decide)]; exact hm) (by rw [e3 110 (by decide) (by decide) (by decide)]; exact ht) hn5 hm6 ht10 _ 0 rfl (by omega)) (fun v ξ h => ?_)
  obtain ⟨e4, rfl⟩ := h
  refine ⟨?_, qM_gap e3⟩
  rw [e4]
  congr 1
  refine lO_congr (fun a c ha hc => ?_)
  show (gV _ _ (t + 1) : Int) = (gV _ _ (t + 1) : Int)
  congr 1
  exact gV_congr (fun k hk hq => e2 k hk _ (by omega))
theorem pr_look (μ : zM)  (n m t : Nat) (u : Int) (hI : zInv μ n m t u) : zPair yX8_look cX8_look 1 yX9_look cX9_look 7 [] μ := by
  have hI0 := hI
  obtain ⟨hh, hst, ht, hmm, ⟨s, s1, s2, s3, s4, s5, s6⟩, h2, h3, h4⟩ := hI
  obtain ⟨hn, hu, hm, ht0, hn5, hm6, ht10, hu1, hdk⟩ := hh.1
  refine zPair_q hI0 (lO (fun x => (gV (bQ ((sB (fun j => fitB (dRow u n (μ 114 30) (μ 112) (μ 113) (gW t j) (μ 114) t) (μ 124) (μ 125) s) (t + 1)) : Int)) (fun k => (dRow u n (μ 114 30) (μ 112) (μ 113) (gW t k) (μ 114) t) x) (t + 1) : Int)) n (cN (bQ ((sB (fun j => fitB (dRow u n (μ 114 30) (μ 112) (μ 113) (gW t j) (μ 114) t) (μ 124) (μ 125) s) (t + 1)) : Int)) 12 : Int) m).2 (zMi_mono (c_X8_look 13 μ n m t s u hh.1 hst.2.1 s1 s2 (fun k hk => (s5 k hk).2.2)) ?_) (fun ν hq hν => zMi_mono (c_X9_look 14 ν n m t s u hν.1.2.1 hν.mrow s1 (by rw [hq 110 (by unfold cScr; omega)]; exact s3) (fun k hk => by rw [hq 124 (by unfold cScr; omega), ← (s5 k hk).1]; exact (s5 k hk).2.2)) ?_)
  · rintro v ν ⟨e1, e3⟩
    refine ⟨?_, e3⟩
    rw [e1, gap_fit hI0 s5 s6]
    congr 1
    refine lO_congr (fun a c ha hc => ?_)
    show (gV _ _ 11 : Int) = (gV _ _ (t + 1) : Int)
    congr 1
    have hsk := gV_skip (q := bQ ((sB (fun j => fitB (dRow u n (μ 114 30) (μ 112) (μ 113) (gW t j) (μ 114) t) (μ 124) (μ 125) s) (t + 1)) : Int)) (e := fun k => (dRow u n (μ 114 30) (μ 112) (μ 113) (gW t k) (μ 114) t) (a * 5 + c)) (p := t + 1) (10 - t) (fun i h1 h2 => bQ_hi (sB_lt (t + 1)) h1 (by omega))
    rw [show t + 1 + (10 - t) = 11 by omega] at hsk
    rw [← hsk]
    refine gV_congr (fun k hk hq => ?_)
    have hk1 : k < t + 1 := Decidable.byContradiction (fun h => by rw [bQ_hi (sB_lt (t + 1)) (by omega) (by omega)] at hq; cases hq)
    exact gap_row hI0 (by omega) _ (by omega)
  · rintro v ξ ⟨e1, e3⟩
    refine ⟨?_, e3⟩
    rw [e1, hq 114 (by unfold cScr; omega), hq 112 (by unfold cScr; omega), hq 113 (by unfold cScr; omega), hq 124 (by unfold cScr; omega), hq 125 (by unfold cScr; omega)]
