/-! ===== leftOut ===== -/
theorem zPair_r {y : MethodName} {cy : ByteArray} {ny : Nat} {y' : MethodName} {cy' : ByteArray} {ny' : Nat} {as : List zV} {μ : zM} {n m t : Nat} {u : Int} (hI : zInv μ n m t u) (C M : Int → Prop) (hCM : ∀ v w, C v → M w → v = w) (hc : zMet 20 0 y cy ny (some .int) TF μ (zR 0 :: as) (zPi (fun v ν => C v ∧ qC μ ν))) (hm : ∀ ν, qC μ ν → zInv ν n m t u → zMet 20 0 y' cy' ny' (some .int) TF ν (zR 110 :: as) (zPi (fun w ξ => M w ∧ qM ν ξ))) : zPair y cy ny y' cy' ny' as μ :=
  zMi_mono hc (fun v ν hv => zMi_mono (hm ν hv.2 (hI.qC hv.2)) (fun w ξ hw => ⟨hCM v w hv.1 hw.1, n, m, t, u, (hI.qC hv.2).qM hw.2⟩))
def pop (S : Nat) : Nat := cN (bQ (S : Int)) 12
def bt (S B : Nat) : Prop := pop S < pop B ∨ (pop S = pop B ∧ S < B)
def nW (o : Option Nat) (S : Nat) : Prop := ∃ B, o = some B ∧ ¬ bt S B
def uB (F D : Nat → Prop) (o o' : Option Nat) : Prop := (o' = o ∨ ∃ B, o' = some B ∧ D B ∧ F B) ∧ (∀ B, o = some B → nW o' B) ∧ ∀ S, D S → F S → nW o' S
def fE : Option Nat → Int
  | none => -1
  | some B => (pop B : Int)
def fL : Option Nat → Int
  | none => -1
  | some B => (B : Int)
theorem bt_tr {S B C : Nat} (h : ¬ bt S B) (h2 : ¬ bt B C) : ¬ bt S C := by unfold bt at *; omega
theorem bt_ir (S : Nat) : ¬ bt S S := by unfold bt; omega
theorem bt_as {S B : Nat} (h : bt S B) : ¬ bt B S := by unfold bt at *; omega
theorem nW_tr {o o' : Option Nat} {S : Nat} (h : nW o S) (h2 : ∀ B, o = some B → nW o' B) : nW o' S := by
  obtain ⟨B, hB, hS⟩ := h
  obtain ⟨C, hC, hBC⟩ := h2 B hB
  exact ⟨C, hC, bt_tr hS hBC⟩
theorem uB_tr {F D1 D2 D : Nat → Prop} {o o1 o2 : Option Nat} (h1 : uB F D1 o o1) (h2 : uB F D2 o1 o2) (hD : ∀ S, D S → D1 S ∨ D2 S) (hD1 : ∀ S, D1 S → D S) (hD2 : ∀ S, D2 S → D S) : uB F D o o2 := by
  refine ⟨?_, fun B hB => nW_tr (h1.2.1 B hB) h2.2.1, fun S hS hF => ?_⟩
  · rcases h2.1 with e | ⟨B, e, d, f⟩
    · rcases h1.1 with e1 | ⟨B, e1, d, f⟩
      · exact Or.inl (e.trans e1)
      · exact Or.inr ⟨B, e.trans e1, hD1 B d, f⟩
    · exact Or.inr ⟨B, e, hD2 B d, f⟩
  · rcases hD S hS with d | d
    · exact nW_tr (h1.2.2 S d hF) h2.2.1
    · exact h2.2.2 S d hF
theorem uB_no {F D : Nat → Prop} {o : Option Nat} (h : ∀ S, D S → F S → nW o S) : uB F D o o := ⟨Or.inl rfl, fun B hB => ⟨B, hB, bt_ir B⟩, h⟩
theorem uB_take {F : Nat → Prop} {o : Option Nat} {S : Nat} (hF : F S) (h : ∀ B, o = some B → bt S B) : uB F (fun x => x = S) o (some S) := by
  refine ⟨Or.inr ⟨S, rfl, rfl, hF⟩, fun B hB => ⟨S, rfl, bt_as (h B hB)⟩, fun x hx _ => ⟨S, rfl, by rw [hx]; exact bt_ir S⟩⟩
theorem uB_uni {F D : Nat → Prop} {o o' : Option Nat} (h : uB F D none o) (h' : uB F D none o') : o = o' := by
  rcases h.1 with e | ⟨B, e, d, f⟩
  · rcases h'.1 with e' | ⟨B', e', d', f'⟩
    · rw [e, e']
    · obtain ⟨C, hC, _⟩ := h.2.2 B' d' f'
      rw [e] at hC; cases hC
  · obtain ⟨C, hC, hbt⟩ := h'.2.2 B d f
    rcases h'.1 with e' | ⟨B', e', d', f'⟩
    · rw [e'] at hC; cases hC
    · obtain ⟨C2, hC2, hbt2⟩ := h.2.2 B' d' f'
      rw [e] at hC2; cases hC2
      rw [e'] at hC; cases hC
      rw [e, e']
      unfold bt at *
      congr 1
      omega
theorem uB_F {F F' D : Nat → Prop} {o o' : Option Nat} (hF : ∀ S, D S → (F S ↔ F' S)) (h : uB F D o o') : uB F' D o o' := by
  refine ⟨?_, h.2.1, fun S hS hf => h.2.2 S hS ((hF S hS).mpr hf)⟩
  rcases h.1 with e | ⟨B, e, d, f⟩
  · exact Or.inl e
  · exact Or.inr ⟨B, e, d, (hF B d).mp f⟩
theorem uB_D {F D D' : Nat → Prop} {o o' : Option Nat} (hD : ∀ S, D S ↔ D' S) (h : uB F D o o') : uB F D' o o' := by
  rw [show D = D' from funext (fun S => propext (hD S))] at h
  exact h
theorem cN_mono {q q' : Nat → Bool} : ∀ {p : Nat}, (∀ i, i < p → q i = true → q' i = true) → cN q p ≤ cN q' p
  | 0, _ => Nat.le_refl _
  | p + 1, h => by
    have ih := cN_mono (q := q) (q' := q') (p := p) (fun i hi => h i (by omega))
    have := h p (by omega)
    simp only [cN]
    cases h1 : q p with
    | false => simp only [Bool.false_eq_true, if_false]; split <;> omega
    | true => rw [this h1]; simp only [if_true]; omega
/-- the sets that go on from the first k touches as set does -/
def uE (t k set S : Nat) : Prop := S < 2 ^ t ∧ ∀ i, i < k → S.testBit i = set.testBit i
theorem uE_ge {t k set S : Nat} (h : uE t k set S) (hs : set < 2 ^ k) (ht : t ≤ 10) (hk : k ≤ t) : set ≤ S ∧ pop set ≤ pop S := by
  have hp : 2 ^ t ≤ 2 ^ 10 := Nat.pow_le_pow_right (by decide) ht
  have hp2 : 2 ^ k ≤ 2 ^ t := Nat.pow_le_pow_right (by decide) hk
  have e : set = S % 2 ^ k := by
    refine Nat.eq_of_testBit_eq (fun i => ?_)
    rw [Nat.testBit_mod_two_pow]
    by_cases hi : i < k
    · rw [decide_eq_true hi, h.2 i hi]; rfl
    · rw [decide_eq_false hi, Nat.testBit_lt_two_pow (Nat.lt_of_lt_of_le hs (Nat.pow_le_pow_right (by decide) (by omega)))]; rfl
  refine ⟨by rw [e]; exact Nat.mod_le _ _, cN_mono (fun i hi hb => ?_)⟩
  rw [bQ_test (by have := h.1; omega) (by omega)]
  rw [bQ_test (by omega) (by omega)] at hb
  by_cases hik : i < k
  · rw [h.2 i hik]; exact hb
  · rw [Nat.testBit_lt_two_pow (Nat.lt_of_lt_of_le hs (Nat.pow_le_pow_right (by decide) (by omega)))] at hb
    cases hb
theorem uE_end {t set S : Nat} (hs : set < 2 ^ t) : uE t t set S ↔ S = set := by
  refine ⟨fun h => Nat.eq_of_testBit_eq (fun i => ?_), fun h => ⟨by rw [h]; exact hs, fun i _ => by rw [h]⟩⟩
  by_cases hi : i < t
  · exact h.2 i hi
  · rw [Nat.testBit_lt_two_pow (Nat.lt_of_lt_of_le hs (Nat.pow_le_pow_right (by decide) (by omega))), Nat.testBit_lt_two_pow (Nat.lt_of_lt_of_le h.1 (Nat.pow_le_pow_right (by decide) (by omega)))]
theorem or_test {k set i : Nat} : (set ||| 2 ^ k).testBit i = (set.testBit i || decide (k = i)) := by
  rw [Nat.testBit_or, Nat.testBit_two_pow]
theorem uE_split {t k set S : Nat} (hs : set < 2 ^ k) : uE t k set S ↔ uE t (k + 1) set S ∨ uE t (k + 1) (set ||| 2 ^ k) S := by
  have hk : set.testBit k = false := Nat.testBit_lt_two_pow hs
  constructor
  · intro h
    cases hb : S.testBit k with
    | false =>
      refine Or.inl ⟨h.1, fun i hi => ?_⟩
      by_cases e : i = k
      · rw [e, hb, hk]
      · exact h.2 i (by omega)
    | true =>
      refine Or.inr ⟨h.1, fun i hi => ?_⟩
      rw [or_test]
      by_cases e : i = k
      · rw [e, hb, decide_eq_true rfl, Bool.or_true]
      · rw [decide_eq_false (fun q => e q.symm), Bool.or_false]; exact h.2 i (by omega)
  · rintro (h | h)
    · exact ⟨h.1, fun i hi => h.2 i (by omega)⟩
    · refine ⟨h.1, fun i hi => ?_⟩
      rw [h.2 i (by omega), or_test, decide_eq_false (by omega), Bool.or_false]
def lE (μ : zM) (o : Option Nat) : Prop := μ 25 1 = fE o ∧ μ 25 2 = fL o
def lF (u : Int) (n : Nat) (g : Int) (f s : Nat → Int) (R : Nat → Int) (t x : Nat) (v : Int) (S : Nat) : Prop := dRow u n g f s (S : Int) R t x ≤ v
theorem c_X9_pop (d S : Nat) (μ : zM) : zMet (d + 1) 0 yX9_bits cX9_bits 3 (some .int) TF μ [zI (S : Int)] (zPi (fun v ν => v = (pop S : Int) ∧ μ = ν)) := c_X9_bits d (S : Int) μ
theorem c_X4_isBetter (d set : Nat) (o : Option Nat) (μ : zM) (hS : set < 2048) (hE : lE μ o) : zMet (d + 2) 0 yX4_isBetter cX4_isBetter 3 (some .boolean) TF μ [zR 25, zI (set : Int)] (zPb (fun r ν => (r = true ↔ ∀ B, o = some B → bt set B) ∧ μ = ν)) := by
  obtain ⟨h1, h2⟩ := hE
  refine zMb_of RX4 rfl (by decide) rfl (ls := [some (zR 25), some (zI (set : Int)), none]) rfl (fun hok0 => ?_)
  cases o with
  | none =>
      refine zA_iload_n dX4_isBetter_0 rfl ?_
      refine zA_cSi (st := []) kX4_64 (c_bitCount d set μ hS) rfl rfl rfl dX4_isBetter_1 (zfit0 (by omega) rfl) (fun v1 μ1 q1 => ?_)
      obtain ⟨rfl, rfl⟩ := q1
      refine zA_istore_n (ls' := [some (zR 25), some (zI (set : Int)), some (zI ((pop set : Int)))]) dX4_isBetter_4 rfl rfl ?_
      refine zA_aload_n dX4_isBetter_5 rfl ?_
      refine zA_getE (w := fE none) fX4_37 t_25 dX4_isBetter_6 h1 ?_
      refine zA_iconst dX4_isBetter_9 rfl ?_
      refine zA_icmp_eq (tgt := 37) dX4_isBetter_10 rfl (fun h10 => ?_) (fun h10 => False.elim (h10 rfl))
      refine zA_iconst dX4_isBetter_37 rfl ?_
      refine zA_goto (tgt := 42) dX4_isBetter_38 rfl ?_
      exact zA_rb (b := true) dX4_isBetter_42 rfl ⟨⟨fun _ B hB => (by cases hB), fun _ => rfl⟩, rfl⟩
  | some B =>
      refine zA_iload_n dX4_isBetter_0 rfl ?_
      refine zA_cSi (st := []) kX4_64 (c_bitCount d set μ hS) rfl rfl rfl dX4_isBetter_1 (zfit0 (by omega) rfl) (fun v1 μ1 q1 => ?_)
      obtain ⟨rfl, rfl⟩ := q1
      refine zA_istore_n (ls' := [some (zR 25), some (zI (set : Int)), some (zI ((pop set : Int)))]) dX4_isBetter_4 rfl rfl ?_
      refine zA_aload_n dX4_isBetter_5 rfl ?_
      refine zA_getE (w := fE (some B)) fX4_37 t_25 dX4_isBetter_6 h1 ?_
      refine zA_iconst dX4_isBetter_9 rfl ?_
      refine zA_icmp_eq (tgt := 37) dX4_isBetter_10 rfl (fun h10 => ?_) (fun h10 => ?_)
      · refine zA_iconst dX4_isBetter_37 rfl ?_
        refine zA_goto (tgt := 42) dX4_isBetter_38 rfl ?_
        exact zA_rb (b := true) dX4_isBetter_42 rfl ⟨⟨fun _ C hC => (by cases hC; unfold bt; simp only [fE, fL] at *; omega), fun _ => rfl⟩, rfl⟩
      · refine zA_iload_n dX4_isBetter_13 rfl ?_
        refine zA_aload_n dX4_isBetter_14 rfl ?_
        refine zA_getE (w := fE (some B)) fX4_37 t_25 dX4_isBetter_15 h1 ?_
        refine zA_icmp_lt (tgt := 37) dX4_isBetter_18 rfl (fun h18 => ?_) (fun h18 => ?_)
        · refine zA_iconst dX4_isBetter_37 rfl ?_
          refine zA_goto (tgt := 42) dX4_isBetter_38 rfl ?_
          exact zA_rb (b := true) dX4_isBetter_42 rfl ⟨⟨fun _ C hC => (by cases hC; unfold bt; simp only [fE, fL] at *; omega), fun _ => rfl⟩, rfl⟩
        · refine zA_iload_n dX4_isBetter_21 rfl ?_
          refine zA_aload_n dX4_isBetter_22 rfl ?_
          refine zA_getE (w := fE (some B)) fX4_37 t_25 dX4_isBetter_23 h1 ?_
          refine zA_icmp_ne (tgt := 41) dX4_isBetter_26 rfl (fun h26 => ?_) (fun h26 => ?_)
          · refine zA_iconst dX4_isBetter_41 rfl ?_
            exact zA_rb (b := false) dX4_isBetter_42 rfl ⟨⟨fun q => (by cases q), fun q => False.elim (by have := q B rfl; unfold bt at this; simp only [fE, fL] at *; omega)⟩, rfl⟩
          · refine zA_iload_n dX4_isBetter_29 rfl ?_
            refine zA_aload_n dX4_isBetter_30 rfl ?_
            refine zA_getE (w := fL (some B)) fX4_40 t_25 dX4_isBetter_31 h2 ?_
            refine zA_icmp_ge (tgt := 41) dX4_isBetter_34 rfl (fun h34 => ?_) (fun h34 => ?_)
            · refine zA_iconst dX4_isBetter_41 rfl ?_
              exact zA_rb (b := false) dX4_isBetter_42 rfl ⟨⟨fun q => (by cases q), fun q => False.elim (by have := q B rfl; unfold bt at this; simp only [fE, fL] at *; omega)⟩, rfl⟩
            · refine zA_iconst dX4_isBetter_37 rfl ?_
              refine zA_goto (tgt := 42) dX4_isBetter_38 rfl ?_
              exact zA_rb (b := true) dX4_isBetter_42 rfl ⟨⟨fun _ C hC => (by cases hC; unfold bt; simp only [fE, fL] at *; omega), fun _ => rfl⟩, rfl⟩
theorem c_X4_takeIfFits (d p set x : Nat) (v : Int) (o : Option Nat) (μ : zM) (hp : znth TF p = some (10, 30, [])) (hS : set < 2048) (hE : lE μ o) (hx : x < 30) (h4 : μ 25 4 = (x : Int)) (h5 : μ 25 5 = v) : zMet (d + 2) 0 yX4_takeIfFits cX4_takeIfFits 3 none TF μ [zR 25, zR p, zI (set : Int)] (zPv (fun ν => (μ p x ≤ v → lE ν (some set)) ∧ (¬ μ p x ≤ v → lE ν o) ∧ (∀ i, i ≠ 1 → i ≠ 2 → ν 25 i = μ 25 i) ∧ ∀ c, c ≠ 25 → ν c = μ c)) := by
  refine zMv_of RX4 rfl (by decide) rfl (ls := [some (zR 25), some (zR p), some (zI (set : Int))]) rfl (fun hok0 => ?_)
  refine zA_aload_n dX4_takeIfFits_0 rfl ?_
  refine zA_aload_n dX4_takeIfFits_1 rfl ?_
  refine zA_getE (w := (x : Int)) fX4_31 t_25 dX4_takeIfFits_2 h4 ?_
  refine zA_ialE (w := μ p x) (j := x) hp (by omega) (by omega) dX4_takeIfFits_5 rfl rfl ?_
  refine zA_aload_n dX4_takeIfFits_6 rfl ?_
  refine zA_getE (w := v) fX4_34 t_25 dX4_takeIfFits_7 h5 ?_
  refine zA_icmp_gt (tgt := 26) dX4_takeIfFits_10 rfl (fun h10 => ?_) (fun h10 => ?_)
  · exact zA_rv dX4_takeIfFits_26 ⟨fun q => False.elim (by omega), fun _ => hE, fun _ _ _ => rfl, fun _ _ => rfl⟩
  · refine zA_aload_n dX4_takeIfFits_13 rfl ?_
    refine zA_iload_n dX4_takeIfFits_14 rfl ?_
    refine zA_cSi (st := [zR 25]) kX4_64 (c_bitCount d set μ hS) rfl rfl rfl dX4_takeIfFits_15 (zfit0 (by omega) rfl) (fun v1 μ1 q1 => ?_)
    obtain ⟨rfl, rfl⟩ := q1
    refine zA_putI wX4_37 t_25 dX4_takeIfFits_18 ?_
    refine zA_aload_n dX4_takeIfFits_21 rfl ?_
    refine zA_iload_n dX4_takeIfFits_22 rfl ?_
    refine zA_putI wX4_40 t_25 dX4_takeIfFits_23 ?_
    exact zA_rv dX4_takeIfFits_26 ⟨fun _ => ⟨by rw [zup_n (by decide), zup_s]; rfl, by rw [zup_s]; rfl⟩, fun q => absurd (by omega) q, fun i i1 i2 => by rw [zup_n (fun q => i2 q.2), zup_n (fun q => i1 q.2)], fun c hc => by funext i; rw [zup_k hc, zup_k hc]⟩
def goSpec (n m t x : Nat) (u v g : Int) (f s R : Nat → Int) (h k : Nat) : Prop := ∀ (set : Nat) (o : Option Nat) (μ : zM), zHs μ n m t u → μ 25 3 = g → μ 25 4 = (x : Int) → μ 25 5 = v → μ 3 = f → μ 4 = s → lE μ o → set < 2 ^ k → (∀ i, i < 30 → μ (27 + k) i = dRow u n g f s (set : Int) R k i) → zMet h 0 yX4_goOn cX4_goOn 4 none TF μ [zR 25, zR 1, zI (k : Int), zI (set : Int)] (zPv (fun ν => ∃ o', uB (lF u n g f s R t x v) (uE t k set) o o' ∧ lE ν o' ∧ (∀ i, i ≠ 1 → i ≠ 2 → ν 25 i = μ 25 i) ∧ (∀ c, c ≠ 5 → c ≠ 6 → c ≠ 7 → c ≠ 25 → ¬ (27 + k < c ∧ c ≤ 37) → ν c = μ c)))
theorem uE_no {F : Nat → Prop} {o : Option Nat} {t k set : Nat} (hset : set < 2 ^ k) (ht : t ≤ 10) (hk : k ≤ t) (h : ¬ ∀ B, o = some B → bt set B) : uB F (uE t k set) o o := by
  refine uB_no (fun S hS _ => ?_)
  have := uE_ge hS hset ht hk
  cases o with
  | none => exact absurd (fun B hB => by cases hB) h
  | some B =>
    refine ⟨B, rfl, fun q => h (fun C hC => ?_)⟩
    cases hC
    unfold bt at *
    omega
theorem goOn_leaf (d n m t x : Nat) (u v g : Int) (f s R : Nat → Int) (hx : x < 30) (k : Nat) (hk : k = t) : goSpec n m t x u v g f s R (d + 5) k := by
  intro set o μ hH h3 h4 h5 hf hs hE hset hrow
  have hH0 := hH
  obtain ⟨hn, hu, hm, ht, hn5, hm6, ht10, hu1, hdk⟩ := hH0
  have hp : 2 ^ k ≤ 2 ^ 10 := Nat.pow_le_pow_right (by decide) (by omega)
  refine zMv_of RX4 rfl (by decide) rfl (ls := [some (zR 25), some (zR 1), some (zI (k : Int)), some (zI (set : Int))]) rfl (fun hok0 => ?_)
  refine zA_aload_n dX4_goOn_0 rfl ?_
  refine zA_iload_n dX4_goOn_1 rfl ?_
  refine zA_cVb (st := []) kX4_47 t_25 rfl rfl (c_X4_isBetter (d + 2) set o μ (by omega) hE) rfl rfl rfl dX4_goOn_2 (zfit0 (by omega) rfl) (fun v1 μ1 q1 => ?_)
  obtain ⟨b1, rfl⟩ := q1
  refine zA_ifb_ne (tgt := 9) dX4_goOn_5 rfl (fun h5_ => ?_) (fun h5_ => ?_)
  · have h5b := h5_
    refine zA_iload_n dX4_goOn_9 rfl ?_
    refine zA_aload_n dX4_goOn_10 rfl ?_
    refine zA_getE (w := (t : Int)) fX4_51 t_1 dX4_goOn_11 ht ?_
    refine zA_icmp_ge (tgt := 23) dX4_goOn_14 rfl (fun h14 => ?_) (fun h14 => False.elim (by omega))
    refine zA_aload_n dX4_goOn_23 rfl ?_
    refine zA_aload_n dX4_goOn_24 rfl ?_
    refine zA_getR fX4_11 t_25 rfl dX4_goOn_25 ?_
    refine zA_iload_n dX4_goOn_28 rfl ?_
    refine zA_aaldG (k' := 27 + k) t_26 (by omega) (by omega) (t_obs k (by omega)) dX4_goOn_29 ?_
    refine zA_iload_n dX4_goOn_30 rfl ?_
    refine zA_cVv (st := []) kX4_56 t_25 rfl rfl (c_X4_takeIfFits (d + 2) (27 + k) set x v o μ (t_ob k (by omega)) (by omega) hE hx h4 h5) rfl rfl rfl dX4_goOn_31 (zfit0 (by omega) rfl) (fun μ2 q2 => ?_)
    obtain ⟨q1, q2, q3, q4⟩ := q2
    refine zA_rv dX4_goOn_34 ?_
    have hbt := b1.mp h5b
    obtain rfl : k = t := by omega
    have hD : ∀ S, S = set ↔ uE k k set S := fun S => (uE_end hset).symm
    have hfit : μ (27 + k) x ≤ v ↔ (lF u n g f s R k x v) set := by unfold lF; rw [hrow x hx]
    by_cases hv : μ (27 + k) x ≤ v
    · exact ⟨some set, uB_D hD (uB_take (hfit.mp hv) hbt), q1 hv, q3, fun c _ _ _ c4 _ => q4 c c4⟩
    · exact ⟨o, uB_no (fun S hS hF => absurd (hfit.mpr ((hD S).mpr hS ▸ hF)) hv), q2 hv, q3, fun c _ _ _ c4 _ => q4 c c4⟩
  · exact zA_rv dX4_goOn_8 ⟨o, uE_no hset ht10 (by omega) (fun q => by have := b1.mpr q; simp_all), hE, fun _ _ _ => rfl, fun _ _ _ _ _ _ => rfl⟩
theorem goOn_step (d n m t x : Nat) (u v g : Int) (f s R : Nat → Int) (hR : rOk n m R) (hx : x < 30) (k : Nat) (hk : k < t) (hrec : goSpec n m t x u v g f s R (d + 5) (k + 1)) : goSpec n m t x u v g f s R (d + 6) k := by
  intro set o μ hH h3 h4 h5 hf hs hE hset hrow
  have hH0 := hH
  obtain ⟨hn, hu, hm, ht, hn5, hm6, ht10, hu1, hdk⟩ := hH0
  have hp : 2 ^ k ≤ 2 ^ 9 := Nat.pow_le_pow_right (by decide) (by omega)
  have hpk : 2 ^ k ≤ 2 ^ (k + 1) := Nat.pow_le_pow_right (by decide) (by omega)
  have hor : set ||| 2 ^ k < 2 ^ (k + 1) := Nat.or_lt_two_pow (by omega) (Nat.pow_lt_pow_right (by decide) (by omega))
  have hp1 : 2 ^ (k + 1) ≤ 2 ^ 10 := Nat.pow_le_pow_right (by decide) (by omega)
  rw [hf, hs] at hdk
  refine zMv_of RX4 rfl (by decide) rfl (ls := [some (zR 25), some (zR 1), some (zI (k : Int)), some (zI (set : Int))]) rfl (fun hok0 => ?_)
  refine zA_aload_n dX4_goOn_0 rfl ?_
  refine zA_iload_n dX4_goOn_1 rfl ?_
  refine zA_cVb (st := []) kX4_47 t_25 rfl rfl (c_X4_isBetter (d + 3) set o μ (by omega) hE) rfl rfl rfl dX4_goOn_2 (zfit0 (by omega) rfl) (fun v1 μ1 q1 => ?_)
  obtain ⟨b1, rfl⟩ := q1
  refine zA_ifb_ne (tgt := 9) dX4_goOn_5 rfl (fun h5_ => ?_) (fun h5_ => ?_)
  · refine zA_iload_n dX4_goOn_9 rfl ?_
    refine zA_aload_n dX4_goOn_10 rfl ?_
    refine zA_getE (w := (t : Int)) fX4_51 t_1 dX4_goOn_11 ht ?_
    refine zA_icmp_ge (tgt := 23) dX4_goOn_14 rfl (fun h14 => False.elim (by omega)) fun h14 => ?_
    refine zA_iload_n dX4_goOn_17 rfl ?_
    refine zA_bipush dX4_goOn_18 rfl ?_
    refine zA_icmp_lt (tgt := 35) dX4_goOn_20 rfl (fun h20 => ?_) (fun h20 => False.elim (by omega))
    refine zA_aload_n dX4_goOn_35 rfl ?_
    refine zA_getR fX4_11 t_25 rfl dX4_goOn_36 ?_
    refine zA_iload_n dX4_goOn_39 rfl ?_
    refine zA_aaldG (k' := 27 + k) t_26 (by omega) (by omega) (t_obs k (by omega)) dX4_goOn_40 ?_
    refine zA_aload_n dX4_goOn_41 rfl ?_
    refine zA_getR fX4_11 t_25 rfl dX4_goOn_42 ?_
    refine zA_iload_n dX4_goOn_45 rfl ?_
    refine zA_iconst dX4_goOn_46 rfl ?_
    refine zA_iaddE (w := ((k + 1 : Nat) : Int)) dX4_goOn_47 ⟨by omega, by omega⟩ (by omega) ?_
    refine zA_aaldG (k' := 27 + (k + 1)) t_26 (by omega) (by omega) (t_obs (k + 1) (by omega)) dX4_goOn_48 ?_
    refine zA_cNv (st := []) kX4_22 (c_X8_copyPartsR (d + 4) (27 + k) (27 + (k + 1)) μ (t_ob k (by omega)) (t_ob (k + 1) (by omega))) rfl rfl rfl dX4_goOn_49 (zfit0 (by omega) rfl) (fun μ2 q2 => ?_)
    obtain ⟨q2a, q2b⟩ := q2
    refine zA_aload_n dX4_goOn_52 rfl ?_
    refine zA_aload_n dX4_goOn_53 rfl ?_
    refine zA_getR fX4_11 t_25 rfl dX4_goOn_54 ?_
    refine zA_iload_n dX4_goOn_57 rfl ?_
    refine zA_iconst dX4_goOn_58 rfl ?_
    refine zA_iaddE (w := ((k + 1 : Nat) : Int)) dX4_goOn_59 ⟨by omega, by omega⟩ (by omega) ?_
    refine zA_aaldG (k' := 27 + (k + 1)) t_26 (by omega) (by omega) (t_obs (k + 1) (by omega)) dX4_goOn_60 ?_
    refine zA_aload_n dX4_goOn_61 rfl ?_
    refine zA_getE (w := g) fX4_30 t_25 dX4_goOn_62 (by rw [q2b 25 (by omega)]; exact h3) ?_
    refine zA_iload_n dX4_goOn_65 rfl ?_
    refine zA_cVv (st := []) kX4_60 t_1 rfl rfl (c_X2_goPlanned (d + 1) μ2 (27 + (k + 1)) n m t u g k (t_ob (k + 1) (by omega)) (hH.keep (q2b 1 (by omega)) (q2b 3 (by omega)) (q2b 4 (by omega))) (by omega) (rOk_congr hn5 hm6 (fun i hi => by rw [q2a i hi, hrow i hi]) (dRow_ok hn5 hu1 hdk hR k (by omega)))) rfl rfl rfl dX4_goOn_66 (zfit0 (by omega) rfl) (fun μ3 q3 => ?_)
    obtain ⟨q3a, q3b⟩ := q3
    rw [q2b 3 (by omega), q2b 4 (by omega), hf, hs] at q3a
    have hk0 : ¬ zbit (set : Int) (k : Int) = 1 := fun q => by rw [zbit_test (by omega) (by omega), Nat.testBit_lt_two_pow hset] at q; cases q
    have hrow1 : ∀ i, i < 30 → μ3 (27 + (k + 1)) i = dRow u n g f s (set : Int) R (k + 1) i := fun i hi => by
      rw [q3a]; simp only [dRow]; rw [if_neg hk0]
      exact xchG_congr hn5 (by have := hdk k (by omega); omega) (by have := hdk k (by omega); omega) (fun i hi => by rw [q2a i hi, hrow i hi]) i hi
    have F3 : ∀ c, c ≠ 5 → c ≠ 6 → c ≠ 7 → c ≠ 27 + (k + 1) → μ3 c = μ c := fun c c1 c2 c3 c4 => by rw [q3b c c4 c1 c2 c3, q2b c c4]
    have e25 : μ3 25 = μ 25 := F3 25 (by decide) (by decide) (by decide) (by omega)
    refine zA_aload_n dX4_goOn_69 rfl ?_
    refine zA_aload_n dX4_goOn_70 rfl ?_
    refine zA_iload_n dX4_goOn_71 rfl ?_
    refine zA_iconst dX4_goOn_72 rfl ?_
    refine zA_iaddE (w := ((k + 1 : Nat) : Int)) dX4_goOn_73 ⟨by omega, by omega⟩ (by omega) ?_
    refine zA_iload_n dX4_goOn_74 rfl ?_
    refine zA_cVv (st := []) kX4_43 t_25 rfl rfl (hrec set o μ3 (hH.keep (F3 1 (by decide) (by decide) (by decide) (by omega)) (F3 3 (by decide) (by decide) (by decide) (by omega)) (F3 4 (by decide) (by decide) (by decide) (by omega))) (by rw [e25]; exact h3) (by rw [e25]; exact h4) (by rw [e25]; exact h5) (by rw [F3 3 (by decide) (by decide) (by decide) (by omega)]; exact hf) (by rw [F3 4 (by decide) (by decide) (by decide) (by omega)]; exact hs) (by unfold lE; rw [e25]; exact hE) (Nat.lt_of_lt_of_le hset hpk) hrow1) rfl rfl rfl dX4_goOn_75 (zfit0 (by omega) rfl) (fun μ4 q4 => ?_)
    obtain ⟨o1, u1, s1, s2, s3⟩ := q4
    have F4 : ∀ c, c ≠ 5 → c ≠ 6 → c ≠ 7 → c ≠ 25 → ¬ (27 + k < c ∧ c ≤ 37) → μ4 c = μ c := fun c c1 c2 c3 c4 c5 => by rw [s3 c c1 c2 c3 c4 (by omega), F3 c c1 c2 c3 (by omega)]
    have G4 : ∀ i, i ≠ 1 → i ≠ 2 → μ4 25 i = μ 25 i := fun i i1 i2 => by rw [s2 i i1 i2, e25]
    refine zA_aload_n dX4_goOn_78 rfl ?_
    refine zA_getR fX4_11 t_25 rfl dX4_goOn_79 ?_
    refine zA_iload_n dX4_goOn_82 rfl ?_
    refine zA_aaldG (k' := 27 + k) t_26 (by omega) (by omega) (t_obs k (by omega)) dX4_goOn_83 ?_
    refine zA_aload_n dX4_goOn_84 rfl ?_
    refine zA_getR fX4_11 t_25 rfl dX4_goOn_85 ?_
    refine zA_iload_n dX4_goOn_88 rfl ?_
    refine zA_iconst dX4_goOn_89 rfl ?_
    refine zA_iaddE (w := ((k + 1 : Nat) : Int)) dX4_goOn_90 ⟨by omega, by omega⟩ (by omega) ?_
    refine zA_aaldG (k' := 27 + (k + 1)) t_26 (by omega) (by omega) (t_obs (k + 1) (by omega)) dX4_goOn_91 ?_
    refine zA_cNv (st := []) kX4_22 (c_X8_copyPartsR (d + 4) (27 + k) (27 + (k + 1)) μ4 (t_ob k (by omega)) (t_ob (k + 1) (by omega))) rfl rfl rfl dX4_goOn_92 (zfit0 (by omega) rfl) (fun μ5 q5 => ?_)
    obtain ⟨q5a, q5b⟩ := q5
    have F5 : ∀ c, c ≠ 5 → c ≠ 6 → c ≠ 7 → c ≠ 25 → ¬ (27 + k < c ∧ c ≤ 37) → μ5 c = μ c := fun c c1 c2 c3 c4 c5 => by rw [q5b c (by omega), F4 c c1 c2 c3 c4 c5]
    have e25b : μ5 25 = μ4 25 := q5b 25 (by omega)
    have hz : ∀ j : Nat, j < k → (zbit (set : Int) j = 1 ↔ zbit ((set ||| 2 ^ k : Nat) : Int) j = 1) := fun j hj => by rw [zbit_test (by omega) (by omega), zbit_test (by omega) (by omega), or_test, decide_eq_false (by omega), Bool.or_false]
    have hk1 : zbit ((set ||| 2 ^ k : Nat) : Int) (k : Int) = 1 := by rw [zbit_test (by omega) (by omega), or_test, decide_eq_true rfl, Bool.or_true]
    have hrow2 : ∀ i, i < 30 → μ5 (27 + (k + 1)) i = dRow u n g f s ((set ||| 2 ^ k : Nat) : Int) R (k + 1) i := fun i hi => by
      rw [q5a i hi, F4 _ (by omega) (by omega) (by omega) (by omega) (by omega), hrow i hi]; simp only [dRow]; rw [if_pos hk1, dRow_wo k hz]
    refine zA_aload_n dX4_goOn_95 rfl ?_
    refine zA_aload_n dX4_goOn_96 rfl ?_
    refine zA_iload_n dX4_goOn_97 rfl ?_
    refine zA_iconst dX4_goOn_98 rfl ?_
    refine zA_iaddE (w := ((k + 1 : Nat) : Int)) dX4_goOn_99 ⟨by omega, by omega⟩ (by omega) ?_
    refine zA_iload_n dX4_goOn_100 rfl ?_
    refine zA_iconst dX4_goOn_101 rfl ?_
    refine zA_iload_n dX4_goOn_102 rfl ?_
    refine zA_ishlE (w := ((2 ^ k : Nat) : Int)) dX4_goOn_103 (zshl_1 k (by omega)) ?_
    refine zA_iorE (w := ((set ||| 2 ^ k : Nat) : Int)) dX4_goOn_104 (zor_nat (by omega) (by omega)) ?_
    refine zA_cVv (st := []) kX4_43 t_25 rfl rfl (hrec (set ||| 2 ^ k) o1 μ5 (hH.keep (F5 1 (by decide) (by decide) (by decide) (by decide) (by omega)) (F5 3 (by decide) (by decide) (by decide) (by decide) (by omega)) (F5 4 (by decide) (by decide) (by decide) (by decide) (by omega))) (by rw [e25b, G4 3 (by decide) (by decide)]; exact h3) (by rw [e25b, G4 4 (by decide) (by decide)]; exact h4) (by rw [e25b, G4 5 (by decide) (by decide)]; exact h5) (by rw [F5 3 (by decide) (by decide) (by decide) (by decide) (by omega)]; exact hf) (by rw [F5 4 (by decide) (by decide) (by decide) (by decide) (by omega)]; exact hs) (by unfold lE; rw [e25b]; exact s1) hor hrow2) rfl rfl rfl dX4_goOn_105 (zfit0 (by omega) rfl) (fun μ6 q6 => ?_)
    obtain ⟨o2, u2, s4, s5, s6⟩ := q6
    exact zA_rv dX4_goOn_108 ⟨o2, uB_tr u1 u2 (fun S hS => (uE_split hset).mp hS) (fun S hS => (uE_split hset).mpr (Or.inl hS)) (fun S hS => (uE_split hset).mpr (Or.inr hS)), s4, fun i i1 i2 => by rw [s5 i i1 i2, e25b, G4 i i1 i2], fun c c1 c2 c3 c4 c5 => by rw [s6 c c1 c2 c3 c4 (by omega), F5 c c1 c2 c3 c4 c5]⟩
  · exact zA_rv dX4_goOn_8 ⟨o, uE_no hset ht10 (by omega) (fun q => by have := b1.mpr q; simp_all), hE, fun _ _ _ => rfl, fun _ _ _ _ _ _ => rfl⟩
theorem goOn_all (n m t x : Nat) (u v g : Int) (f s R : Nat → Int) (hR : rOk n m R) (hx : x < 30) : ∀ (r d k : Nat), k + r = t → goSpec n m t x u v g f s R (d + r + 5) k
  | 0, d, k, hk => goOn_leaf d n m t x u v g f s R hx k hk
  | r + 1, d, k, hk => goOn_step (d + r) n m t x u v g f s R hR hx k (by omega) (goOn_all n m t x u v g f s R hR hx r d (k + 1) (by omega))
theorem c_X4_findFewest (d : Nat) (μ : zM) (n m t x : Nat) (u v : Int) (hH : zHs μ n m t u) (hok : rOk n m (μ 53)) (hx : x < 30) : zMet (d + 16) 0 yX4_findFewest cX4_findFewest 5 none TF μ [zR 25, zR 1, zR 52, zI (x : Int), zI v] (zPv (fun ν => ∃ o, uB (lF u n (μ 52 1) (μ 3) (μ 4) (μ 53) t x v) (fun S => S < 2 ^ t) none o ∧ lE ν o ∧ ∀ c, c ≠ 5 → c ≠ 6 → c ≠ 7 → ¬ (25 ≤ c ∧ c ≤ 37) → ν c = μ c)) := by
  have hH0 := hH
  obtain ⟨hn, hu, hm, ht, hn5, hm6, ht10, hu1, hdk⟩ := hH0
  have hgo := goOn_all n m t x u v (μ 52 1) (μ 3) (μ 4) (μ 53) hok hx t (d + 10 - t) 0 (by omega)
  rw [show d + 10 - t + t + 5 = d + 15 by omega] at hgo
  refine zMv_of RX4 rfl (by decide) rfl (ls := [some (zR 25), some (zR 1), some (zR 52), some (zI (x : Int)), some (zI v)]) rfl (fun hok0 => ?_)
  refine zA_aload_n dX4_findFewest_0 rfl ?_
  refine zA_getR fX4_16 t_52 rfl dX4_findFewest_1 ?_
  refine zA_aload_n dX4_findFewest_4 rfl ?_
  refine zA_getR fX4_11 t_25 rfl dX4_findFewest_5 ?_
  refine zA_iconst dX4_findFewest_8 rfl ?_
  refine zA_aaldG t_26 (by omega) (by omega) rfl dX4_findFewest_9 ?_
  refine zA_cNv (st := []) kX4_22 (c_X8_copyPartsR (d + 14) 53 27 μ t_53 t_27) rfl rfl rfl dX4_findFewest_10 (zfit0 (by omega) rfl) (fun μ1 q1 => ?_)
  obtain ⟨q1a, q1b⟩ := q1
  refine zA_aload_n dX4_findFewest_13 rfl ?_
  refine zA_aload_n dX4_findFewest_14 rfl ?_
  refine zA_getE (w := μ 52 1) fX4_26 t_52 dX4_findFewest_15 (by rw [q1b 52 (by decide)]) ?_
  refine zA_putI wX4_30 t_25 dX4_findFewest_18 ?_
  refine zA_aload_n dX4_findFewest_21 rfl ?_
  refine zA_iload_n dX4_findFewest_22 rfl ?_
  refine zA_putI wX4_31 t_25 dX4_findFewest_23 ?_
  refine zA_aload_n dX4_findFewest_26 rfl ?_
  refine zA_iload dX4_findFewest_27 rfl ?_
  refine zA_putI wX4_34 t_25 dX4_findFewest_29 ?_
  refine zA_aload_n dX4_findFewest_32 rfl ?_
  refine zA_iconst dX4_findFewest_33 rfl ?_
  refine zA_putI wX4_37 t_25 dX4_findFewest_34 ?_
  refine zA_aload_n dX4_findFewest_37 rfl ?_
  refine zA_iconst dX4_findFewest_38 rfl ?_
  refine zA_putI wX4_40 t_25 dX4_findFewest_39 ?_
  have M1 : ∀ c, c ≠ 25 → c ≠ 27 → (zup (zup (zup (zup (zup μ1 25 3 (μ 52 1)) 25 4 (x : Int)) 25 5 v) 25 1 (-1)) 25 2 (-1)) c = μ c := fun c c1 c2 => by funext i; rw [← q1b c c2, zup_k c1, zup_k c1, zup_k c1, zup_k c1, zup_k c1]
  refine zA_aload_n dX4_findFewest_42 rfl ?_
  refine zA_aload_n dX4_findFewest_43 rfl ?_
  refine zA_iconst dX4_findFewest_44 rfl ?_
  refine zA_iconst dX4_findFewest_45 rfl ?_
  refine zA_cVv (st := []) kX4_43 t_25 rfl rfl (hgo 0 none (zup (zup (zup (zup (zup μ1 25 3 (μ 52 1)) 25 4 (x : Int)) 25 5 v) 25 1 (-1)) 25 2 (-1)) (hH.keep (M1 1 (by decide) (by decide)) (M1 3 (by decide) (by decide)) (M1 4 (by decide) (by decide))) rfl rfl rfl (M1 3 (by decide) (by decide)) (M1 4 (by decide) (by decide)) ⟨rfl, rfl⟩ (by decide) (fun i hi => q1a i hi)) rfl rfl rfl dX4_findFewest_46 (zfit0 (by omega) rfl) (fun μ2 q2 => ?_)
  obtain ⟨o, u1, s1, s2, s3⟩ := q2
  exact zA_rv dX4_findFewest_49 ⟨o, uB_D (fun S => ⟨fun h => h.1, fun h => ⟨h, fun i hi => by omega⟩⟩) u1, s1, fun c c1 c2 c3 c4 => by rw [s3 c c1 c2 c3 (by omega) (by omega), M1 c (by omega) (by omega)]⟩
theorem c_X8_leftOut (d : Nat) (μ : zM) (n m t : Nat) (u a c v y : Int) (hH : zHs μ n m t u) (hok : rOk n m (μ 53)) : zMet (d + 17) 0 yX8_leftOut cX8_leftOut 5 (some .int) TF μ [zR 0, zI a, zI c, zI v, zI y] (zPi (fun r ν => (fun r => (¬ ((0 ≤ a ∧ a < m) ∧ (0 ≤ c ∧ c < n)) ∧ r = -1000000001) ∨ (((0 ≤ a ∧ a < m) ∧ (0 ≤ c ∧ c < n)) ∧ ¬ ((0 ≤ v ∧ v ≤ 60) ∧ (0 ≤ y ∧ y ≤ 1)) ∧ r = -1000000002) ∨ (((0 ≤ a ∧ a < m) ∧ (0 ≤ c ∧ c < n)) ∧ ((0 ≤ v ∧ v ≤ 60) ∧ (0 ≤ y ∧ y ≤ 1)) ∧ ∃ o, uB (lF u n (μ 52 1) (μ 3) (μ 4) (μ 53) t (5 * a + c).toNat v) (fun S => S < 2 ^ t) none o ∧ r = (if y = 0 then fE o else fL o))) r ∧ qC μ ν)) := by
  have hH0 := hH
  obtain ⟨hn, hu, hm, ht, hn5, hm6, ht10, hu1, hdk⟩ := hH0
  refine zMi_of RX8 rfl (by decide) rfl (ls := [some (zR 0), some (zI a), some (zI c), some (zI v), some (zI y)]) rfl (fun hok0 => ?_)
  refine zA_aload_n dX8_leftOut_0 rfl ?_
  refine zA_getR fX8_12 t_0 rfl dX8_leftOut_1 ?_
  refine zA_iload_n dX8_leftOut_4 rfl ?_
  refine zA_iload_n dX8_leftOut_5 rfl ?_
  refine zA_cVb (st := []) kX8_140 t_1 rfl rfl (c_X2_hasCell (d + 14) a c μ) rfl rfl rfl dX8_leftOut_6 (zfit0 (by omega) rfl) (fun v1 μ1 q1 => ?_)
  obtain ⟨b1, rfl⟩ := q1
  rw [hn, hm] at b1
  refine zA_ifb_ne (tgt := 15) dX8_leftOut_9 rfl (fun h9 => ?_) (fun h9 => ?_)
  · have hb := b1.mp h9
    refine zA_iload_n dX8_leftOut_15 rfl ?_
    refine zA_cSb (st := []) kX8_218 (c_X8_isAmount (d + 15) v μ) rfl rfl rfl dX8_leftOut_16 (zfit0 (by omega) rfl) (fun v2 μ2 q2 => ?_)
    obtain ⟨b2, rfl⟩ := q2
    refine zA_ifb_eq (tgt := 33) dX8_leftOut_19 rfl (fun h19 => ?_) (fun h19 => ?_)
    · refine zA_ldc cX8_88 dX8_leftOut_33 rfl ?_
      exact zA_ri dX8_leftOut_35 ⟨Or.inr (Or.inl ⟨hb, fun q => by first | omega | (have := b2.mpr q.1; simp_all; done), rfl⟩), qC.refl _⟩
    · refine zA_iload dX8_leftOut_22 rfl ?_
      refine zA_if_lt (tgt := 33) dX8_leftOut_24 rfl (fun h24 => ?_) (fun h24 => ?_)
      · refine zA_ldc cX8_88 dX8_leftOut_33 rfl ?_
        exact zA_ri dX8_leftOut_35 ⟨Or.inr (Or.inl ⟨hb, fun q => by first | omega | (have := b2.mpr q.1; simp_all; done), rfl⟩), qC.refl _⟩
      · refine zA_iload dX8_leftOut_27 rfl ?_
        refine zA_iconst dX8_leftOut_29 rfl ?_
        refine zA_icmp_le (tgt := 36) dX8_leftOut_30 rfl (fun h30 => ?_) (fun h30 => ?_)
        · have hv : (0 ≤ v ∧ v ≤ 60) ∧ (0 ≤ y ∧ y ≤ 1) := ⟨b2.mp (by simpa using h19), by omega⟩
          refine zA_aload_n dX8_leftOut_36 rfl ?_
          refine zA_getR fX8_33 t_0 rfl dX8_leftOut_37 ?_
          refine zA_aload_n dX8_leftOut_40 rfl ?_
          refine zA_getR fX8_12 t_0 rfl dX8_leftOut_41 ?_
          refine zA_aload_n dX8_leftOut_44 rfl ?_
          refine zA_getR fX8_47 t_0 rfl dX8_leftOut_45 ?_
          refine zA_iload_n dX8_leftOut_48 rfl ?_
          refine zA_iload_n dX8_leftOut_49 rfl ?_
          refine zA_cSi (st := [zR 52, zR 1, zR 25]) kX8_147 (c_X8_cell (d + 15) a c μ (by omega) (by omega)) rfl rfl rfl dX8_leftOut_50 (zfit0 (by omega) rfl) (fun v3 μ3 q3 => ?_)
          obtain ⟨ec, rfl⟩ := q3
          obtain rfl : v3 = (((5 * a + c).toNat : Nat) : Int) := by omega
          refine zA_iload_n dX8_leftOut_53 rfl ?_
          refine zA_cVv (st := []) kX8_242 t_25 rfl rfl (c_X4_findFewest d μ n m t (5 * a + c).toNat u v hH hok (by omega)) rfl rfl rfl dX8_leftOut_54 (zfit0 (by omega) rfl) (fun μ4 q4 => ?_)
          obtain ⟨o, u1, ⟨s1, s2⟩, s3⟩ := q4
          refine zA_iload dX8_leftOut_57 rfl ?_
          refine zA_if_ne (tgt := 72) dX8_leftOut_59 rfl (fun h59 => ?_) (fun h59 => ?_)
          · refine zA_aload_n dX8_leftOut_72 rfl ?_
            refine zA_getR fX8_33 t_0 rfl dX8_leftOut_73 ?_
            refine zA_getI fX8_246 t_25 dX8_leftOut_76 ?_
            exact zA_ri dX8_leftOut_79 ⟨Or.inr (Or.inr ⟨hb, hv, o, u1, by first | (rw [if_pos (by omega)]; exact s1) | (rw [if_neg (by omega)]; exact s2)⟩), fun k hk => s3 k (fun e => hk (by unfold cScr; omega)) (fun e => hk (by unfold cScr; omega)) (fun e => hk (by unfold cScr; omega)) (fun e => hk (by unfold cScr; omega))⟩
          · refine zA_aload_n dX8_leftOut_62 rfl ?_
            refine zA_getR fX8_33 t_0 rfl dX8_leftOut_63 ?_
            refine zA_getI fX8_245 t_25 dX8_leftOut_66 ?_
            refine zA_goto (tgt := 79) dX8_leftOut_69 rfl ?_
            exact zA_ri dX8_leftOut_79 ⟨Or.inr (Or.inr ⟨hb, hv, o, u1, by first | (rw [if_pos (by omega)]; exact s1) | (rw [if_neg (by omega)]; exact s2)⟩), fun k hk => s3 k (fun e => hk (by unfold cScr; omega)) (fun e => hk (by unfold cScr; omega)) (fun e => hk (by unfold cScr; omega)) (fun e => hk (by unfold cScr; omega))⟩
        · refine zA_ldc cX8_88 dX8_leftOut_33 rfl ?_
          exact zA_ri dX8_leftOut_35 ⟨Or.inr (Or.inl ⟨hb, fun q => by first | omega | (have := b2.mpr q.1; simp_all; done), rfl⟩), qC.refl _⟩
  · refine zA_ldc cX8_151 dX8_leftOut_12 rfl ?_
    exact zA_ri dX8_leftOut_14 ⟨Or.inl ⟨fun q => by have := b1.mpr q; simp_all, rfl⟩, qC.refl _⟩
theorem l_X9_leftOut (d : Nat) (μ : zM) (n m t x : Nat) (u a c v y : Int) (hH : zMs μ n m t u) (hok : rOk n m (μ 114)) (hx30 : x < 30) (hxe : (x : Int) = 5 * a + c) (ha : 0 ≤ a ∧ a < 6) (hc : 0 ≤ c ∧ c < 5) (hy : 0 ≤ y ∧ y ≤ 1) : ∀ (t0 S : Nat) (o : Option Nat), 2 ^ t - S = t0 → S ≤ 2 ^ t → uB (lF u n (μ 114 30) (μ 112) (μ 113) (μ 114) t x v) (fun X => X < S) none o → ∀ ν : zM, (∀ k, k ≠ 122 → k ≠ 119 → ν k = μ k) → zA RX9 cX9_leftOut 7 (zRm (d + 5) 0) zN0 TF 0 ν 46 [some (zR 110), some (zI a), some (zI c), some (zI v), some (zI y), some (zI (fL o)), some (zI (S : Int))] [] (zPi (fun r ξ => (∃ o, uB (lF u n (μ 114 30) (μ 112) (μ 113) (μ 114) t x v) (fun S => S < 2 ^ t) none o ∧ r = (if y = 0 then fE o else fL o)) ∧ (∀ k, k ≠ 122 → k ≠ 119 → ξ k = μ k))) := by
  have hH0 := hH
  obtain ⟨hn, hu, hm, ht, hn5, hm6, ht10, hu1, hdk⟩ := hH0
  have hp : 2 ^ t ≤ 2 ^ 10 := Nat.pow_le_pow_right (by decide) ht10
  intro t0
  induction t0 using Nat.strongRecOn with
  | ind t0 ih =>
    intro S o hk hSt hu ν hfr
    cases o with
    | none =>
      show zA RX9 cX9_leftOut 7 (zRm (d + 5) 0) zN0 TF 0 ν 46 [some (zR 110), some (zI a), some (zI c), some (zI v), some (zI y), some (zI (-1)), some (zI (S : Int))] [] (zPi (fun r ξ => (∃ o, uB (lF u n (μ 114 30) (μ 112) (μ 113) (μ 114) t x v) (fun S => S < 2 ^ t) none o ∧ r = (if y = 0 then fE o else fL o)) ∧ (∀ k, k ≠ 122 → k ≠ 119 → ξ k = μ k)))
      refine zA_iload dX9_leftOut_46 rfl ?_
      refine zA_iconst dX9_leftOut_48 rfl ?_
      refine zA_aload_n dX9_leftOut_49 rfl ?_
      refine zA_getE (w := (t : Int)) fX9_169 t_110 dX9_leftOut_50 (by rw [hfr 110 (by decide) (by decide)]; exact ht) ?_
      refine zA_ishlE (w := ((2 ^ t : Nat) : Int)) dX9_leftOut_53 (zshl_1 t (by omega)) ?_
      refine zA_icmp_ge (tgt := 119) dX9_leftOut_54 rfl (fun h54 => ?_) (fun h54 => ?_)
      · refine zA_iload dX9_leftOut_119 rfl ?_
        refine zA_if_lt (tgt := 130) dX9_leftOut_121 rfl (fun h121 => ?_) (fun h121 => False.elim (by omega))
        refine zA_iload dX9_leftOut_130 rfl ?_
        refine zA_goto (tgt := 140) dX9_leftOut_132 rfl ?_
        exact zA_ri dX9_leftOut_140 ⟨⟨none, by rw [show 2 ^ t = S by omega]; exact hu, by simp [fE, fL]⟩, hfr⟩
      · refine zA_iload dX9_leftOut_57 rfl ?_
        refine zA_if_lt (tgt := 75) dX9_leftOut_59 rfl (fun h59 => ?_) (fun h59 => False.elim (by omega))
        refine zA_aload_n dX9_leftOut_75 rfl ?_
        refine zA_cVv (st := []) kX9_225 t_110 rfl rfl (c_X9_begin (d + 3) ν) rfl rfl rfl dX9_leftOut_76 (zfit0 (by omega) rfl) (fun μ1 q1 => ?_)
        obtain ⟨qa, qb⟩ := q1
        refine zA_aload_n dX9_leftOut_79 rfl ?_
        refine zA_iconst dX9_leftOut_80 rfl ?_
        refine zA_aload_n dX9_leftOut_81 rfl ?_
        refine zA_getE (w := (t : Int)) fX9_169 t_110 dX9_leftOut_82 (by rw [qb 110 (by decide), hfr 110 (by decide) (by decide)]; exact ht) ?_
        refine zA_iload dX9_leftOut_85 rfl ?_
        refine zA_cVv (st := []) kX9_228 t_110 rfl rfl (c_X9_goOn0 d μ1 n m t t u (S : Int) (hH.keep (by rw [qb 110 (by decide), hfr 110 (by decide) (by decide)]) (by rw [qb 112 (by decide), hfr 112 (by decide) (by decide)]) (by rw [qb 113 (by decide), hfr 113 (by decide) (by decide)])) (by omega) (rOk_congr hn5 hm6 (fun i hi => by rw [qa i hi, hfr 114 (by decide) (by decide)]) hok)) rfl rfl rfl dX9_leftOut_87 (zfit0 (by omega) rfl) (fun μ2 q2 => ?_)
        obtain ⟨ra, rb⟩ := q2
        have hT : μ2 122 x = dRow u n (μ 114 30) (μ 112) (μ 113) (S : Int) (μ 114) t x := by rw [ra, qb 114 (by decide), qb 112 (by decide), qb 113 (by decide), hfr 114 (by decide) (by decide), hfr 112 (by decide) (by decide), hfr 113 (by decide) (by decide)]; exact dRow_congrR hn5 hm6 hdk (fun i hi => by rw [qa i hi, hfr 114 (by decide) (by decide)]) (Nat.le_refl _) x hx30
        have f3 : ∀ k, k ≠ 122 → k ≠ 119 → μ2 k = μ k := fun k k1 k2 => by rw [rb k k1 k2, qb k k1, hfr k k1 k2]
        refine zA_aload_n dX9_leftOut_90 rfl ?_
        refine zA_getR fX9_47 t_110 rfl dX9_leftOut_91 ?_
        refine zA_iconst dX9_leftOut_94 rfl ?_
        refine zA_iload_n dX9_leftOut_95 rfl ?_
        refine zA_imulB dX9_leftOut_96 ⟨by omega, by omega⟩ ?_
        refine zA_iload_n dX9_leftOut_97 rfl ?_
        refine zA_iaddE (w := (x : Int)) dX9_leftOut_98 ⟨by omega, by omega⟩ (by omega) ?_
        refine zA_ialE (w := μ2 122 x) (j := x) t_122 (by omega) (by omega) dX9_leftOut_99 rfl rfl ?_
        refine zA_iload_n dX9_leftOut_100 rfl ?_
        refine zA_icmp_gt (tgt := 109) dX9_leftOut_101 rfl (fun h101 => ?_) (fun h101 => ?_)
        · refine zA_iload dX9_leftOut_109 rfl ?_
          refine zA_istore (ls' := [some (zR 110), some (zI a), some (zI c), some (zI v), some (zI y), some (zI (-1)), some (zI (S : Int))]) dX9_leftOut_111 rfl rfl ?_
          refine zA_iincB (ls' := [some (zR 110), some (zI a), some (zI c), some (zI v), some (zI y), some (zI (-1)), some (zI ((S : Int) + 1))]) dX9_leftOut_113 rfl rfl ⟨by omega, by omega⟩ rfl ?_
          refine zA_goto (tgt := 46) dX9_leftOut_116 rfl ?_
          have hD : ∀ X, X < S + 1 → X < S ∨ X = S := fun X hX => by omega
          exact ih _ (by omega) (S + 1) none rfl (by omega) (uB_tr hu (uB_no (fun X hX hF => by rw [hX] at hF; unfold lF at hF; rw [← hT] at hF; omega)) hD (fun X hX => by omega) (fun X hX => by omega)) μ2 f3
        · refine zA_iload dX9_leftOut_104 rfl ?_
          refine zA_goto (tgt := 111) dX9_leftOut_106 rfl ?_
          refine zA_istore (ls' := [some (zR 110), some (zI a), some (zI c), some (zI v), some (zI y), some (zI (S : Int)), some (zI (S : Int))]) dX9_leftOut_111 rfl rfl ?_
          refine zA_iincB (ls' := [some (zR 110), some (zI a), some (zI c), some (zI v), some (zI y), some (zI (S : Int)), some (zI ((S : Int) + 1))]) dX9_leftOut_113 rfl rfl ⟨by omega, by omega⟩ rfl ?_
          refine zA_goto (tgt := 46) dX9_leftOut_116 rfl ?_
          have hD : ∀ X, X < S + 1 → X < S ∨ X = S := fun X hX => by omega
          exact ih _ (by omega) (S + 1) (some S) rfl (by omega) (uB_tr hu (uB_take (by unfold lF; rw [← hT]; omega) (fun C hC => by cases hC)) hD (fun X hX => by omega) (fun X hX => by omega)) μ2 f3
    | some B =>
      show zA RX9 cX9_leftOut 7 (zRm (d + 5) 0) zN0 TF 0 ν 46 [some (zR 110), some (zI a), some (zI c), some (zI v), some (zI y), some (zI (B : Int)), some (zI (S : Int))] [] (zPi (fun r ξ => (∃ o, uB (lF u n (μ 114 30) (μ 112) (μ 113) (μ 114) t x v) (fun S => S < 2 ^ t) none o ∧ r = (if y = 0 then fE o else fL o)) ∧ (∀ k, k ≠ 122 → k ≠ 119 → ξ k = μ k)))
      have hB : B < S := by
        rcases hu.1 with e | ⟨C, e, hC, _⟩
        · cases e
        · cases e; exact hC
      refine zA_iload dX9_leftOut_46 rfl ?_
      refine zA_iconst dX9_leftOut_48 rfl ?_
      refine zA_aload_n dX9_leftOut_49 rfl ?_
      refine zA_getE (w := (t : Int)) fX9_169 t_110 dX9_leftOut_50 (by rw [hfr 110 (by decide) (by decide)]; exact ht) ?_
      refine zA_ishlE (w := ((2 ^ t : Nat) : Int)) dX9_leftOut_53 (zshl_1 t (by omega)) ?_
      refine zA_icmp_ge (tgt := 119) dX9_leftOut_54 rfl (fun h54 => ?_) (fun h54 => ?_)
      · refine zA_iload dX9_leftOut_119 rfl ?_
        refine zA_if_lt (tgt := 130) dX9_leftOut_121 rfl (fun h121 => ?_) (fun h121 => ?_)
        · refine zA_iload dX9_leftOut_130 rfl ?_
          refine zA_goto (tgt := 140) dX9_leftOut_132 rfl ?_
          exact zA_ri dX9_leftOut_140 ⟨⟨(some B), by rw [show 2 ^ t = S by omega]; exact hu, by (rw [if_neg (by omega)]; rfl)⟩, hfr⟩
        · refine zA_iload dX9_leftOut_124 rfl ?_
          refine zA_iconst dX9_leftOut_126 rfl ?_
          refine zA_icmp_ne (tgt := 135) dX9_leftOut_127 rfl (fun h127 => ?_) (fun h127 => ?_)
          · refine zA_iload dX9_leftOut_135 rfl ?_
            refine zA_cSi (st := []) kX9_256 (c_X9_pop (d + 3) B ν) rfl rfl rfl dX9_leftOut_137 (zfit0 (by omega) rfl) (fun v1 μ1 q1 => ?_)
            obtain ⟨rfl, rfl⟩ := q1
            exact zA_ri dX9_leftOut_140 ⟨⟨(some B), by rw [show 2 ^ t = S by omega]; exact hu, by (rw [if_pos (by omega)]; rfl)⟩, hfr⟩
          · refine zA_iload dX9_leftOut_130 rfl ?_
            refine zA_goto (tgt := 140) dX9_leftOut_132 rfl ?_
            exact zA_ri dX9_leftOut_140 ⟨⟨(some B), by rw [show 2 ^ t = S by omega]; exact hu, by (rw [if_neg (by omega)]; rfl)⟩, hfr⟩
      · refine zA_iload dX9_leftOut_57 rfl ?_
        refine zA_if_lt (tgt := 75) dX9_leftOut_59 rfl (fun h59 => ?_) (fun h59 => ?_)
        · refine zA_aload_n dX9_leftOut_75 rfl ?_
          refine zA_cVv (st := []) kX9_225 t_110 rfl rfl (c_X9_begin (d + 3) ν) rfl rfl rfl dX9_leftOut_76 (zfit0 (by omega) rfl) (fun μ2 q2 => ?_)
          obtain ⟨qa, qb⟩ := q2
          refine zA_aload_n dX9_leftOut_79 rfl ?_
          refine zA_iconst dX9_leftOut_80 rfl ?_
          refine zA_aload_n dX9_leftOut_81 rfl ?_
          refine zA_getE (w := (t : Int)) fX9_169 t_110 dX9_leftOut_82 (by rw [qb 110 (by decide), hfr 110 (by decide) (by decide)]; exact ht) ?_
          refine zA_iload dX9_leftOut_85 rfl ?_
          refine zA_cVv (st := []) kX9_228 t_110 rfl rfl (c_X9_goOn0 d μ2 n m t t u (S : Int) (hH.keep (by rw [qb 110 (by decide), hfr 110 (by decide) (by decide)]) (by rw [qb 112 (by decide), hfr 112 (by decide) (by decide)]) (by rw [qb 113 (by decide), hfr 113 (by decide) (by decide)])) (by omega) (rOk_congr hn5 hm6 (fun i hi => by rw [qa i hi, hfr 114 (by decide) (by decide)]) hok)) rfl rfl rfl dX9_leftOut_87 (zfit0 (by omega) rfl) (fun μ3 q3 => ?_)
          obtain ⟨ra, rb⟩ := q3
          have hT : μ3 122 x = dRow u n (μ 114 30) (μ 112) (μ 113) (S : Int) (μ 114) t x := by rw [ra, qb 114 (by decide), qb 112 (by decide), qb 113 (by decide), hfr 114 (by decide) (by decide), hfr 112 (by decide) (by decide), hfr 113 (by decide) (by decide)]; exact dRow_congrR hn5 hm6 hdk (fun i hi => by rw [qa i hi, hfr 114 (by decide) (by decide)]) (Nat.le_refl _) x hx30
          have f3 : ∀ k, k ≠ 122 → k ≠ 119 → μ3 k = μ k := fun k k1 k2 => by rw [rb k k1 k2, qb k k1, hfr k k1 k2]
          refine zA_aload_n dX9_leftOut_90 rfl ?_
          refine zA_getR fX9_47 t_110 rfl dX9_leftOut_91 ?_
          refine zA_iconst dX9_leftOut_94 rfl ?_
          refine zA_iload_n dX9_leftOut_95 rfl ?_
          refine zA_imulB dX9_leftOut_96 ⟨by omega, by omega⟩ ?_
          refine zA_iload_n dX9_leftOut_97 rfl ?_
          refine zA_iaddE (w := (x : Int)) dX9_leftOut_98 ⟨by omega, by omega⟩ (by omega) ?_
          refine zA_ialE (w := μ3 122 x) (j := x) t_122 (by omega) (by omega) dX9_leftOut_99 rfl rfl ?_
          refine zA_iload_n dX9_leftOut_100 rfl ?_
          refine zA_icmp_gt (tgt := 109) dX9_leftOut_101 rfl (fun h101 => ?_) (fun h101 => ?_)
          · refine zA_iload dX9_leftOut_109 rfl ?_
            refine zA_istore (ls' := [some (zR 110), some (zI a), some (zI c), some (zI v), some (zI y), some (zI (B : Int)), some (zI (S : Int))]) dX9_leftOut_111 rfl rfl ?_
            refine zA_iincB (ls' := [some (zR 110), some (zI a), some (zI c), some (zI v), some (zI y), some (zI (B : Int)), some (zI ((S : Int) + 1))]) dX9_leftOut_113 rfl rfl ⟨by omega, by omega⟩ rfl ?_
            refine zA_goto (tgt := 46) dX9_leftOut_116 rfl ?_
            have hD : ∀ X, X < S + 1 → X < S ∨ X = S := fun X hX => by omega
            exact ih _ (by omega) (S + 1) (some B) rfl (by omega) (uB_tr hu (uB_no (fun X hX hF => by rw [hX] at hF; unfold lF at hF; rw [← hT] at hF; omega)) hD (fun X hX => by omega) (fun X hX => by omega)) μ3 f3
          · refine zA_iload dX9_leftOut_104 rfl ?_
            refine zA_goto (tgt := 111) dX9_leftOut_106 rfl ?_
            refine zA_istore (ls' := [some (zR 110), some (zI a), some (zI c), some (zI v), some (zI y), some (zI (S : Int)), some (zI (S : Int))]) dX9_leftOut_111 rfl rfl ?_
            refine zA_iincB (ls' := [some (zR 110), some (zI a), some (zI c), some (zI v), some (zI y), some (zI (S : Int)), some (zI ((S : Int) + 1))]) dX9_leftOut_113 rfl rfl ⟨by omega, by omega⟩ rfl ?_
            refine zA_goto (tgt := 46) dX9_leftOut_116 rfl ?_
            have hD : ∀ X, X < S + 1 → X < S ∨ X = S := fun X hX => by omega
            exact ih _ (by omega) (S + 1) (some S) rfl (by omega) (uB_tr hu (uB_take (by unfold lF; rw [← hT]; omega) (fun C hC => by cases hC; unfold bt; omega)) hD (fun X hX => by omega) (fun X hX => by omega)) μ3 f3
        · refine zA_iload dX9_leftOut_62 rfl ?_
          refine zA_cSi (st := []) kX9_256 (c_X9_pop (d + 3) S ν) rfl rfl rfl dX9_leftOut_64 (zfit0 (by omega) rfl) (fun v4 μ4 q4 => ?_)
          obtain ⟨rfl, rfl⟩ := q4
          refine zA_iload dX9_leftOut_67 rfl ?_
          refine zA_cSi (st := [zI ((pop S : Int))]) kX9_256 (c_X9_pop (d + 3) B ν) rfl rfl rfl dX9_leftOut_69 (zfit0 (by omega) rfl) (fun v5 μ5 q5 => ?_)
          obtain ⟨rfl, rfl⟩ := q5
          refine zA_icmp_ge (tgt := 113) dX9_leftOut_72 rfl (fun h72 => ?_) (fun h72 => ?_)
          · refine zA_iincB (ls' := [some (zR 110), some (zI a), some (zI c), some (zI v), some (zI y), some (zI (B : Int)), some (zI ((S : Int) + 1))]) dX9_leftOut_113 rfl rfl ⟨by omega, by omega⟩ rfl ?_
            refine zA_goto (tgt := 46) dX9_leftOut_116 rfl ?_
            have hD : ∀ X, X < S + 1 → X < S ∨ X = S := fun X hX => by omega
            exact ih _ (by omega) (S + 1) (some B) rfl (by omega) (uB_tr hu (uB_no (fun X hX _ => ⟨B, rfl, by rw [hX]; unfold bt; omega⟩)) hD (fun X hX => by omega) (fun X hX => by omega)) ν hfr
          · refine zA_aload_n dX9_leftOut_75 rfl ?_
            refine zA_cVv (st := []) kX9_225 t_110 rfl rfl (c_X9_begin (d + 3) ν) rfl rfl rfl dX9_leftOut_76 (zfit0 (by omega) rfl) (fun μ6 q6 => ?_)
            obtain ⟨qa, qb⟩ := q6
            refine zA_aload_n dX9_leftOut_79 rfl ?_
            refine zA_iconst dX9_leftOut_80 rfl ?_
            refine zA_aload_n dX9_leftOut_81 rfl ?_
            refine zA_getE (w := (t : Int)) fX9_169 t_110 dX9_leftOut_82 (by rw [qb 110 (by decide), hfr 110 (by decide) (by decide)]; exact ht) ?_
            refine zA_iload dX9_leftOut_85 rfl ?_
            refine zA_cVv (st := []) kX9_228 t_110 rfl rfl (c_X9_goOn0 d μ6 n m t t u (S : Int) (hH.keep (by rw [qb 110 (by decide), hfr 110 (by decide) (by decide)]) (by rw [qb 112 (by decide), hfr 112 (by decide) (by decide)]) (by rw [qb 113 (by decide), hfr 113 (by decide) (by decide)])) (by omega) (rOk_congr hn5 hm6 (fun i hi => by rw [qa i hi, hfr 114 (by decide) (by decide)]) hok)) rfl rfl rfl dX9_leftOut_87 (zfit0 (by omega) rfl) (fun μ7 q7 => ?_)
            obtain ⟨ra, rb⟩ := q7
            have hT : μ7 122 x = dRow u n (μ 114 30) (μ 112) (μ 113) (S : Int) (μ 114) t x := by rw [ra, qb 114 (by decide), qb 112 (by decide), qb 113 (by decide), hfr 114 (by decide) (by decide), hfr 112 (by decide) (by decide), hfr 113 (by decide) (by decide)]; exact dRow_congrR hn5 hm6 hdk (fun i hi => by rw [qa i hi, hfr 114 (by decide) (by decide)]) (Nat.le_refl _) x hx30
            have f3 : ∀ k, k ≠ 122 → k ≠ 119 → μ7 k = μ k := fun k k1 k2 => by rw [rb k k1 k2, qb k k1, hfr k k1 k2]
            refine zA_aload_n dX9_leftOut_90 rfl ?_
            refine zA_getR fX9_47 t_110 rfl dX9_leftOut_91 ?_
            refine zA_iconst dX9_leftOut_94 rfl ?_
            refine zA_iload_n dX9_leftOut_95 rfl ?_
            refine zA_imulB dX9_leftOut_96 ⟨by omega, by omega⟩ ?_
            refine zA_iload_n dX9_leftOut_97 rfl ?_
            refine zA_iaddE (w := (x : Int)) dX9_leftOut_98 ⟨by omega, by omega⟩ (by omega) ?_
            refine zA_ialE (w := μ7 122 x) (j := x) t_122 (by omega) (by omega) dX9_leftOut_99 rfl rfl ?_
            refine zA_iload_n dX9_leftOut_100 rfl ?_
            refine zA_icmp_gt (tgt := 109) dX9_leftOut_101 rfl (fun h101 => ?_) (fun h101 => ?_)
            · refine zA_iload dX9_leftOut_109 rfl ?_
              refine zA_istore (ls' := [some (zR 110), some (zI a), some (zI c), some (zI v), some (zI y), some (zI (B : Int)), some (zI (S : Int))]) dX9_leftOut_111 rfl rfl ?_
              refine zA_iincB (ls' := [some (zR 110), some (zI a), some (zI c), some (zI v), some (zI y), some (zI (B : Int)), some (zI ((S : Int) + 1))]) dX9_leftOut_113 rfl rfl ⟨by omega, by omega⟩ rfl ?_
              refine zA_goto (tgt := 46) dX9_leftOut_116 rfl ?_
              have hD : ∀ X, X < S + 1 → X < S ∨ X = S := fun X hX => by omega
              exact ih _ (by omega) (S + 1) (some B) rfl (by omega) (uB_tr hu (uB_no (fun X hX hF => by rw [hX] at hF; unfold lF at hF; rw [← hT] at hF; omega)) hD (fun X hX => by omega) (fun X hX => by omega)) μ7 f3
            · refine zA_iload dX9_leftOut_104 rfl ?_
              refine zA_goto (tgt := 111) dX9_leftOut_106 rfl ?_
              refine zA_istore (ls' := [some (zR 110), some (zI a), some (zI c), some (zI v), some (zI y), some (zI (S : Int)), some (zI (S : Int))]) dX9_leftOut_111 rfl rfl ?_
              refine zA_iincB (ls' := [some (zR 110), some (zI a), some (zI c), some (zI v), some (zI y), some (zI (S : Int)), some (zI ((S : Int) + 1))]) dX9_leftOut_113 rfl rfl ⟨by omega, by omega⟩ rfl ?_
              refine zA_goto (tgt := 46) dX9_leftOut_116 rfl ?_
              have hD : ∀ X, X < S + 1 → X < S ∨ X = S := fun X hX => by omega
              exact ih _ (by omega) (S + 1) (some S) rfl (by omega) (uB_tr hu (uB_take (by unfold lF; rw [← hT]; omega) (fun C hC => by cases hC; unfold bt; omega)) hD (fun X hX => by omega) (fun X hX => by omega)) μ7 f3
theorem c_X9_leftOut (d : Nat) (μ : zM) (n m t : Nat) (u a c v y : Int) (hH : zMs μ n m t u) (hok : rOk n m (μ 114)) : zMet (d + 5) 0 yX9_leftOut cX9_leftOut 7 (some .int) TF μ [zR 110, zI a, zI c, zI v, zI y] (zPi (fun r ν => (fun r => (¬ ((0 ≤ a ∧ a < m) ∧ (0 ≤ c ∧ c < n)) ∧ r = -1000000001) ∨ (((0 ≤ a ∧ a < m) ∧ (0 ≤ c ∧ c < n)) ∧ ¬ ((0 ≤ v ∧ v ≤ 60) ∧ (0 ≤ y ∧ y ≤ 1)) ∧ r = -1000000002) ∨ (((0 ≤ a ∧ a < m) ∧ (0 ≤ c ∧ c < n)) ∧ ((0 ≤ v ∧ v ≤ 60) ∧ (0 ≤ y ∧ y ≤ 1)) ∧ ∃ o, uB (lF u n (μ 114 30) (μ 112) (μ 113) (μ 114) t (5 * a + c).toNat v) (fun S => S < 2 ^ t) none o ∧ r = (if y = 0 then fE o else fL o))) r ∧ qM μ ν)) := by
  have hH0 := hH
  obtain ⟨hn, hu, hm, ht, hn5, hm6, ht10, hu1, hdk⟩ := hH0
  refine zMi_of RX9 rfl (by decide) rfl (ls := [some (zR 110), some (zI a), some (zI c), some (zI v), some (zI y), none, none]) rfl (fun hok0 => ?_)
  refine zA_aload_n dX9_leftOut_0 rfl ?_
  refine zA_iload_n dX9_leftOut_1 rfl ?_
  refine zA_cVb (st := []) kX9_187 t_110 rfl rfl (c_X9_isCoat (d + 2) a μ (by omega)) rfl rfl rfl dX9_leftOut_2 (zfit0 (by omega) rfl) (fun v1 μ1 q1 => ?_)
  obtain ⟨ba, rfl⟩ := q1
  rw [hm] at ba
  refine zA_ifb_eq (tgt := 16) dX9_leftOut_5 rfl (fun h5 => ?_) (fun h5 => ?_)
  · refine zA_ldc cX9_194 dX9_leftOut_16 rfl ?_
    exact zA_ri dX9_leftOut_18 ⟨Or.inl ⟨fun q => by first | (have := ba.mpr q.1; simp_all; done) | (have := bc.mpr q.2; simp_all; done), rfl⟩, qM.refl _⟩
  · refine zA_aload_n dX9_leftOut_8 rfl ?_
    refine zA_iload_n dX9_leftOut_9 rfl ?_
    refine zA_cVb (st := []) kX9_191 t_110 rfl rfl (c_X9_isColour (d + 2) c μ (by omega)) rfl rfl rfl dX9_leftOut_10 (zfit0 (by omega) rfl) (fun v2 μ2 q2 => ?_)
    obtain ⟨bc, rfl⟩ := q2
    rw [hn] at bc
    refine zA_ifb_ne (tgt := 19) dX9_leftOut_13 rfl (fun h13 => ?_) (fun h13 => ?_)
    · have hb := And.intro (ba.mp (by simpa using h5)) (bc.mp (by simpa using h13))
      refine zA_iload_n dX9_leftOut_19 rfl ?_
      refine zA_cSb (st := []) kX9_249 (c_X9_isParts (d + 2) v μ) rfl rfl rfl dX9_leftOut_20 (zfit0 (by omega) rfl) (fun v3 μ3 q3 => ?_)
      obtain ⟨b2, rfl⟩ := q3
      refine zA_ifb_eq (tgt := 37) dX9_leftOut_23 rfl (fun h23 => ?_) (fun h23 => ?_)
      · refine zA_ldc cX9_89 dX9_leftOut_37 rfl ?_
        exact zA_ri dX9_leftOut_39 ⟨Or.inr (Or.inl ⟨hb, fun q => by first | (have := b2.mpr q.1; simp_all; done) | (have := b4.mpr q.2; simp_all; done), rfl⟩), qM.refl _⟩
      · refine zA_iload dX9_leftOut_26 rfl ?_
        refine zA_i2l dX9_leftOut_28 ?_
        refine zA_lconst (v := 0) dX9_leftOut_29 rfl rfl ?_
        refine zA_lconst (v := 1) dX9_leftOut_30 rfl rfl ?_
        refine zA_cSb (st := []) kX9_81 (c_X9_in (d + 3) y 0 1 μ) rfl rfl rfl dX9_leftOut_31 (zfit0 (by omega) rfl) (fun v4 μ4 q4 => ?_)
        obtain ⟨b4, rfl⟩ := q4
        refine zA_ifb_ne (tgt := 40) dX9_leftOut_34 rfl (fun h34 => ?_) (fun h34 => ?_)
        · have hv : (0 ≤ v ∧ v ≤ 60) ∧ (0 ≤ y ∧ y ≤ 1) := ⟨b2.mp (by simpa using h23), b4.mp (by simpa using h34)⟩
          refine zA_iconst dX9_leftOut_40 rfl ?_
          refine zA_istore (ls' := [some (zR 110), some (zI a), some (zI c), some (zI v), some (zI y), some (zI (-1)), none]) dX9_leftOut_41 rfl rfl ?_
          refine zA_iconst dX9_leftOut_43 rfl ?_
          refine zA_istore (ls' := [some (zR 110), some (zI a), some (zI c), some (zI v), some (zI y), some (zI (-1)), some (zI 0)]) dX9_leftOut_44 rfl rfl ?_
          exact zAi_mono (l_X9_leftOut d μ n m t (5 * a + c).toNat u a c v y hH hok (by omega) (by omega) (by omega) (by omega) hv.2 _ 0 none rfl (Nat.zero_le _) (uB_no (fun S hS => by omega)) μ (fun _ _ _ => rfl)) (fun r ξ h => ⟨Or.inr (Or.inr ⟨hb, hv, h.1⟩), ⟨fun k _ h2 _ h4 _ _ => h.2 k h4 h2, fun i _ _ => by rw [h.2 110 (by decide) (by decide)]⟩⟩)
        · refine zA_ldc cX9_89 dX9_leftOut_37 rfl ?_
          exact zA_ri dX9_leftOut_39 ⟨Or.inr (Or.inl ⟨hb, fun q => by first | (have := b2.mpr q.1; simp_all; done) | (have := b4.mpr q.2; simp_all; done), rfl⟩), qM.refl _⟩
    · refine zA_ldc cX9_194 dX9_leftOut_16 rfl ?_
      exact zA_ri dX9_leftOut_18 ⟨Or.inl ⟨fun q => by first | (have := ba.mpr q.1; simp_all; done) | (have := bc.mpr q.2; simp_all; done), rfl⟩, qM.refl _⟩
theorem pr_leftOut (μ : zM) (a c v y : Int) (n m t : Nat) (u : Int) (hI : zInv μ n m t u) : zPair yX8_leftOut cX8_leftOut 5 yX9_leftOut cX9_leftOut 7 [zI a, zI c, zI v, zI y] μ := by
  obtain ⟨hn, hu, hm, ht0, hn5, hm6, ht10, hu1, hdk⟩ := hI.1.1
  have hg : μ 52 1 = μ 114 30 := hI.2.1.2.2.1
  refine zPair_r hI _ (fun r => (¬ ((0 ≤ a ∧ a < m) ∧ (0 ≤ c ∧ c < n)) ∧ r = -1000000001) ∨ (((0 ≤ a ∧ a < m) ∧ (0 ≤ c ∧ c < n)) ∧ ¬ ((0 ≤ v ∧ v ≤ 60) ∧ (0 ≤ y ∧ y ≤ 1)) ∧ r = -1000000002) ∨ (((0 ≤ a ∧ a < m) ∧ (0 ≤ c ∧ c < n)) ∧ ((0 ≤ v ∧ v ≤ 60) ∧ (0 ≤ y ∧ y ≤ 1)) ∧ ∃ o, uB (lF u n (μ 114 30) (μ 112) (μ 113) (μ 114) t (5 * a + c).toNat v) (fun S => S < 2 ^ t) none o ∧ r = (if y = 0 then fE o else fL o))) (fun r w h1 h2 => ?_) (c_X8_leftOut 3 μ n m t u a c v y hI.1.1 hI.2.1.2.1) (fun ν hq hν => zMi_mono (c_X9_leftOut 15 ν n m t u a c v y hν.1.2.1 hν.mrow) (fun w ξ h => ?_))
  · rcases h1 with ⟨a1, rfl⟩ | ⟨a1, a2, rfl⟩ | ⟨a1, a2, o, uo, rfl⟩
    · rcases h2 with ⟨b1, rfl⟩ | ⟨b1, b2, rfl⟩ | ⟨b1, b2, o', uo', rfl⟩
      · rfl
      · exact absurd b1 a1
      · exact absurd b1 a1
    · rcases h2 with ⟨b1, rfl⟩ | ⟨b1, b2, rfl⟩ | ⟨b1, b2, o', uo', rfl⟩
      · exact absurd a1 b1
      · rfl
      · exact absurd b2 a2
    · rcases h2 with ⟨b1, rfl⟩ | ⟨b1, b2, rfl⟩ | ⟨b1, b2, o', uo', rfl⟩
      · exact absurd a1 b1
      · exact absurd a2 b2
      · have hF : ∀ S, S < 2 ^ t → ((lF u n (μ 52 1) (μ 3) (μ 4) (μ 53) t (5 * a + c).toNat v) S ↔ (lF u n (μ 114 30) (μ 112) (μ 113) (μ 114) t (5 * a + c).toNat v) S) := fun S hS => by
          unfold lF
          rw [hg, dRow_congrL hn5 hdk (fun k hk => (hI.1.2.2.2.2.2.1 k hk).1) (fun k hk => (hI.1.2.2.2.2.2.1 k hk).2) hI.row t (Nat.le_refl _) _ (by omega)]
        rw [uB_uni (uB_F hF uo) uo']
  · rw [hq 114 (by unfold cScr; omega), hq 112 (by unfold cScr; omega), hq 113 (by unfold cScr; omega)] at h
    exact h
