/-! ===== History, and the model's past ===== -/
theorem c_X8_copyPartsR (d a b : Nat) (μ : zM) (ha : znth TF a = some (10, 30, [])) (hb : znth TF b = some (10, 30, [])) : zMet (d + 1) 0 yX8_copyParts cX8_copyParts 2 none TF μ [zR a, zR b] (zPv (fun ν => (∀ i, i < 30 → ν b i = μ a i) ∧ ∀ k, k ≠ b → ν k = μ k)) :=
  zMv_mono (c_X8_copyParts d a b μ ha hb) (fun ν h => by
    subst h
    refine ⟨fun i hi => ?_, fun k hk => ?_⟩
    · unfold zcp
      rw [if_pos ⟨rfl, by omega, by omega⟩, Nat.sub_zero, Nat.zero_add]
    · funext i
      exact if_neg (fun q => hk q.1))
/-- the State at o becomes as the one at s -/
def iCp (μ ν : zM) (o s : Nat) : Prop := (∀ i, i < 30 → ν (o + 1) i = μ (s + 1) i) ∧ ν o 1 = μ s 1 ∧ ν o 2 = μ s 2 ∧ ν o 3 = μ s 3 ∧ ∀ k, k ≠ o → k ≠ o + 1 → ν k = μ k
def zSt (o : Nat) : Prop := znth TF o = some (7, 4, [some (o + 1), none, none, none]) ∧ znth TF (o + 1) = some (10, 30, [])
theorem zSt_52 : zSt 52 := ⟨t_52, t_53⟩
theorem zSt_step {x : Nat} (h : x < 20) : zSt (56 + 2 * x) := ⟨by have := t_step x h; rw [show 57 + 2 * x = 56 + 2 * x + 1 by omega] at this; exact this, by have := t_stepP x h; rw [show 57 + 2 * x = 56 + 2 * x + 1 by omega] at this; exact this⟩
theorem zSt_img {x : Nat} (h : x < 2) : zSt (106 + 2 * x) := ⟨by have := t_image x h; rw [show 107 + 2 * x = 106 + 2 * x + 1 by omega] at this; exact this, by have := t_imageP x h; rw [show 107 + 2 * x = 106 + 2 * x + 1 by omega] at this; exact this⟩
theorem c_X7_become (d o s : Nat) (μ : zM) (ho : zSt o) (hs : zSt s) (hos : o ≠ s) : zMet (d + 2) 0 yX7_become cX7_become 2 none TF μ [zR o, zR s] (zPv (fun ν => iCp μ ν o s)) := by
  have hso : s ≠ o + 1 := zne hs.1 ho.2 (by simp)
  refine zMv_of RX7 rfl (by decide) rfl (ls := [some (zR o), some (zR s)]) rfl (fun hok => ?_)
  refine zA_aload_n dX7_become_0 rfl ?_
  refine zA_getR fX7_9 hs.1 rfl dX7_become_1 ?_
  refine zA_aload_n dX7_become_4 rfl ?_
  refine zA_getR fX7_9 ho.1 rfl dX7_become_5 ?_
  refine zA_cNv (st := []) kX7_15 (c_X8_copyPartsR d (s + 1) (o + 1) μ hs.2 ho.2) rfl rfl rfl dX7_become_8 (zfit0 (by omega) rfl) (fun μ1 q1 => ?_)
  obtain ⟨q1a, q1b⟩ := q1
  refine zA_aload_n dX7_become_11 rfl ?_
  refine zA_aload_n dX7_become_12 rfl ?_
  refine zA_getE (w := μ s 1) fX7_19 hs.1 dX7_become_13 (by rw [q1b s hso]) ?_
  refine zA_putI wX7_19 ho.1 dX7_become_16 ?_
  refine zA_aload_n dX7_become_19 rfl ?_
  refine zA_aload_n dX7_become_20 rfl ?_
  refine zA_getE (w := μ s 2) fX7_23 hs.1 dX7_become_21 (by rw [zup_k (Ne.symm hos)]; exact (by rw [q1b s hso])) ?_
  refine zA_putI wX7_23 ho.1 dX7_become_24 ?_
  refine zA_aload_n dX7_become_27 rfl ?_
  refine zA_aload_n dX7_become_28 rfl ?_
  refine zA_getE (w := μ s 3) fX7_26 hs.1 dX7_become_29 (by rw [zup_k (Ne.symm hos), zup_k (Ne.symm hos)]; exact (by rw [q1b s hso])) ?_
  refine zA_putI wX7_26 ho.1 dX7_become_32 ?_
  refine zA_rv dX7_become_35 ⟨fun i hi => ?_, ?_, ?_, ?_, fun k h1 h2 => ?_⟩
  · rw [zup_k (by omega), zup_k (by omega), zup_k (by omega)]
    exact q1a i hi
  · rw [zup_n (fun q => by omega), zup_n (fun q => by omega), zup_s]
  · rw [zup_n (fun q => by omega), zup_s]
  · rw [zup_s]
  · rw [← q1b k h2]
    funext i
    rw [zup_k h1, zup_k h1, zup_k h1]
theorem c_X1_remember (d x z : Nat) (μ : zM) (hx : x < 20) (hz : z ≤ 20) (hx1 : μ 54 1 = x) (hz1 : μ 54 2 = z) : zMet (d + 3) 0 yX1_remember cX1_remember 2 none TF μ [zR 54, zR 52] (zPv (fun ν => (∀ i, i < 30 → ν (56 + 2 * x + 1) i = μ 53 i) ∧ ν (56 + 2 * x) 1 = μ 52 1 ∧ ν (56 + 2 * x) 2 = μ 52 2 ∧ ν (56 + 2 * x) 3 = μ 52 3 ∧ (∀ k, k ≠ 54 → k ≠ 56 + 2 * x → k ≠ 56 + 2 * x + 1 → ν k = μ k) ∧ ν 54 1 = (((x + 1) % 20 : Nat) : Int) ∧ ν 54 2 = ((if z < 20 then z + 1 else 20 : Nat) : Int))) := by
  refine zMv_of RX1 rfl (by decide) rfl (ls := [some (zR 54), some (zR 52)]) rfl (fun hok => ?_)
  refine zA_aload_n dX1_remember_0 rfl ?_
  refine zA_getR fX1_11 t_54 rfl dX1_remember_1 ?_
  refine zA_aload_n dX1_remember_4 rfl ?_
  refine zA_getE (w := (x : Int)) fX1_18 t_54 dX1_remember_5 hx1 ?_
  refine zA_aaldS (k' := 56 + 2 * x) t_55 (by omega) (by omega) (t_steps x hx) dX1_remember_8 ?_
  refine zA_aload_n dX1_remember_9 rfl ?_
  refine zA_cVv (st := []) kX1_22 (zSt_step hx).1 rfl rfl (c_X7_become d (56 + 2 * x) 52 μ (zSt_step hx) zSt_52 (by omega)) rfl rfl rfl dX1_remember_10 (zfit0 (by omega) rfl) (fun μ1 q1 => ?_)
  refine zA_aload_n dX1_remember_13 rfl ?_
  refine zA_aload_n dX1_remember_14 rfl ?_
  refine zA_getE (w := (x : Int)) fX1_18 t_54 dX1_remember_15 (by rw [q1.2.2.2.2 54 (by omega) (by omega)]; exact hx1) ?_
  refine zA_iconst dX1_remember_18 rfl ?_
  refine zA_iaddB dX1_remember_19 ⟨by omega, by omega⟩ ?_
  refine zA_bipush dX1_remember_20 rfl ?_
  refine zA_icmp_ge (tgt := 34) dX1_remember_22 rfl (fun h22 => ?_) (fun h22 => ?_)
  · refine zA_iconst dX1_remember_34 rfl ?_
    refine zA_putI wX1_18 t_54 dX1_remember_35 ?_
    refine zA_aload_n dX1_remember_38 rfl ?_
    refine zA_aload_n dX1_remember_39 rfl ?_
    refine zA_getE (w := (z : Int)) fX1_26 t_54 dX1_remember_40 (by rw [zup_n (by decide)]; exact (by rw [q1.2.2.2.2 54 (by omega) (by omega)]; exact hz1)) ?_
    refine zA_iconst dX1_remember_43 rfl ?_
    refine zA_iaddB dX1_remember_44 ⟨by omega, by omega⟩ ?_
    refine zA_bipush dX1_remember_45 rfl ?_
    refine zA_min kX1_29 kmn_st kma_in kmn_c dX1_remember_47 (by show 1 ≤ d + 3; omega) (by show _ ≤ 100 * (d + 3); simp only [zcat]; omega) (Nat.zero_le _) (Nat.zero_le _) ?_
    refine zA_putI wX1_26 t_54 dX1_remember_50 ?_
    refine zA_rv dX1_remember_53 ⟨fun i hi => ?_, ?_, ?_, ?_, fun k h1 h2 h3 => ?_, ?_, ?_⟩
    · rw [zup_k (by omega), zup_k (by omega)]
      exact q1.1 i hi
    · rw [zup_k (by omega), zup_k (by omega)]
      exact q1.2.1
    · rw [zup_k (by omega), zup_k (by omega)]
      exact q1.2.2.1
    · rw [zup_k (by omega), zup_k (by omega)]
      exact q1.2.2.2.1
    · rw [← q1.2.2.2.2 k h2 h3]
      funext i
      rw [zup_k h1, zup_k h1]
    · rw [zup_n (by decide), zup_s]
      omega
    · rw [zup_s]
      split <;> split <;> omega
  · refine zA_aload_n dX1_remember_25 rfl ?_
    refine zA_getE (w := (x : Int)) fX1_18 t_54 dX1_remember_26 (by rw [q1.2.2.2.2 54 (by omega) (by omega)]; exact hx1) ?_
    refine zA_iconst dX1_remember_29 rfl ?_
    refine zA_iaddB dX1_remember_30 ⟨by omega, by omega⟩ ?_
    refine zA_goto (tgt := 35) dX1_remember_31 rfl ?_
    refine zA_putI wX1_18 t_54 dX1_remember_35 ?_
    refine zA_aload_n dX1_remember_38 rfl ?_
    refine zA_aload_n dX1_remember_39 rfl ?_
    refine zA_getE (w := (z : Int)) fX1_26 t_54 dX1_remember_40 (by rw [zup_n (by decide)]; exact (by rw [q1.2.2.2.2 54 (by omega) (by omega)]; exact hz1)) ?_
    refine zA_iconst dX1_remember_43 rfl ?_
    refine zA_iaddB dX1_remember_44 ⟨by omega, by omega⟩ ?_
    refine zA_bipush dX1_remember_45 rfl ?_
    refine zA_min kX1_29 kmn_st kma_in kmn_c dX1_remember_47 (by show 1 ≤ d + 3; omega) (by show _ ≤ 100 * (d + 3); simp only [zcat]; omega) (Nat.zero_le _) (Nat.zero_le _) ?_
    refine zA_putI wX1_26 t_54 dX1_remember_50 ?_
    refine zA_rv dX1_remember_53 ⟨fun i hi => ?_, ?_, ?_, ?_, fun k h1 h2 h3 => ?_, ?_, ?_⟩
    · rw [zup_k (by omega), zup_k (by omega)]
      exact q1.1 i hi
    · rw [zup_k (by omega), zup_k (by omega)]
      exact q1.2.1
    · rw [zup_k (by omega), zup_k (by omega)]
      exact q1.2.2.1
    · rw [zup_k (by omega), zup_k (by omega)]
      exact q1.2.2.2.1
    · rw [← q1.2.2.2.2 k h2 h3]
      funext i
      rw [zup_k h1, zup_k h1]
    · rw [zup_n (by decide), zup_s]
      omega
    · rw [zup_s]
      split <;> split <;> omega
theorem c_X1_takeBack (d x z : Nat) (μ : zM) (hx : x < 20) (hz : z ≤ 20) (hz0 : 0 < z) (hx1 : μ 54 1 = x) (hz1 : μ 54 2 = z) : zMet (d + 3) 0 yX1_takeBack cX1_takeBack 2 none TF μ [zR 54, zR 52] (zPv (fun ν => (∀ i, i < 30 → ν 53 i = μ (56 + 2 * ((x + 19) % 20) + 1) i) ∧ ν 52 1 = μ (56 + 2 * ((x + 19) % 20)) 1 ∧ ν 52 2 = μ (56 + 2 * ((x + 19) % 20)) 2 ∧ ν 52 3 = μ (56 + 2 * ((x + 19) % 20)) 3 ∧ (∀ k, k ≠ 54 → k ≠ 52 → k ≠ 53 → ν k = μ k) ∧ ν 54 1 = (((x + 19) % 20 : Nat) : Int) ∧ ν 54 2 = (z : Int) - 1)) := by
  have hy : (x + 19) % 20 < 20 := Nat.mod_lt _ (by decide)
  refine zMv_of RX1 rfl (by decide) rfl (ls := [some (zR 54), some (zR 52)]) rfl (fun hok => ?_)
  have hk : zA RX1 cX1_takeBack 2 (zRm (d + 3) 0) zN0 TF 0 μ 26 [some (zR 54), some (zR 52)] [zI ((((x + 19) % 20 : Nat) : Int)), zR 54] (zPv (fun ν => (∀ i, i < 30 → ν 53 i = μ (56 + 2 * ((x + 19) % 20) + 1) i) ∧ ν 52 1 = μ (56 + 2 * ((x + 19) % 20)) 1 ∧ ν 52 2 = μ (56 + 2 * ((x + 19) % 20)) 2 ∧ ν 52 3 = μ (56 + 2 * ((x + 19) % 20)) 3 ∧ (∀ k, k ≠ 54 → k ≠ 52 → k ≠ 53 → ν k = μ k) ∧ ν 54 1 = (((x + 19) % 20 : Nat) : Int) ∧ ν 54 2 = (z : Int) - 1)) := by
    refine zA_putI wX1_18 t_54 dX1_takeBack_26 ?_
    refine zA_aload_n dX1_takeBack_29 rfl ?_
    refine zA_aload_n dX1_takeBack_30 rfl ?_
    refine zA_getR fX1_11 t_54 rfl dX1_takeBack_31 ?_
    refine zA_aload_n dX1_takeBack_34 rfl ?_
    refine zA_getE (w := (((x + 19) % 20 : Nat) : Int)) fX1_18 t_54 dX1_takeBack_35 (by rw [zup_s]) ?_
    refine zA_aaldS (k' := 56 + 2 * ((x + 19) % 20)) t_55 (by omega) (by omega) (t_steps _ hy) dX1_takeBack_38 ?_
    refine zA_cVv (st := []) kX1_22 t_52 rfl rfl (c_X7_become d 52 (56 + 2 * ((x + 19) % 20)) (zup μ 54 1 (((x + 19) % 20 : Nat) : Int)) zSt_52 (zSt_step hy) (by omega)) rfl rfl rfl dX1_takeBack_39 (zfit0 (by omega) rfl) (fun μ1 q1 => ?_)
    refine zA_aload_n dX1_takeBack_42 rfl ?_
    refine zA_dup dX1_takeBack_43 rfl ?_
    refine zA_getE (w := (z : Int)) fX1_26 t_54 dX1_takeBack_44 (by rw [q1.2.2.2.2 54 (by decide) (by decide), zup_n (by decide)]; exact hz1) ?_
    refine zA_iconst dX1_takeBack_47 rfl ?_
    refine zA_isubB dX1_takeBack_48 ⟨by omega, by omega⟩ ?_
    refine zA_putI wX1_26 t_54 dX1_takeBack_49 ?_
    refine zA_rv dX1_takeBack_52 ⟨fun i hi => ?_, ?_, ?_, ?_, fun k h1 h2 h3 => ?_, ?_, ?_⟩
    · rw [zup_k (by decide), q1.1 i hi, zup_k (by omega)]
    · rw [zup_k (by decide), q1.2.1, zup_k (by omega)]
    · rw [zup_k (by decide), q1.2.2.1, zup_k (by omega)]
    · rw [zup_k (by decide), q1.2.2.2.1, zup_k (by omega)]
    · funext i
      rw [zup_k h1, q1.2.2.2.2 k h2 h3, zup_k h1]
    · rw [zup_n (by decide), q1.2.2.2.2 54 (by decide) (by decide), zup_s]
    · rw [zup_s]
  refine zA_aload_n dX1_takeBack_0 rfl ?_
  refine zA_getE (w := (z : Int)) fX1_26 t_54 dX1_takeBack_1 hz1 ?_
  refine zA_if_le (tgt := 52) dX1_takeBack_4 rfl (fun h4 => False.elim (by omega)) fun h4 => ?_
  refine zA_aload_n dX1_takeBack_7 rfl ?_
  refine zA_aload_n dX1_takeBack_8 rfl ?_
  refine zA_getE (w := (x : Int)) fX1_18 t_54 dX1_takeBack_9 hx1 ?_
  refine zA_if_le (tgt := 24) dX1_takeBack_12 rfl (fun h12 => ?_) (fun h12 => ?_)
  · refine zA_bipush dX1_takeBack_24 rfl ?_
    refine zA_eq (st' := [zI (((x + 19) % 20 : Nat) : Int), zR 54]) (by rw [show (19 : Int) = (((x + 19) % 20 : Nat) : Int) by omega]) ?_
    exact hk
  · refine zA_aload_n dX1_takeBack_15 rfl ?_
    refine zA_getE (w := (x : Int)) fX1_18 t_54 dX1_takeBack_16 hx1 ?_
    refine zA_iconst dX1_takeBack_19 rfl ?_
    refine zA_isubB dX1_takeBack_20 ⟨by omega, by omega⟩ ?_
    refine zA_goto (tgt := 26) dX1_takeBack_21 rfl ?_
    refine zA_eq (st' := [zI (((x + 19) % 20 : Nat) : Int), zR 54]) (by rw [show ((x : Int) - 1 : Int) = (((x + 19) % 20 : Nat) : Int) by omega]) ?_
    exact hk
