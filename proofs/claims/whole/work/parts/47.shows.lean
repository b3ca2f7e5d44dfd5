/-! ===== questions of the day: shows, alike, trail ===== -/
theorem dRow0 {u : Int} {n : Nat} {g : Int} {f s : Nat → Int} {row : Nat → Int} {k : Nat} (hk : k < 31) : dRow u n g f s 0 row (k + 1) = xchG u n (dRow u n g f s 0 row k) g (f k).toNat (s k).toNat := by
  simp only [dRow]
  rw [if_neg (by rw [zbit_z k hk]; decide)]
/-- the class tries: its tried row is k touches further than R, all else but scratch is as before -/
def cTr (μ ν : zM) (n : Nat) (u : Int) (R : Nat → Int) (k : Nat) : Prop := ν 104 = dRow u n (μ 52 1) (μ 3) (μ 4) 0 R k ∧ ∀ k, k ≠ 104 → k ≠ 105 → k ≠ 5 → k ≠ 6 → k ≠ 7 → ν k = μ k
theorem cTr.qc {μ ν : zM} {n : Nat} {u : Int} {R : Nat → Int} {k : Nat} (h : cTr μ ν n u R k) : qC μ ν := fun k hk => h.2 k (fun e => hk (by unfold cScr; omega)) (fun e => hk (by unfold cScr; omega)) (fun e => hk (by unfold cScr; omega)) (fun e => hk (by unfold cScr; omega)) (fun e => hk (by unfold cScr; omega))
theorem cTr.zHs {μ ν : zM} {n m t : Nat} {u : Int} {R : Nat → Int} {k : Nat} (h : cTr μ ν n u R k) (hH : zHs μ n m t u) : zHs ν n m t u := hH.keep (h.2 1 (by decide) (by decide) (by decide) (by decide) (by decide)) (h.2 3 (by decide) (by decide) (by decide) (by decide) (by decide)) (h.2 4 (by decide) (by decide) (by decide) (by decide) (by decide))
theorem cTr.step {μ ν ξ : zM} {n m t : Nat} {u : Int} {R : Nat → Int} {k : Nat} (h : cTr μ ν n u R k) (hk : k < 31) (q : ξ 104 = xchG u n (ν 104) (μ 52 1) (ν 3 k).toNat (ν 4 k).toNat ∧ ∀ k, k ≠ 104 → k ≠ 5 → k ≠ 6 → k ≠ 7 → ξ k = ν k) : cTr μ ξ n u R (k + 1) := by
  refine ⟨?_, fun j h1 h1b h2 h3 h4 => by rw [q.2 j h1 h2 h3 h4, h.2 j h1 h1b h2 h3 h4]⟩
  rw [q.1, h.1, h.2 3 (by decide) (by decide) (by decide) (by decide) (by decide), h.2 4 (by decide) (by decide) (by decide) (by decide) (by decide), dRow0 hk]
/-- the model tries -/
def mTr (μ ν : zM) (n : Nat) (u : Int) (R : Nat → Int) (k : Nat) : Prop := ν 122 = dRow u n (μ 114 30) (μ 112) (μ 113) 0 R k ∧ ∀ k, k ≠ 122 → k ≠ 119 → k ≠ 123 → ν k = μ k
theorem mTr.qm {μ ν : zM} {n : Nat} {u : Int} {R : Nat → Int} {k : Nat} (h : mTr μ ν n u R k) : qM μ ν := ⟨fun k _ h2 _ h4 h5 _ => h.2 k h4 h2 h5, fun i _ _ => by rw [h.2 110 (by decide) (by decide) (by decide)]⟩
theorem mTr.zMs {μ ν : zM} {n m t : Nat} {u : Int} {R : Nat → Int} {k : Nat} (h : mTr μ ν n u R k) (hH : zMs μ n m t u) : zMs ν n m t u := hH.keep (h.2 110 (by decide) (by decide) (by decide)) (h.2 112 (by decide) (by decide) (by decide)) (h.2 113 (by decide) (by decide) (by decide))
theorem mTr.step {μ ν ξ : zM} {n m t : Nat} {u : Int} {R : Nat → Int} {k : Nat} (h : mTr μ ν n u R k) (hk : k < 31) (q : ξ 122 = dSeg u n (ν 114 30) (ν 112) (ν 113) 0 (ν 122) k 1 ∧ ∀ k, k ≠ 122 → k ≠ 119 → ξ k = ν k) : mTr μ ξ n u R (k + 1) := by
  refine ⟨?_, fun j h1 h2 h3 => by rw [q.2 j h1 h2, h.2 j h1 h2 h3]⟩
  rw [q.1, h.1, h.2 114 (by decide) (by decide) (by decide), h.2 112 (by decide) (by decide) (by decide), h.2 113 (by decide) (by decide) (by decide), dRow0 hk]
  simp only [dSeg, dStep, Nat.add_zero]
  rw [if_neg (by rw [zbit_z k hk]; decide)]
/-- both tries agree, on the first 30 places -/
theorem tr_eq {μ : zM} {n m t : Nat} {u : Int} (hI : zInv μ n m t u) {R R' : Nat → Int} (hR : ∀ i, lv n m i → R i = R' i) {k : Nat} (hk : k ≤ t) : ∀ i, lv n m i → dRow u n (μ 52 1) (μ 3) (μ 4) 0 R k i = dRow u n (μ 114 30) (μ 112) (μ 113) 0 R' k i := by
  obtain ⟨hn, hu, hm, ht0, hn5, hm6, ht10, hu1, hdk⟩ := hI.1.1
  have hg : μ 52 1 = μ 114 30 := hI.2.1.2.2.1
  rw [hg]
  exact dRow_congrL hn5 hdk (fun k hk => (hI.1.2.2.2.2.2.1 k hk).1) (fun k hk => (hI.1.2.2.2.2.2.1 k hk).2) hR k hk
theorem zInv.row {μ : zM} {n m t : Nat} {u : Int} (hI : zInv μ n m t u) : ∀ i, lv n m i → μ 53 i = μ 114 i := fun i hi => by have := hI.2.1.1 i hi; rw [Nat.zero_add] at this; exact this
theorem zInv.mrow {μ : zM} {n m t : Nat} {u : Int} (hI : zInv μ n m t u) : rOk n m (μ 114) := rOk_congrL hI.1.1.2.2.2.2.1 hI.row hI.2.1.2.1
theorem l_X8_shows (d : Nat) (μ : zM) (n m t : Nat) (u : Int) (R : Nat → Int) (hH : zHs μ n m t u) (hR : rOk n m R) (a c : Int) (k : Nat) (ha : 0 ≤ a ∧ a < m) (hc : 0 ≤ c ∧ c < n) (hkt : k ≤ t) : ∀ (t0 j : Nat), k - j = t0 → j ≤ k → ∀ ν : zM, cTr μ ν n u R j → zA RX8 cX8_shows 5 (zRm (d + 5) 0) zN0 TF 0 ν 50 [some (zR 0), some (zI a), some (zI c), some (zI (k : Int)), some (zI (j : Int))] [] (zPi (fun v ξ => v = (dRow u n (μ 52 1) (μ 3) (μ 4) 0 R k) (a * 5 + c).toNat ∧ cTr μ ξ n u R k)) := by
  have hH0 := hH
  obtain ⟨hn, hu, hm, ht, hn5, hm6, ht10, hu1, hdk⟩ := hH0
  intro t0
  induction t0 using Nat.strongRecOn with
  | ind t0 ih =>
    intro j hk hjk ν hT
    refine zA_iload dX8_shows_50 rfl ?_
    refine zA_iload_n dX8_shows_52 rfl ?_
    refine zA_icmp_ge (tgt := 82) dX8_shows_53 rfl (fun h53 => ?_) (fun h53 => ?_)
    · refine zA_aload_n dX8_shows_82 rfl ?_
      refine zA_getR fX8_78 t_0 rfl dX8_shows_83 ?_
      refine zA_iload_n dX8_shows_86 rfl ?_
      refine zA_iload_n dX8_shows_87 rfl ?_
      refine zA_cSi (st := [zR 104]) kX8_147 (c_X8_cell (d + 3) (a) (c) ν (by omega) (by omega)) rfl rfl rfl dX8_shows_88 (zfit0 (by omega) rfl) (fun v1 μ1 q1 => ?_)
      obtain ⟨rfl, rfl⟩ := q1
      refine zA_ialE (w := (dRow u n (μ 52 1) (μ 3) (μ 4) 0 R k) (a * 5 + c).toNat) (j := (a * 5 + c).toNat) t_104 (by omega) (by omega) dX8_shows_91 rfl (by rw [hT.1, show j = k by omega]) ?_
      exact zA_ri dX8_shows_92 ⟨rfl, by rw [show k = j by omega]; exact hT⟩
    · refine zA_aload_n dX8_shows_56 rfl ?_
      refine zA_getR fX8_12 t_0 rfl dX8_shows_57 ?_
      refine zA_aload_n dX8_shows_60 rfl ?_
      refine zA_getR fX8_78 t_0 rfl dX8_shows_61 ?_
      refine zA_aload_n dX8_shows_64 rfl ?_
      refine zA_getR fX8_47 t_0 rfl dX8_shows_65 ?_
      refine zA_getE (w := μ 52 1) fX8_126 t_52 dX8_shows_68 (by rw [hT.2 52 (by decide) (by decide) (by decide) (by decide) (by decide)]) ?_
      refine zA_iload dX8_shows_71 rfl ?_
      refine zA_cVv (st := []) kX8_206 t_1 rfl rfl (c_X2_goPlanned d ν 104 n m t u (μ 52 1) j t_104 (hT.zHs hH) (by omega) (by rw [hT.1]; exact dRow_ok hn5 hu1 hdk hR j (by omega))) rfl rfl rfl dX8_shows_73 (zfit0 (by omega) rfl) (fun μ2 q2 => ?_)
      refine zA_iincB (ls' := [some (zR 0), some (zI a), some (zI c), some (zI (k : Int)), some (zI ((j : Int) + 1))]) dX8_shows_76 rfl rfl ⟨by omega, by omega⟩ rfl ?_
      refine zA_goto (tgt := 50) dX8_shows_79 rfl ?_
      exact ih _ (by omega) (j + 1) rfl (by omega) μ2 (hT.step (m := m) (t := t) (by omega) q2)
theorem zA_mono {own : String} {cc : ByteArray} {nL : Nat} {R : Room} {X : zX} {T : zT} {cs : Nat} {μ : zM} {pc : Nat} {ls : List (Option zV)} {st : List zV} {P P' : zP} (h : zA own cc nL R X T cs μ pc ls st P) (hp : ∀ r T' μ', P r T' μ' → P' r T' μ') : zA own cc nL R X T cs μ pc ls st P' :=
  fun G p l e s m args below meth c H locs la Q hC hH hL hst hlo hQ => h G p l e s m args below meth c H locs la Q hC hH hL hst hlo (fun r T' μ' cs' pc' la' H' locs' a1 a2 a3 => hQ r T' μ' cs' pc' la' H' locs' a1 a2 (hp r T' μ' a3))
theorem zAi_mono {own : String} {cc : ByteArray} {nL : Nat} {R : Room} {X : zX} {cs : Nat} {μ : zM} {pc : Nat} {ls : List (Option zV)} {st : List zV} {Q Q' : Int → zM → Prop} (h : zA own cc nL R X TF cs μ pc ls st (zPi Q)) (hp : ∀ v μ', Q v μ' → Q' v μ') : zA own cc nL R X TF cs μ pc ls st (zPi Q') :=
  zA_mono h (fun r T' μ' q => by obtain ⟨h1, v, h2, h3⟩ := q; exact ⟨h1, v, h2, hp v μ' h3⟩)
theorem zAv_mono {own : String} {cc : ByteArray} {nL : Nat} {R : Room} {X : zX} {cs : Nat} {μ : zM} {pc : Nat} {ls : List (Option zV)} {st : List zV} {Q Q' : zM → Prop} (h : zA own cc nL R X TF cs μ pc ls st (zPv Q)) (hp : ∀ μ', Q μ' → Q' μ') : zA own cc nL R X TF cs μ pc ls st (zPv Q') :=
  zA_mono h (fun r T' μ' q => by obtain ⟨h1, h2, h3⟩ := q; exact ⟨h1, h2, hp μ' h3⟩)
theorem c_X8_shows (d : Nat) (μ : zM) (n m t : Nat) (u a c k : Int) (hH : zHs μ n m t u) (hok : rOk n m (μ 53)) : zMet (d + 5) 0 yX8_shows cX8_shows 5 (some .int) TF μ [zR 0, zI a, zI c, zI k] (zPi (fun v ν => qC μ ν ∧ ((¬ ((0 ≤ a ∧ a < m) ∧ (0 ≤ c ∧ c < n)) ∧ v = -1000000001) ∨ (((0 ≤ a ∧ a < m) ∧ (0 ≤ c ∧ c < n)) ∧ ¬ (0 ≤ k ∧ k ≤ t) ∧ v = -1000000002) ∨ (((0 ≤ a ∧ a < m) ∧ (0 ≤ c ∧ c < n)) ∧ (0 ≤ k ∧ k ≤ t) ∧ ∃ R, (∀ i, i < 30 → R i = μ 53 i) ∧ v = (dRow u n (μ 52 1) (μ 3) (μ 4) 0 R k.toNat) (a * 5 + c).toNat)))) := by
  have hH0 := hH
  obtain ⟨hn, hu, hm, ht, hn5, hm6, ht10, hu1, hdk⟩ := hH0
  refine zMi_of RX8 rfl (by decide) rfl (ls := [some (zR 0), some (zI a), some (zI c), some (zI k), none]) rfl (fun hok0 => ?_)
  refine zA_aload_n dX8_shows_0 rfl ?_
  refine zA_getR fX8_12 t_0 rfl dX8_shows_1 ?_
  refine zA_iload_n dX8_shows_4 rfl ?_
  refine zA_iload_n dX8_shows_5 rfl ?_
  refine zA_cVb (st := []) kX8_140 t_1 rfl rfl (c_X2_hasCell (d + 2) a c μ) rfl rfl rfl dX8_shows_6 (zfit0 (by omega) rfl) (fun v1 μ1 q1 => ?_)
  obtain ⟨b1, rfl⟩ := q1
  rw [hn, hm] at b1
  refine zA_ifb_ne (tgt := 15) dX8_shows_9 rfl (fun h9 => ?_) (fun h9 => ?_)
  · have hb := b1.mp h9
    refine zA_iload_n dX8_shows_15 rfl ?_
    refine zA_if_lt (tgt := 30) dX8_shows_16 rfl (fun h16 => ?_) (fun h16 => ?_)
    · refine zA_ldc cX8_88 dX8_shows_30 rfl ?_
      exact zA_ri dX8_shows_32 ⟨qC.refl _, Or.inr (Or.inl ⟨hb, by omega, rfl⟩)⟩
    · refine zA_iload_n dX8_shows_19 rfl ?_
      refine zA_aload_n dX8_shows_20 rfl ?_
      refine zA_getR fX8_12 t_0 rfl dX8_shows_21 ?_
      refine zA_getE (w := (t : Int)) fX8_120 t_1 dX8_shows_24 ht ?_
      refine zA_icmp_le (tgt := 33) dX8_shows_27 rfl (fun h27 => ?_) (fun h27 => ?_)
      · refine zA_aload_n dX8_shows_33 rfl ?_
        refine zA_getR fX8_47 t_0 rfl dX8_shows_34 ?_
        refine zA_getR fX8_144 t_52 rfl dX8_shows_37 ?_
        refine zA_aload_n dX8_shows_40 rfl ?_
        refine zA_getR fX8_78 t_0 rfl dX8_shows_41 ?_
        refine zA_cSv (st := []) kX8_172 (c_X8_copyPartsR (d + 3) 53 104 μ t_53 t_104) rfl rfl rfl dX8_shows_44 (zfit0 (by omega) rfl) (fun μ2 q2 => ?_)
        obtain ⟨q2a, q2b⟩ := q2
        refine zA_iconst dX8_shows_47 rfl ?_
        refine zA_istore (ls' := [some (zR 0), some (zI a), some (zI c), some (zI k), some (zI 0)]) dX8_shows_48 rfl rfl ?_
        obtain ⟨k, rfl⟩ := Int.eq_ofNat_of_zero_le (show 0 ≤ k by omega)
        have hT0 : cTr μ μ2 n u (μ2 104) 0 := ⟨rfl, fun k h1 _ _ _ _ => q2b k h1⟩
        exact zAi_mono (l_X8_shows d μ n m t u (μ2 104) hH (rOk_congr hn5 hm6 (fun i hi => (q2a i hi).symm) hok) a c k hb.1 hb.2 (by omega) _ 0 rfl (by omega) μ2 hT0) (fun v ξ h => ⟨h.2.qc, Or.inr (Or.inr ⟨hb, by omega, μ2 104, q2a, h.1⟩)⟩)
      · refine zA_ldc cX8_88 dX8_shows_30 rfl ?_
        exact zA_ri dX8_shows_32 ⟨qC.refl _, Or.inr (Or.inl ⟨hb, by omega, rfl⟩)⟩
  · refine zA_ldc cX8_151 dX8_shows_12 rfl ?_
    exact zA_ri dX8_shows_14 ⟨qC.refl _, Or.inl ⟨fun q => by have := b1.mpr q; simp_all, rfl⟩⟩
theorem c_X9_goOn0 (d : Nat) (μ : zM) (n m t k : Nat) (u wo : Int) (hH : zMs μ n m t u) (hk : k ≤ t) (hok : rOk n m (μ 122)) : zMet (d + 4) 0 yX9_goOn cX9_goOn 5 none TF μ [zR 110, zI 0, zI (k : Int), zI wo] (zPv (fun ν => ν 122 = dRow u n (μ 114 30) (μ 112) (μ 113) wo (μ 122) k ∧ ∀ k, k ≠ 122 → k ≠ 119 → ν k = μ k)) := by
  have h := c_X9_goOn d μ n m t 0 k u wo hH (by omega) hok
  rw [Nat.zero_add] at h
  exact zMv_mono h (fun ν q => ⟨by rw [q.1, dSeg_0], q.2⟩)
theorem dRow_congrR {u : Int} {n m t : Nat} {g : Int} {f s : Nat → Int} {wo : Int} {row row' : Nat → Int} (hn : n ≤ 5) (hm : m ≤ 6) (hd : dOk m t f s) (h : ∀ i, i < 30 → row i = row' i) {k : Nat} (hk : k ≤ t) : ∀ i, i < 30 → dRow u n g f s wo row k i = dRow u n g f s wo row' k i := dRow_congr hn hm hd (fun _ _ => rfl) (fun _ _ => rfl) h k hk
theorem c_X9_shows (d : Nat) (μ : zM) (n m t : Nat) (u a c k : Int) (hH : zMs μ n m t u) (hok : rOk n m (μ 114)) : zMet (d + 5) 0 yX9_shows cX9_shows 4 (some .int) TF μ [zR 110, zI a, zI c, zI k] (zPi (fun v ν => qM μ ν ∧ ((¬ ((0 ≤ a ∧ a < m) ∧ (0 ≤ c ∧ c < n)) ∧ v = -1000000001) ∨ (((0 ≤ a ∧ a < m) ∧ (0 ≤ c ∧ c < n)) ∧ ¬ (0 ≤ k ∧ k ≤ t) ∧ v = -1000000002) ∨ (((0 ≤ a ∧ a < m) ∧ (0 ≤ c ∧ c < n)) ∧ (0 ≤ k ∧ k ≤ t) ∧ ∃ R, (∀ i, i < 30 → R i = μ 114 i) ∧ v = (dRow u n (μ 114 30) (μ 112) (μ 113) 0 R k.toNat) (5 * a + c).toNat)))) := by
  have hH0 := hH
  obtain ⟨hn, hu, hm, ht, hn5, hm6, ht10, hu1, hdk⟩ := hH0
  refine zMi_of RX9 rfl (by decide) rfl (ls := [some (zR 110), some (zI a), some (zI c), some (zI k)]) rfl (fun hok0 => ?_)
  refine zA_aload_n dX9_shows_0 rfl ?_
  refine zA_iload_n dX9_shows_1 rfl ?_
  refine zA_cVb (st := []) kX9_187 t_110 rfl rfl (c_X9_isCoat (d + 2) a μ (by omega)) rfl rfl rfl dX9_shows_2 (zfit0 (by omega) rfl) (fun v1 μ1 q1 => ?_)
  obtain ⟨b1, rfl⟩ := q1
  rw [hm] at b1
  refine zA_ifb_eq (tgt := 16) dX9_shows_5 rfl (fun h5 => ?_) (fun h5 => ?_)
  · refine zA_ldc cX9_194 dX9_shows_16 rfl ?_
    exact zA_ri dX9_shows_18 ⟨qM.refl _, Or.inl ⟨fun q => by first | (have := b1.mpr q.1; simp_all; done) | (have := b2.mpr q.2; simp_all; done), rfl⟩⟩
  · refine zA_aload_n dX9_shows_8 rfl ?_
    refine zA_iload_n dX9_shows_9 rfl ?_
    refine zA_cVb (st := []) kX9_191 t_110 rfl rfl (c_X9_isColour (d + 2) c μ (by omega)) rfl rfl rfl dX9_shows_10 (zfit0 (by omega) rfl) (fun v2 μ2 q2 => ?_)
    obtain ⟨b2, rfl⟩ := q2
    rw [hn] at b2
    refine zA_ifb_ne (tgt := 19) dX9_shows_13 rfl (fun h13 => ?_) (fun h13 => ?_)
    · have hb := And.intro (b1.mp (by simpa using h5)) (b2.mp (by simpa using h13))
      refine zA_iload_n dX9_shows_19 rfl ?_
      refine zA_i2l dX9_shows_20 ?_
      refine zA_lconst (v := 0) dX9_shows_21 rfl rfl ?_
      refine zA_aload_n dX9_shows_22 rfl ?_
      refine zA_getE (w := (t : Int)) fX9_169 t_110 dX9_shows_23 ht ?_
      refine zA_i2l dX9_shows_26 ?_
      refine zA_cSb (st := []) kX9_81 (c_X9_in (d + 3) (k) (0) ((t : Int)) μ) rfl rfl rfl dX9_shows_27 (zfit0 (by omega) rfl) (fun v3 μ3 q3 => ?_)
      obtain ⟨b3, rfl⟩ := q3
      refine zA_ifb_ne (tgt := 36) dX9_shows_30 rfl (fun h30 => ?_) (fun h30 => ?_)
      · have hk := b3.mp h30
        obtain ⟨k, rfl⟩ := Int.eq_ofNat_of_zero_le (show 0 ≤ k by omega)
        refine zA_aload_n dX9_shows_36 rfl ?_
        refine zA_cVv (st := []) kX9_225 t_110 rfl rfl (c_X9_begin (d + 3) μ) rfl rfl rfl dX9_shows_37 (zfit0 (by omega) rfl) (fun μ4 q4 => ?_)
        obtain ⟨q4a, q4b⟩ := q4
        refine zA_aload_n dX9_shows_40 rfl ?_
        refine zA_iconst dX9_shows_41 rfl ?_
        refine zA_iload_n dX9_shows_42 rfl ?_
        refine zA_iconst dX9_shows_43 rfl ?_
        refine zA_cVv (st := []) kX9_228 t_110 rfl rfl (c_X9_goOn0 d μ4 n m t k u 0 (hH.keep (q4b 110 (by decide)) (q4b 112 (by decide)) (q4b 113 (by decide))) (by omega) (rOk_congr hn5 hm6 (fun i hi => (q4a i hi).symm) hok)) rfl rfl rfl dX9_shows_44 (zfit0 (by omega) rfl) (fun μ5 q5 => ?_)
        obtain ⟨q5a, q5b⟩ := q5
        refine zA_aload_n dX9_shows_47 rfl ?_
        refine zA_getR fX9_47 t_110 rfl dX9_shows_48 ?_
        refine zA_iconst dX9_shows_51 rfl ?_
        refine zA_iload_n dX9_shows_52 rfl ?_
        refine zA_imulB dX9_shows_53 ⟨by omega, by omega⟩ ?_
        refine zA_iload_n dX9_shows_54 rfl ?_
        refine zA_iaddB dX9_shows_55 ⟨by omega, by omega⟩ ?_
        refine zA_ialE (w := (dRow u n (μ 114 30) (μ 112) (μ 113) 0 (μ4 122) k) (5 * a + c).toNat) (j := ((5 * a) + c).toNat) t_122 (by omega) (by omega) dX9_shows_56 rfl (by rw [q5a, q4b 114 (by decide), q4b 112 (by decide), q4b 113 (by decide)]) ?_
        exact zA_ri dX9_shows_57 ⟨⟨fun k k1 k2 _ k4 _ _ => by rw [q5b k k4 k2, q4b k k4], fun i _ _ => by rw [q5b 110 (by decide) (by decide), q4b 110 (by decide)]⟩, Or.inr (Or.inr ⟨hb, by omega, μ4 122, q4a, rfl⟩)⟩
      · refine zA_ldc cX9_89 dX9_shows_33 rfl ?_
        exact zA_ri dX9_shows_35 ⟨qM.refl _, Or.inr (Or.inl ⟨hb, fun q => by have := b3.mpr q; simp_all, rfl⟩)⟩
    · refine zA_ldc cX9_194 dX9_shows_16 rfl ?_
      exact zA_ri dX9_shows_18 ⟨qM.refl _, Or.inl ⟨fun q => by first | (have := b1.mpr q.1; simp_all; done) | (have := b2.mpr q.2; simp_all; done), rfl⟩⟩
theorem pr_shows (μ : zM) (a c k : Int) (n m t : Nat) (u : Int) (hI : zInv μ n m t u) : zPair yX8_shows cX8_shows 5 yX9_shows cX9_shows 4 [zI a, zI c, zI k] μ := by
  obtain ⟨hn, hu, hm, ht0, hn5, hm6, ht10, hu1, hdk⟩ := hI.1.1
  refine zPair_q hI (if ((0 ≤ a ∧ a < m) ∧ (0 ≤ c ∧ c < n)) then (if 0 ≤ k ∧ k ≤ t then (dRow u n (μ 114 30) (μ 112) (μ 113) 0 (μ 114) k.toNat) (5 * a + c).toNat else -1000000002) else -1000000001) (zMi_mono (c_X8_shows 15 μ n m t u a c k hI.1.1 hI.2.1.2.1) ?_) (fun ν hq hν => zMi_mono (c_X9_shows 15 ν n m t u a c k hν.1.2.1 hν.mrow) ?_)
  · rintro v ν ⟨hq, h⟩
    refine ⟨?_, hq⟩
    rcases h with ⟨h1, rfl⟩ | ⟨h1, h2, rfl⟩ | ⟨h1, h2, R, hR, rfl⟩
    · rw [if_neg h1]
    · rw [if_pos h1, if_neg h2]
    · rw [if_pos h1, if_pos h2, show (5 * a + c).toNat = (a * 5 + c).toNat by omega]
      exact tr_eq hI (fun i hi => by rw [hR i (by omega)]; exact hI.row i hi) (by omega) _ (by omega)
  · rintro v ξ ⟨hx, h⟩
    refine ⟨?_, hx⟩
    have e114 : ν 114 = μ 114 := hq 114 (by unfold cScr; omega)
    have e112 : ν 112 = μ 112 := hq 112 (by unfold cScr; omega)
    have e113 : ν 113 = μ 113 := hq 113 (by unfold cScr; omega)
    have hdm := hν.1.2.1.2.2.2.2.2.2.2.2
    rcases h with ⟨h1, rfl⟩ | ⟨h1, h2, rfl⟩ | ⟨h1, h2, R, hR, rfl⟩
    · rw [if_neg h1]
    · rw [if_pos h1, if_neg h2]
    · rw [if_pos h1, if_pos h2, ← e114, ← e112, ← e113]
      exact dRow_congrR hn5 hm6 hdm hR (by omega) _ (by omega)
