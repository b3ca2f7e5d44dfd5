/-! ===== house, the pair ===== -/
theorem hNew.hi {μ ν : zM} : ∀ {S : txT}, hNew μ ν S → ∀ k, 110 ≤ k → ν k = μ k
  | (_, _, _, _, _, _, _, _, _, _), h => h.2.2.2.2.2.2.1
theorem pr_house (μ : zM) (n m t : Nat) (u : Int) (hI : zInv μ n m t u) : zPair yX8_house cX8_house 2 yX9_house cX9_house 2 [] μ := by
  obtain ⟨hh, hst, ⟨L, l1, l2, l3, l4⟩, hm, h1, h2, h3, h4⟩ := hI
  have hT : cT μ (μ 16) L := ⟨l2, l1, fun i hi => ⟨rfl, (l4 i hi).2⟩⟩
  refine zMi_mono (c_X8_house 12 μ (μ 16) L hT) (fun v ν hv => ?_)
  have hhi : ∀ k, 110 ≤ k → ν k = μ k := by
    rcases hv with ⟨-, -, -, f, -⟩ | ⟨-, -, ξ, -, -, f, -, g⟩
    · exact fun k hk => f k (by omega) (by omega) (by omega) (by omega) (by omega) (by omega)
    · exact fun k hk => by rw [g.hi k hk]; exact f k (by omega) (by omega) (by omega) (by omega) (by omega) (by omega)
  have hT' : mT ν (μ 16) L := ⟨by rw [hhi 110 (by decide)]; exact l3, l1, fun i hi => ⟨by rw [hhi 115 (by decide)]; exact (l4 i hi).1.symm, (l4 i hi).2⟩⟩
  refine zMi_mono (c_X9_house 12 ν (μ 16) L hT') (fun w ξ hw => ?_)
  rcases hv with ⟨r0, rv, rf, rk, ri, r8⟩ | ⟨r0, rv, ζ, z1, z2, zk, zi, hN⟩
  · rcases hw with ⟨-, sv, sf, sk, si, s11⟩ | ⟨s0, -⟩
    · have K : ∀ k, (0 < k ∧ k < 8 ∨ 12 < k ∧ k < 110 ∨ 110 < k ∧ k < 116 ∨ 118 < k) → ξ k = μ k := fun k hk => by rw [sk k (by omega) (by omega) (by omega) (by omega)]; exact rk k (by omega) (by omega) (by omega) (by omega) (by omega) (by omega)
      have K110 : ∀ i, (i < 11 ∨ 22 < i) → ξ 110 i = μ 110 i := fun i hi => by rw [si i (by omega), hhi 110 (by decide)]
      have k0 : ξ 0 = ν 0 := sk 0 (by decide) (by decide) (by decide) (by decide)
      have K0 : ∀ i, i ≠ 15 → ξ 0 i = μ 0 i := fun i hi => by rw [k0]; exact ri i hi
      refine ⟨by rw [rv, sv], n, m, t, u, hh.keep (K _ (by omega)) (K _ (by omega)) (K _ (by omega)) (K _ (by omega)) (K _ (by omega)) (K _ (by omega)) (K _ (by omega)) (K110 _ (by decide)) (K110 _ (by decide)) (K110 _ (by decide)) (K110 _ (by decide)) (K110 _ (by decide)), hst.keep (K _ (by omega)) (K _ (by omega)) (K _ (by omega)), ⟨0, by omega, by rw [sk 8 (by decide) (by decide) (by decide) (by decide), r8]; rfl, by rw [s11]; rfl, fun i hi => absurd hi (Nat.not_lt_zero _)⟩, ⟨by rw [k0, rf, sf], by rw [K0 14 (by decide), K110 9 (by decide)]; exact hm.2.1, by rw [K0 14 (by decide)]; exact hm.2.2⟩, h1.keep (K _ (by omega)) (K _ (by omega)) (K _ (by omega)) (K _ (by omega)) (K _ (by omega)) (K110 _ (by decide)), h2.keep (K _ (by omega)) (K _ (by omega)) (K _ (by omega)) (K _ (by omega)) (K _ (by omega)) (K110 _ (by decide)), h3.keep (K0 13 (by decide)) (K _ (by omega)) (K _ (by omega)) (K _ (by omega)) (fun k _ _ => K k (by omega)), h4.keep (K _ (by omega)) (K110 _ (by decide)) (K _ (by omega)) (fun k _ _ => K k (by omega))⟩
    · exact absurd s0 r0
  · rcases hw with ⟨s0, -⟩ | ⟨-, sv, hM⟩
    · exact absurd r0 s0
    · have hW : txW L (txR (μ 16) L (L + 1) tx0).2 := txR_W (x := μ 16) (L + 1) tx0 (tx0_W L)
      have hvw : v = w := by rw [rv, sv]
      clear r0 rv sv
      generalize (txR (μ 16) L (L + 1) tx0).2 = S at hN hM hW
      obtain ⟨a, n', u', m', g, dg, t', ow, fi, se⟩ := S
      obtain ⟨w1, w2, w3, w4, w5, w6, w7, w8, w9⟩ := hW
      obtain ⟨⟨a1, a2, a3, a4, a5⟩, a6, a7, ⟨a8, a9, a10⟩, ⟨a11, a12, a13, a14⟩, ⟨a15, a16, a17, a18, a19⟩, a20, a21⟩ := hN
      obtain ⟨⟨b1, b2, b3, b4, b5⟩, b6, b7, ⟨b8, b9, b10⟩, ⟨b11, b12, b13, b14, b15⟩, ⟨b16, b17⟩, b18, b19⟩ := hM
      have E : ∀ k, k < 110 → ξ k = ν k := b19
      have zz : ∀ k, 12 < k → k < 110 → ζ k = μ k := fun k h h' => zk k (by omega) (by omega) (by omega) (by omega) (by omega) (by omega)
      have o2 : ∀ i, lv n' m' i → ξ 2 i = ow i := fun i hi => by rw [E 2 (by decide)]; exact (a6 i hi).1
      have o53 : ∀ i, lv n' m' i → ξ 53 i = ow i := fun i hi => by rw [E 53 (by decide)]; exact (a6 i hi).2
      refine ⟨hvw, n', m', t', u', ⟨⟨by rw [E 1 (by decide)]; exact a1, by rw [E 1 (by decide)]; exact a2, by rw [E 1 (by decide)]; exact a3, by rw [E 1 (by decide)]; exact a5, w2, w5, w6, w7, fun k hk => ?_⟩, ⟨b1, b2, b3, b5, w2, w5, w6, w7, fun k hk => ?_⟩, by rw [E 1 (by decide), a4, b4], fun i hi => by rw [o2 i hi, (b6 i hi).1], rOk_congrL w2 (fun i hi => (o2 i hi).symm) w8, fun k hk => ?_, w4⟩, ⟨fun i hi => by rw [Nat.zero_add]; show ξ 53 i = _; rw [o53 i hi, (b6 i hi).2], rOk_congrL w2 (fun i hi => (o53 i hi).symm) w8, by rw [E 52 (by decide), a8]; exact b8.symm, by rw [E 52 (by decide), a9]; exact b9.symm, by rw [E 52 (by decide), a10]; exact b10.symm⟩, ⟨0, by omega, by rw [E 8 (by decide), a21, z2]; rfl, by rw [b15]; rfl, fun i hi => absurd hi (Nat.not_lt_zero _)⟩, ⟨by rw [E 0 (by decide), a19, z1, b14], by rw [E 0 (by decide), a18, zi 14 (by decide), b18, hhi 110 (by decide)]; exact hm.2.1, by rw [E 0 (by decide), a18, zi 14 (by decide)]; exact hm.2.2⟩, ?_, ?_, ⟨⟨0, by decide, by rw [E 0 (by decide), a14]; rfl⟩, fun i hi => ?_⟩, ?_⟩
      · rw [E 3 (by decide), E 4 (by decide), (a7 k hk).1, (a7 k hk).2]
        exact w9 k hk
      · rw [(b7 k hk).1, (b7 k hk).2]
        exact w9 k hk
      · rw [E 3 (by decide), E 4 (by decide), (a7 k hk).1, (a7 k hk).2, (b7 k hk).1, (b7 k hk).2]
        exact ⟨rfl, rfl⟩
      · obtain ⟨s, s1, s2, s3, s4, s5⟩ := h1
        exact ⟨0, by omega, by rw [E 96 (by decide), a11]; rfl, by rw [b11]; rfl, by rw [E 96 (by decide), a15, zz 96 (by decide) (by decide)]; exact s4, fun k hk => absurd hk (Nat.not_lt_zero _), fun k hk => absurd hk (Nat.not_lt_zero _)⟩
      · obtain ⟨s, s1, s2, s3, s4, s5⟩ := h2
        exact ⟨0, by omega, by rw [E 99 (by decide), a12]; rfl, by rw [b12]; rfl, by rw [E 99 (by decide), a16, zz 99 (by decide) (by decide)]; exact s4, fun k hk => absurd hk (Nat.not_lt_zero _), fun k hk => absurd hk (Nat.not_lt_zero _)⟩
      · have e0 : ξ 130 i = 0 := by
          have : i = 0 ∨ i = 1 := by omega
          rcases this with rfl | rfl
          · exact b16
          · exact b17
        have ez : zbit (ξ 0 13) i = 0 := by
          rw [E 0 (by decide), a14]
          exact zbit_z i (by omega)
        refine ⟨Or.inl e0, ?_, fun q => ?_⟩
        · rw [ez, e0]
        · rw [e0] at q
          exact absurd q (by decide)
      · obtain ⟨z, x, q1, q2, q3, q4, q5, q6⟩ := h4
        exact ⟨0, x, by omega, q2, by rw [E 54 (by decide), a13]; rfl, by rw [b13]; rfl, by rw [E 54 (by decide), a17, zz 54 (by decide) (by decide)]; exact q5, fun j hj => absurd hj (Nat.not_lt_zero _)⟩
